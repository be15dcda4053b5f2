abbrev cM_L_grid : ByteArray := method_3_code
def yM_L_grid : MethodName := ⟨"NoteDocumentLaw", "grid", "(LNoteDocument;II[J)I"⟩
theorem dM_L_grid_0 : decode cM_L_grid 0 = .ok (.aload_n 3, 1) := by decide +kernel
theorem dM_L_grid_1 : decode cM_L_grid 1 = .ok (.iconst 0, 1) := by decide +kernel
theorem dM_L_grid_2 : decode cM_L_grid 2 = .ok (.aload_n 0, 1) := by decide +kernel
theorem dM_L_grid_3 : decode cM_L_grid 3 = .ok (.iload_n 1, 1) := by decide +kernel
theorem dM_L_grid_4 : decode cM_L_grid 4 = .ok (.iload_n 2, 1) := by decide +kernel
theorem dM_L_grid_5 : decode cM_L_grid 5 = .ok (.invokevirtual 7, 3) := by decide +kernel
theorem wd_1028 : (Jvm.Cond.code ({ cls := "NoteDocument", name := "grid", desc := "(II)I" } : Jvm.MethodName) prog_1_method_2_code (3 : Nat) (Option.some Jvm.ClassFile.FieldType.int)) ∈ BIG := big_t (List.mem_of_getElem? (i := 1028) (by decide +kernel)) (by decide +kernel)
theorem wd_1025 : (Jvm.Cond.methodLink "NoteDocumentLaw" (7 : Nat) ({ cls := "NoteDocument", name := "grid", desc := "(II)I" } : Jvm.MethodName)) ∈ BIG := big_t (List.mem_of_getElem? (i := 1025) (by decide +kernel)) (by decide +kernel)
theorem wd_1026 : (Jvm.Cond.instanceMethod ({ cls := "NoteDocument", name := "grid", desc := "(II)I" } : Jvm.MethodName)) ∈ BIG := big_t (List.mem_of_getElem? (i := 1026) (by decide +kernel)) (by decide +kernel)
theorem wd_1027 : (Jvm.Cond.selects "NoteDocument" ({ cls := "NoteDocument", name := "grid", desc := "(II)I" } : Jvm.MethodName) ({ cls := "NoteDocument", name := "grid", desc := "(II)I" } : Jvm.MethodName)) ∈ BIG := big_t (List.mem_of_getElem? (i := 1027) (by decide +kernel)) (by decide +kernel)
theorem wd_1023 : (Jvm.Cond.classLink "NoteDocumentLaw" (13 : Nat) "java/lang/IllegalArgumentException") ∈ BIG := big_t (List.mem_of_getElem? (i := 1023) (by decide +kernel)) (by decide +kernel)
theorem wx_1031 : (Jvm.Cond.castable "java/lang/IllegalArgumentException" "java/lang/IllegalArgumentException") ∈ XW := xw_t (List.mem_of_getElem? (i := 1031) (by decide +kernel)) (by decide +kernel)
theorem dM_L_grid_13 : decode cM_L_grid 13 = .ok (.astore 4, 2) := by decide +kernel
theorem dM_L_grid_15 : decode cM_L_grid 15 = .ok (.iconst 1, 1) := by decide +kernel
theorem dM_L_grid_16 : decode cM_L_grid 16 = .ok (.ireturn, 1) := by decide +kernel
theorem dM_L_grid_8 : decode cM_L_grid 8 = .ok (.i2l, 1) := by decide +kernel
theorem dM_L_grid_9 : decode cM_L_grid 9 = .ok (.lastore, 1) := by decide +kernel
theorem dM_L_grid_10 : decode cM_L_grid 10 = .ok (.goto 11, 3) := by decide +kernel
theorem dM_L_grid_21 : decode cM_L_grid 21 = .ok (.iconst 0, 1) := by decide +kernel
theorem dM_L_grid_22 : decode cM_L_grid 22 = .ok (.ireturn, 1) := by decide +kernel
abbrev cM_L_rows : ByteArray := method_4_code
def yM_L_rows : MethodName := ⟨"NoteDocumentLaw", "rows", "(LNoteDocument;I[J)I"⟩
theorem dM_L_rows_0 : decode cM_L_rows 0 = .ok (.aload_n 2, 1) := by decide +kernel
theorem dM_L_rows_1 : decode cM_L_rows 1 = .ok (.iconst 0, 1) := by decide +kernel
theorem dM_L_rows_2 : decode cM_L_rows 2 = .ok (.aload_n 0, 1) := by decide +kernel
theorem dM_L_rows_3 : decode cM_L_rows 3 = .ok (.iload_n 1, 1) := by decide +kernel
theorem dM_L_rows_4 : decode cM_L_rows 4 = .ok (.invokevirtual 17, 3) := by decide +kernel
theorem wd_1121 : (Jvm.Cond.code ({ cls := "NoteDocument", name := "rows", desc := "(I)I" } : Jvm.MethodName) prog_1_method_3_code (2 : Nat) (Option.some Jvm.ClassFile.FieldType.int)) ∈ BIG := big_t (List.mem_of_getElem? (i := 1121) (by decide +kernel)) (by decide +kernel)
theorem wd_1118 : (Jvm.Cond.methodLink "NoteDocumentLaw" (17 : Nat) ({ cls := "NoteDocument", name := "rows", desc := "(I)I" } : Jvm.MethodName)) ∈ BIG := big_t (List.mem_of_getElem? (i := 1118) (by decide +kernel)) (by decide +kernel)
theorem wd_1119 : (Jvm.Cond.instanceMethod ({ cls := "NoteDocument", name := "rows", desc := "(I)I" } : Jvm.MethodName)) ∈ BIG := big_t (List.mem_of_getElem? (i := 1119) (by decide +kernel)) (by decide +kernel)
theorem wd_1120 : (Jvm.Cond.selects "NoteDocument" ({ cls := "NoteDocument", name := "rows", desc := "(I)I" } : Jvm.MethodName) ({ cls := "NoteDocument", name := "rows", desc := "(I)I" } : Jvm.MethodName)) ∈ BIG := big_t (List.mem_of_getElem? (i := 1120) (by decide +kernel)) (by decide +kernel)
theorem wd_1117 : (Jvm.Cond.classLink "NoteDocumentLaw" (21 : Nat) "java/lang/IndexOutOfBoundsException") ∈ BIG := big_t (List.mem_of_getElem? (i := 1117) (by decide +kernel)) (by decide +kernel)
theorem wx_1128 : (Jvm.Cond.castable "java/lang/IndexOutOfBoundsException" "java/lang/IndexOutOfBoundsException") ∈ XW := xw_t (List.mem_of_getElem? (i := 1128) (by decide +kernel)) (by decide +kernel)
theorem dM_L_rows_12 : decode cM_L_rows 12 = .ok (.astore_n 3, 1) := by decide +kernel
theorem dM_L_rows_13 : decode cM_L_rows 13 = .ok (.iconst 1, 1) := by decide +kernel
theorem dM_L_rows_14 : decode cM_L_rows 14 = .ok (.ireturn, 1) := by decide +kernel
abbrev cM_L_set : ByteArray := method_5_code
def yM_L_set : MethodName := ⟨"NoteDocumentLaw", "set", "(LNoteDocument;IIIJ)I"⟩
theorem dM_L_set_0 : decode cM_L_set 0 = .ok (.aload_n 0, 1) := by decide +kernel
theorem dM_L_set_1 : decode cM_L_set 1 = .ok (.iload_n 1, 1) := by decide +kernel
theorem dM_L_set_2 : decode cM_L_set 2 = .ok (.iload_n 2, 1) := by decide +kernel
theorem dM_L_set_3 : decode cM_L_set 3 = .ok (.iload_n 3, 1) := by decide +kernel
theorem dM_L_set_4 : decode cM_L_set 4 = .ok (.lload 4, 2) := by decide +kernel
theorem dM_L_set_6 : decode cM_L_set 6 = .ok (.invokevirtual 23, 3) := by decide +kernel
theorem wd_1148 : (Jvm.Cond.code ({ cls := "NoteDocument", name := "set", desc := "(IIIJ)V" } : Jvm.MethodName) prog_1_method_4_code (7 : Nat) (Option.none : Option Jvm.ClassFile.FieldType)) ∈ BIG := big_t (List.mem_of_getElem? (i := 1148) (by decide +kernel)) (by decide +kernel)
theorem wd_1145 : (Jvm.Cond.methodLink "NoteDocumentLaw" (23 : Nat) ({ cls := "NoteDocument", name := "set", desc := "(IIIJ)V" } : Jvm.MethodName)) ∈ BIG := big_t (List.mem_of_getElem? (i := 1145) (by decide +kernel)) (by decide +kernel)
theorem wd_1146 : (Jvm.Cond.instanceMethod ({ cls := "NoteDocument", name := "set", desc := "(IIIJ)V" } : Jvm.MethodName)) ∈ BIG := big_t (List.mem_of_getElem? (i := 1146) (by decide +kernel)) (by decide +kernel)
theorem wd_1147 : (Jvm.Cond.selects "NoteDocument" ({ cls := "NoteDocument", name := "set", desc := "(IIIJ)V" } : Jvm.MethodName) ({ cls := "NoteDocument", name := "set", desc := "(IIIJ)V" } : Jvm.MethodName)) ∈ BIG := big_t (List.mem_of_getElem? (i := 1147) (by decide +kernel)) (by decide +kernel)
theorem dM_L_set_12 : decode cM_L_set 12 = .ok (.astore 6, 2) := by decide +kernel
theorem dM_L_set_14 : decode cM_L_set 14 = .ok (.iconst 1, 1) := by decide +kernel
theorem dM_L_set_15 : decode cM_L_set 15 = .ok (.ireturn, 1) := by decide +kernel
abbrev cM_L_put : ByteArray := method_6_code
def yM_L_put : MethodName := ⟨"NoteDocumentLaw", "put", "(LNoteDocument;IIII)I"⟩
theorem dM_L_put_0 : decode cM_L_put 0 = .ok (.aload_n 0, 1) := by decide +kernel
theorem dM_L_put_1 : decode cM_L_put 1 = .ok (.iload_n 1, 1) := by decide +kernel
theorem dM_L_put_2 : decode cM_L_put 2 = .ok (.iload_n 2, 1) := by decide +kernel
theorem dM_L_put_3 : decode cM_L_put 3 = .ok (.iload_n 3, 1) := by decide +kernel
theorem dM_L_put_4 : decode cM_L_put 4 = .ok (.iload 4, 2) := by decide +kernel
theorem dM_L_put_6 : decode cM_L_put 6 = .ok (.invokevirtual 27, 3) := by decide +kernel
theorem wd_1181 : (Jvm.Cond.code ({ cls := "NoteDocument", name := "put", desc := "(IIII)V" } : Jvm.MethodName) prog_1_method_5_code (6 : Nat) (Option.none : Option Jvm.ClassFile.FieldType)) ∈ BIG := big_t (List.mem_of_getElem? (i := 1181) (by decide +kernel)) (by decide +kernel)
theorem wd_1178 : (Jvm.Cond.methodLink "NoteDocumentLaw" (27 : Nat) ({ cls := "NoteDocument", name := "put", desc := "(IIII)V" } : Jvm.MethodName)) ∈ BIG := big_t (List.mem_of_getElem? (i := 1178) (by decide +kernel)) (by decide +kernel)
theorem wd_1179 : (Jvm.Cond.instanceMethod ({ cls := "NoteDocument", name := "put", desc := "(IIII)V" } : Jvm.MethodName)) ∈ BIG := big_t (List.mem_of_getElem? (i := 1179) (by decide +kernel)) (by decide +kernel)
theorem wd_1180 : (Jvm.Cond.selects "NoteDocument" ({ cls := "NoteDocument", name := "put", desc := "(IIII)V" } : Jvm.MethodName) ({ cls := "NoteDocument", name := "put", desc := "(IIII)V" } : Jvm.MethodName)) ∈ BIG := big_t (List.mem_of_getElem? (i := 1180) (by decide +kernel)) (by decide +kernel)
theorem dM_L_put_12 : decode cM_L_put 12 = .ok (.astore 5, 2) := by decide +kernel
theorem dM_L_put_14 : decode cM_L_put 14 = .ok (.iconst 1, 1) := by decide +kernel
theorem dM_L_put_15 : decode cM_L_put 15 = .ok (.ireturn, 1) := by decide +kernel
abbrev cM_L_erase : ByteArray := method_7_code
def yM_L_erase : MethodName := ⟨"NoteDocumentLaw", "erase", "(LNoteDocument;III[J)I"⟩
theorem dM_L_erase_0 : decode cM_L_erase 0 = .ok (.aload 4, 2) := by decide +kernel
theorem dM_L_erase_2 : decode cM_L_erase 2 = .ok (.iconst 0, 1) := by decide +kernel
theorem dM_L_erase_3 : decode cM_L_erase 3 = .ok (.aload_n 0, 1) := by decide +kernel
theorem dM_L_erase_4 : decode cM_L_erase 4 = .ok (.iload_n 1, 1) := by decide +kernel
theorem dM_L_erase_5 : decode cM_L_erase 5 = .ok (.iload_n 2, 1) := by decide +kernel
theorem dM_L_erase_6 : decode cM_L_erase 6 = .ok (.iload_n 3, 1) := by decide +kernel
theorem dM_L_erase_7 : decode cM_L_erase 7 = .ok (.invokevirtual 31, 3) := by decide +kernel
theorem wd_1201 : (Jvm.Cond.code ({ cls := "NoteDocument", name := "erase", desc := "(III)I" } : Jvm.MethodName) prog_1_method_6_code (7 : Nat) (Option.some Jvm.ClassFile.FieldType.int)) ∈ BIG := big_t (List.mem_of_getElem? (i := 1201) (by decide +kernel)) (by decide +kernel)
theorem wd_1198 : (Jvm.Cond.methodLink "NoteDocumentLaw" (31 : Nat) ({ cls := "NoteDocument", name := "erase", desc := "(III)I" } : Jvm.MethodName)) ∈ BIG := big_t (List.mem_of_getElem? (i := 1198) (by decide +kernel)) (by decide +kernel)
theorem wd_1199 : (Jvm.Cond.instanceMethod ({ cls := "NoteDocument", name := "erase", desc := "(III)I" } : Jvm.MethodName)) ∈ BIG := big_t (List.mem_of_getElem? (i := 1199) (by decide +kernel)) (by decide +kernel)
theorem wd_1200 : (Jvm.Cond.selects "NoteDocument" ({ cls := "NoteDocument", name := "erase", desc := "(III)I" } : Jvm.MethodName) ({ cls := "NoteDocument", name := "erase", desc := "(III)I" } : Jvm.MethodName)) ∈ BIG := big_t (List.mem_of_getElem? (i := 1200) (by decide +kernel)) (by decide +kernel)
theorem dM_L_erase_15 : decode cM_L_erase 15 = .ok (.astore 5, 2) := by decide +kernel
theorem dM_L_erase_17 : decode cM_L_erase 17 = .ok (.iconst 1, 1) := by decide +kernel
theorem dM_L_erase_18 : decode cM_L_erase 18 = .ok (.ireturn, 1) := by decide +kernel
abbrev cM_L_hold : ByteArray := method_8_code
def yM_L_hold : MethodName := ⟨"NoteDocumentLaw", "hold", "(LNoteDocument;IIIJ[J)I"⟩
theorem dM_L_hold_0 : decode cM_L_hold 0 = .ok (.aload 6, 2) := by decide +kernel
theorem dM_L_hold_2 : decode cM_L_hold 2 = .ok (.iconst 0, 1) := by decide +kernel
theorem dM_L_hold_3 : decode cM_L_hold 3 = .ok (.aload_n 0, 1) := by decide +kernel
theorem dM_L_hold_4 : decode cM_L_hold 4 = .ok (.iload_n 1, 1) := by decide +kernel
theorem dM_L_hold_5 : decode cM_L_hold 5 = .ok (.iload_n 2, 1) := by decide +kernel
theorem dM_L_hold_6 : decode cM_L_hold 6 = .ok (.iload_n 3, 1) := by decide +kernel
theorem dM_L_hold_7 : decode cM_L_hold 7 = .ok (.lload 4, 2) := by decide +kernel
theorem dM_L_hold_9 : decode cM_L_hold 9 = .ok (.invokevirtual 35, 3) := by decide +kernel
theorem wd_1210 : (Jvm.Cond.code ({ cls := "NoteDocument", name := "hold", desc := "(IIIJ)Z" } : Jvm.MethodName) prog_1_method_7_code (8 : Nat) (Option.some Jvm.ClassFile.FieldType.boolean)) ∈ BIG := big_t (List.mem_of_getElem? (i := 1210) (by decide +kernel)) (by decide +kernel)
theorem wd_1207 : (Jvm.Cond.methodLink "NoteDocumentLaw" (35 : Nat) ({ cls := "NoteDocument", name := "hold", desc := "(IIIJ)Z" } : Jvm.MethodName)) ∈ BIG := big_t (List.mem_of_getElem? (i := 1207) (by decide +kernel)) (by decide +kernel)
theorem wd_1208 : (Jvm.Cond.instanceMethod ({ cls := "NoteDocument", name := "hold", desc := "(IIIJ)Z" } : Jvm.MethodName)) ∈ BIG := big_t (List.mem_of_getElem? (i := 1208) (by decide +kernel)) (by decide +kernel)
theorem wd_1209 : (Jvm.Cond.selects "NoteDocument" ({ cls := "NoteDocument", name := "hold", desc := "(IIIJ)Z" } : Jvm.MethodName) ({ cls := "NoteDocument", name := "hold", desc := "(IIIJ)Z" } : Jvm.MethodName)) ∈ BIG := big_t (List.mem_of_getElem? (i := 1209) (by decide +kernel)) (by decide +kernel)
theorem dM_L_hold_24 : decode cM_L_hold 24 = .ok (.astore 7, 2) := by decide +kernel
theorem dM_L_hold_26 : decode cM_L_hold 26 = .ok (.iconst 1, 1) := by decide +kernel
theorem dM_L_hold_27 : decode cM_L_hold 27 = .ok (.ireturn, 1) := by decide +kernel
abbrev cM_L_rounds : ByteArray := method_9_code
def yM_L_rounds : MethodName := ⟨"NoteDocumentLaw", "rounds", "(LNoteDocument;I[J)I"⟩
theorem dM_L_rounds_0 : decode cM_L_rounds 0 = .ok (.aload_n 2, 1) := by decide +kernel
theorem dM_L_rounds_1 : decode cM_L_rounds 1 = .ok (.iconst 0, 1) := by decide +kernel
theorem dM_L_rounds_2 : decode cM_L_rounds 2 = .ok (.aload_n 0, 1) := by decide +kernel
theorem dM_L_rounds_3 : decode cM_L_rounds 3 = .ok (.iload_n 1, 1) := by decide +kernel
theorem dM_L_rounds_4 : decode cM_L_rounds 4 = .ok (.invokevirtual 39, 3) := by decide +kernel
theorem wd_1219 : (Jvm.Cond.code ({ cls := "NoteDocument", name := "rounds", desc := "(I)I" } : Jvm.MethodName) prog_1_method_8_code (4 : Nat) (Option.some Jvm.ClassFile.FieldType.int)) ∈ BIG := big_t (List.mem_of_getElem? (i := 1219) (by decide +kernel)) (by decide +kernel)
theorem wd_1216 : (Jvm.Cond.methodLink "NoteDocumentLaw" (39 : Nat) ({ cls := "NoteDocument", name := "rounds", desc := "(I)I" } : Jvm.MethodName)) ∈ BIG := big_t (List.mem_of_getElem? (i := 1216) (by decide +kernel)) (by decide +kernel)
theorem wd_1217 : (Jvm.Cond.instanceMethod ({ cls := "NoteDocument", name := "rounds", desc := "(I)I" } : Jvm.MethodName)) ∈ BIG := big_t (List.mem_of_getElem? (i := 1217) (by decide +kernel)) (by decide +kernel)
theorem wd_1218 : (Jvm.Cond.selects "NoteDocument" ({ cls := "NoteDocument", name := "rounds", desc := "(I)I" } : Jvm.MethodName) ({ cls := "NoteDocument", name := "rounds", desc := "(I)I" } : Jvm.MethodName)) ∈ BIG := big_t (List.mem_of_getElem? (i := 1218) (by decide +kernel)) (by decide +kernel)
theorem dM_L_rounds_12 : decode cM_L_rounds 12 = .ok (.astore_n 3, 1) := by decide +kernel
theorem dM_L_rounds_13 : decode cM_L_rounds 13 = .ok (.iconst 1, 1) := by decide +kernel
theorem dM_L_rounds_14 : decode cM_L_rounds 14 = .ok (.ireturn, 1) := by decide +kernel
theorem dM_L_rounds_7 : decode cM_L_rounds 7 = .ok (.i2l, 1) := by decide +kernel
theorem dM_L_rounds_8 : decode cM_L_rounds 8 = .ok (.lastore, 1) := by decide +kernel
theorem dM_L_rounds_9 : decode cM_L_rounds 9 = .ok (.goto 6, 3) := by decide +kernel
theorem dM_L_rounds_15 : decode cM_L_rounds 15 = .ok (.iconst 0, 1) := by decide +kernel
theorem dM_L_rounds_16 : decode cM_L_rounds 16 = .ok (.ireturn, 1) := by decide +kernel
abbrev cM_L_number : ByteArray := method_10_code
def yM_L_number : MethodName := ⟨"NoteDocumentLaw", "numbe\x72", "(LNoteDocument;J[J)I"⟩
theorem dM_L_number_0 : decode cM_L_number 0 = .ok (.aload_n 3, 1) := by decide +kernel
theorem dM_L_number_1 : decode cM_L_number 1 = .ok (.iconst 0, 1) := by decide +kernel
theorem dM_L_number_2 : decode cM_L_number 2 = .ok (.aload_n 0, 1) := by decide +kernel
theorem dM_L_number_3 : decode cM_L_number 3 = .ok (.lload_n 1, 1) := by decide +kernel
theorem dM_L_number_4 : decode cM_L_number 4 = .ok (.invokevirtual 42, 3) := by decide +kernel
theorem wd_1238 : (Jvm.Cond.code ({ cls := "NoteDocument", name := "numbe\x72", desc := "(J)I" } : Jvm.MethodName) prog_1_method_9_code (4 : Nat) (Option.some Jvm.ClassFile.FieldType.int)) ∈ BIG := big_t (List.mem_of_getElem? (i := 1238) (by decide +kernel)) (by decide +kernel)
theorem wd_1235 : (Jvm.Cond.methodLink "NoteDocumentLaw" (42 : Nat) ({ cls := "NoteDocument", name := "numbe\x72", desc := "(J)I" } : Jvm.MethodName)) ∈ BIG := big_t (List.mem_of_getElem? (i := 1235) (by decide +kernel)) (by decide +kernel)
theorem wd_1236 : (Jvm.Cond.instanceMethod ({ cls := "NoteDocument", name := "numbe\x72", desc := "(J)I" } : Jvm.MethodName)) ∈ BIG := big_t (List.mem_of_getElem? (i := 1236) (by decide +kernel)) (by decide +kernel)
theorem wd_1237 : (Jvm.Cond.selects "NoteDocument" ({ cls := "NoteDocument", name := "numbe\x72", desc := "(J)I" } : Jvm.MethodName) ({ cls := "NoteDocument", name := "numbe\x72", desc := "(J)I" } : Jvm.MethodName)) ∈ BIG := big_t (List.mem_of_getElem? (i := 1237) (by decide +kernel)) (by decide +kernel)
theorem dM_L_number_12 : decode cM_L_number 12 = .ok (.astore 4, 2) := by decide +kernel
theorem dM_L_number_14 : decode cM_L_number 14 = .ok (.iconst 1, 1) := by decide +kernel
theorem dM_L_number_15 : decode cM_L_number 15 = .ok (.ireturn, 1) := by decide +kernel
theorem dM_L_number_7 : decode cM_L_number 7 = .ok (.i2l, 1) := by decide +kernel
theorem dM_L_number_8 : decode cM_L_number 8 = .ok (.lastore, 1) := by decide +kernel
theorem dM_L_number_9 : decode cM_L_number 9 = .ok (.goto 11, 3) := by decide +kernel
theorem dM_L_number_20 : decode cM_L_number 20 = .ok (.iconst 0, 1) := by decide +kernel
theorem dM_L_number_21 : decode cM_L_number 21 = .ok (.ireturn, 1) := by decide +kernel
abbrev cM_L_cell_1 : ByteArray := method_11_code
def yM_L_cell_1 : MethodName := ⟨"NoteDocumentLaw", "cell", "(LNoteDocument;IIIZ[J)I"⟩
theorem dM_L_cell_1_0 : decode cM_L_cell_1 0 = .ok (.aload 5, 2) := by decide +kernel
theorem dM_L_cell_1_2 : decode cM_L_cell_1 2 = .ok (.iconst 0, 1) := by decide +kernel
theorem dM_L_cell_1_3 : decode cM_L_cell_1 3 = .ok (.aload_n 0, 1) := by decide +kernel
theorem dM_L_cell_1_4 : decode cM_L_cell_1 4 = .ok (.iload_n 1, 1) := by decide +kernel
theorem dM_L_cell_1_5 : decode cM_L_cell_1 5 = .ok (.iload_n 2, 1) := by decide +kernel
theorem dM_L_cell_1_6 : decode cM_L_cell_1 6 = .ok (.iload_n 3, 1) := by decide +kernel
theorem dM_L_cell_1_7 : decode cM_L_cell_1 7 = .ok (.iload 4, 2) := by decide +kernel
theorem dM_L_cell_1_9 : decode cM_L_cell_1 9 = .ok (.invokevirtual 46, 3) := by decide +kernel
theorem wd_1254 : (Jvm.Cond.code ({ cls := "NoteDocument", name := "cell", desc := "(IIIZ)I" } : Jvm.MethodName) prog_1_method_10_code (6 : Nat) (Option.some Jvm.ClassFile.FieldType.int)) ∈ BIG := big_t (List.mem_of_getElem? (i := 1254) (by decide +kernel)) (by decide +kernel)
theorem wd_1251 : (Jvm.Cond.methodLink "NoteDocumentLaw" (46 : Nat) ({ cls := "NoteDocument", name := "cell", desc := "(IIIZ)I" } : Jvm.MethodName)) ∈ BIG := big_t (List.mem_of_getElem? (i := 1251) (by decide +kernel)) (by decide +kernel)
theorem wd_1252 : (Jvm.Cond.instanceMethod ({ cls := "NoteDocument", name := "cell", desc := "(IIIZ)I" } : Jvm.MethodName)) ∈ BIG := big_t (List.mem_of_getElem? (i := 1252) (by decide +kernel)) (by decide +kernel)
theorem wd_1253 : (Jvm.Cond.selects "NoteDocument" ({ cls := "NoteDocument", name := "cell", desc := "(IIIZ)I" } : Jvm.MethodName) ({ cls := "NoteDocument", name := "cell", desc := "(IIIZ)I" } : Jvm.MethodName)) ∈ BIG := big_t (List.mem_of_getElem? (i := 1253) (by decide +kernel)) (by decide +kernel)
theorem dM_L_cell_1_17 : decode cM_L_cell_1 17 = .ok (.astore 6, 2) := by decide +kernel
theorem dM_L_cell_1_19 : decode cM_L_cell_1 19 = .ok (.iconst 1, 1) := by decide +kernel
theorem dM_L_cell_1_20 : decode cM_L_cell_1 20 = .ok (.ireturn, 1) := by decide +kernel
abbrev cM_L_range : ByteArray := method_12_code
def yM_L_range : MethodName := ⟨"NoteDocumentLaw", "range", "(LNoteDocument;IIIII[J)I"⟩
theorem dM_L_range_0 : decode cM_L_range 0 = .ok (.aload 6, 2) := by decide +kernel
theorem dM_L_range_2 : decode cM_L_range 2 = .ok (.iconst 0, 1) := by decide +kernel
theorem dM_L_range_3 : decode cM_L_range 3 = .ok (.aload_n 0, 1) := by decide +kernel
theorem dM_L_range_4 : decode cM_L_range 4 = .ok (.iload_n 1, 1) := by decide +kernel
theorem dM_L_range_5 : decode cM_L_range 5 = .ok (.iload_n 2, 1) := by decide +kernel
theorem dM_L_range_6 : decode cM_L_range 6 = .ok (.iload_n 3, 1) := by decide +kernel
theorem dM_L_range_7 : decode cM_L_range 7 = .ok (.iload 4, 2) := by decide +kernel
theorem dM_L_range_9 : decode cM_L_range 9 = .ok (.iload 5, 2) := by decide +kernel
theorem dM_L_range_11 : decode cM_L_range 11 = .ok (.invokevirtual 50, 3) := by decide +kernel
theorem wd_1265 : (Jvm.Cond.code ({ cls := "NoteDocument", name := "range", desc := "(IIIII)I" } : Jvm.MethodName) prog_1_method_11_code (7 : Nat) (Option.some Jvm.ClassFile.FieldType.int)) ∈ BIG := big_t (List.mem_of_getElem? (i := 1265) (by decide +kernel)) (by decide +kernel)
theorem wd_1262 : (Jvm.Cond.methodLink "NoteDocumentLaw" (50 : Nat) ({ cls := "NoteDocument", name := "range", desc := "(IIIII)I" } : Jvm.MethodName)) ∈ BIG := big_t (List.mem_of_getElem? (i := 1262) (by decide +kernel)) (by decide +kernel)
theorem wd_1263 : (Jvm.Cond.instanceMethod ({ cls := "NoteDocument", name := "range", desc := "(IIIII)I" } : Jvm.MethodName)) ∈ BIG := big_t (List.mem_of_getElem? (i := 1263) (by decide +kernel)) (by decide +kernel)
theorem wd_1264 : (Jvm.Cond.selects "NoteDocument" ({ cls := "NoteDocument", name := "range", desc := "(IIIII)I" } : Jvm.MethodName) ({ cls := "NoteDocument", name := "range", desc := "(IIIII)I" } : Jvm.MethodName)) ∈ BIG := big_t (List.mem_of_getElem? (i := 1264) (by decide +kernel)) (by decide +kernel)
theorem dM_L_range_19 : decode cM_L_range 19 = .ok (.astore 7, 2) := by decide +kernel
theorem dM_L_range_21 : decode cM_L_range 21 = .ok (.iconst 1, 1) := by decide +kernel
theorem dM_L_range_22 : decode cM_L_range 22 = .ok (.ireturn, 1) := by decide +kernel
abbrev cM_L_leaf : ByteArray := method_13_code
def yM_L_leaf : MethodName := ⟨"NoteDocumentLaw", "leaf", "(LNoteDocument;II[J)I"⟩
theorem dM_L_leaf_0 : decode cM_L_leaf 0 = .ok (.aload_n 3, 1) := by decide +kernel
theorem dM_L_leaf_1 : decode cM_L_leaf 1 = .ok (.iconst 0, 1) := by decide +kernel
theorem dM_L_leaf_2 : decode cM_L_leaf 2 = .ok (.aload_n 0, 1) := by decide +kernel
theorem dM_L_leaf_3 : decode cM_L_leaf 3 = .ok (.iload_n 1, 1) := by decide +kernel
theorem dM_L_leaf_4 : decode cM_L_leaf 4 = .ok (.iload_n 2, 1) := by decide +kernel
theorem dM_L_leaf_5 : decode cM_L_leaf 5 = .ok (.invokevirtual 54, 3) := by decide +kernel
theorem wd_1273 : (Jvm.Cond.code ({ cls := "NoteDocument", name := "leaf", desc := "(II)I" } : Jvm.MethodName) prog_1_method_12_code (4 : Nat) (Option.some Jvm.ClassFile.FieldType.int)) ∈ BIG := big_t (List.mem_of_getElem? (i := 1273) (by decide +kernel)) (by decide +kernel)
theorem wd_1270 : (Jvm.Cond.methodLink "NoteDocumentLaw" (54 : Nat) ({ cls := "NoteDocument", name := "leaf", desc := "(II)I" } : Jvm.MethodName)) ∈ BIG := big_t (List.mem_of_getElem? (i := 1270) (by decide +kernel)) (by decide +kernel)
theorem wd_1271 : (Jvm.Cond.instanceMethod ({ cls := "NoteDocument", name := "leaf", desc := "(II)I" } : Jvm.MethodName)) ∈ BIG := big_t (List.mem_of_getElem? (i := 1271) (by decide +kernel)) (by decide +kernel)
theorem wd_1272 : (Jvm.Cond.selects "NoteDocument" ({ cls := "NoteDocument", name := "leaf", desc := "(II)I" } : Jvm.MethodName) ({ cls := "NoteDocument", name := "leaf", desc := "(II)I" } : Jvm.MethodName)) ∈ BIG := big_t (List.mem_of_getElem? (i := 1272) (by decide +kernel)) (by decide +kernel)
theorem dM_L_leaf_13 : decode cM_L_leaf 13 = .ok (.astore 4, 2) := by decide +kernel
theorem dM_L_leaf_15 : decode cM_L_leaf 15 = .ok (.iconst 1, 1) := by decide +kernel
theorem dM_L_leaf_16 : decode cM_L_leaf 16 = .ok (.ireturn, 1) := by decide +kernel
theorem dM_L_leaf_8 : decode cM_L_leaf 8 = .ok (.i2l, 1) := by decide +kernel
theorem dM_L_leaf_9 : decode cM_L_leaf 9 = .ok (.lastore, 1) := by decide +kernel
theorem dM_L_leaf_10 : decode cM_L_leaf 10 = .ok (.goto 11, 3) := by decide +kernel
theorem dM_L_leaf_21 : decode cM_L_leaf 21 = .ok (.iconst 0, 1) := by decide +kernel
theorem dM_L_leaf_22 : decode cM_L_leaf 22 = .ok (.ireturn, 1) := by decide +kernel
abbrev cM_L_node : ByteArray := method_14_code
def yM_L_node : MethodName := ⟨"NoteDocumentLaw", "node", "(LNoteDocument;IIII[J)I"⟩
theorem dM_L_node_0 : decode cM_L_node 0 = .ok (.aload 5, 2) := by decide +kernel
theorem dM_L_node_2 : decode cM_L_node 2 = .ok (.iconst 0, 1) := by decide +kernel
theorem dM_L_node_3 : decode cM_L_node 3 = .ok (.aload_n 0, 1) := by decide +kernel
theorem dM_L_node_4 : decode cM_L_node 4 = .ok (.iload_n 1, 1) := by decide +kernel
theorem dM_L_node_5 : decode cM_L_node 5 = .ok (.iload_n 2, 1) := by decide +kernel
theorem dM_L_node_6 : decode cM_L_node 6 = .ok (.iload_n 3, 1) := by decide +kernel
theorem dM_L_node_7 : decode cM_L_node 7 = .ok (.iload 4, 2) := by decide +kernel
theorem dM_L_node_9 : decode cM_L_node 9 = .ok (.invokevirtual 57, 3) := by decide +kernel
theorem wd_1285 : (Jvm.Cond.code ({ cls := "NoteDocument", name := "node", desc := "(IIII)I" } : Jvm.MethodName) prog_1_method_13_code (6 : Nat) (Option.some Jvm.ClassFile.FieldType.int)) ∈ BIG := big_t (List.mem_of_getElem? (i := 1285) (by decide +kernel)) (by decide +kernel)
theorem wd_1282 : (Jvm.Cond.methodLink "NoteDocumentLaw" (57 : Nat) ({ cls := "NoteDocument", name := "node", desc := "(IIII)I" } : Jvm.MethodName)) ∈ BIG := big_t (List.mem_of_getElem? (i := 1282) (by decide +kernel)) (by decide +kernel)
theorem wd_1283 : (Jvm.Cond.instanceMethod ({ cls := "NoteDocument", name := "node", desc := "(IIII)I" } : Jvm.MethodName)) ∈ BIG := big_t (List.mem_of_getElem? (i := 1283) (by decide +kernel)) (by decide +kernel)
theorem wd_1284 : (Jvm.Cond.selects "NoteDocument" ({ cls := "NoteDocument", name := "node", desc := "(IIII)I" } : Jvm.MethodName) ({ cls := "NoteDocument", name := "node", desc := "(IIII)I" } : Jvm.MethodName)) ∈ BIG := big_t (List.mem_of_getElem? (i := 1284) (by decide +kernel)) (by decide +kernel)
theorem dM_L_node_17 : decode cM_L_node 17 = .ok (.astore 6, 2) := by decide +kernel
theorem dM_L_node_19 : decode cM_L_node 19 = .ok (.iconst 1, 1) := by decide +kernel
theorem dM_L_node_20 : decode cM_L_node 20 = .ok (.ireturn, 1) := by decide +kernel
theorem dM_L_node_21 : decode cM_L_node 21 = .ok (.astore 6, 2) := by decide +kernel
theorem dM_L_node_23 : decode cM_L_node 23 = .ok (.iconst 2, 1) := by decide +kernel
theorem dM_L_node_24 : decode cM_L_node 24 = .ok (.ireturn, 1) := by decide +kernel
abbrev cM_L_when : ByteArray := method_15_code
def yM_L_when : MethodName := ⟨"NoteDocumentLaw", "when", "(LNoteDocument;III[J)I"⟩
theorem dM_L_when_0 : decode cM_L_when 0 = .ok (.aload 4, 2) := by decide +kernel
theorem dM_L_when_2 : decode cM_L_when 2 = .ok (.iconst 0, 1) := by decide +kernel
theorem dM_L_when_3 : decode cM_L_when 3 = .ok (.aload_n 0, 1) := by decide +kernel
theorem dM_L_when_4 : decode cM_L_when 4 = .ok (.iload_n 1, 1) := by decide +kernel
theorem dM_L_when_5 : decode cM_L_when 5 = .ok (.iload_n 2, 1) := by decide +kernel
theorem dM_L_when_6 : decode cM_L_when 6 = .ok (.iload_n 3, 1) := by decide +kernel
theorem dM_L_when_7 : decode cM_L_when 7 = .ok (.invokevirtual 61, 3) := by decide +kernel
theorem wd_1302 : (Jvm.Cond.code ({ cls := "NoteDocument", name := "when", desc := "(III)I" } : Jvm.MethodName) prog_1_method_14_code (4 : Nat) (Option.some Jvm.ClassFile.FieldType.int)) ∈ BIG := big_t (List.mem_of_getElem? (i := 1302) (by decide +kernel)) (by decide +kernel)
theorem wd_1299 : (Jvm.Cond.methodLink "NoteDocumentLaw" (61 : Nat) ({ cls := "NoteDocument", name := "when", desc := "(III)I" } : Jvm.MethodName)) ∈ BIG := big_t (List.mem_of_getElem? (i := 1299) (by decide +kernel)) (by decide +kernel)
theorem wd_1300 : (Jvm.Cond.instanceMethod ({ cls := "NoteDocument", name := "when", desc := "(III)I" } : Jvm.MethodName)) ∈ BIG := big_t (List.mem_of_getElem? (i := 1300) (by decide +kernel)) (by decide +kernel)
theorem wd_1301 : (Jvm.Cond.selects "NoteDocument" ({ cls := "NoteDocument", name := "when", desc := "(III)I" } : Jvm.MethodName) ({ cls := "NoteDocument", name := "when", desc := "(III)I" } : Jvm.MethodName)) ∈ BIG := big_t (List.mem_of_getElem? (i := 1301) (by decide +kernel)) (by decide +kernel)
theorem dM_L_when_15 : decode cM_L_when 15 = .ok (.astore 5, 2) := by decide +kernel
theorem dM_L_when_17 : decode cM_L_when 17 = .ok (.iconst 1, 1) := by decide +kernel
theorem dM_L_when_18 : decode cM_L_when 18 = .ok (.ireturn, 1) := by decide +kernel
abbrev cM_L_name : ByteArray := method_16_code
def yM_L_name : MethodName := ⟨"NoteDocumentLaw", "name", "(LNoteDocument;II)I"⟩
theorem dM_L_name_0 : decode cM_L_name 0 = .ok (.aload_n 0, 1) := by decide +kernel
theorem dM_L_name_1 : decode cM_L_name 1 = .ok (.iload_n 1, 1) := by decide +kernel
theorem dM_L_name_2 : decode cM_L_name 2 = .ok (.iload_n 2, 1) := by decide +kernel
theorem dM_L_name_3 : decode cM_L_name 3 = .ok (.invokevirtual 64, 3) := by decide +kernel
theorem wd_1309 : (Jvm.Cond.code ({ cls := "NoteDocument", name := "name", desc := "(II)V" } : Jvm.MethodName) prog_1_method_16_code (3 : Nat) (Option.none : Option Jvm.ClassFile.FieldType)) ∈ BIG := big_t (List.mem_of_getElem? (i := 1309) (by decide +kernel)) (by decide +kernel)
theorem wd_1306 : (Jvm.Cond.methodLink "NoteDocumentLaw" (64 : Nat) ({ cls := "NoteDocument", name := "name", desc := "(II)V" } : Jvm.MethodName)) ∈ BIG := big_t (List.mem_of_getElem? (i := 1306) (by decide +kernel)) (by decide +kernel)
theorem wd_1307 : (Jvm.Cond.instanceMethod ({ cls := "NoteDocument", name := "name", desc := "(II)V" } : Jvm.MethodName)) ∈ BIG := big_t (List.mem_of_getElem? (i := 1307) (by decide +kernel)) (by decide +kernel)
theorem wd_1308 : (Jvm.Cond.selects "NoteDocument" ({ cls := "NoteDocument", name := "name", desc := "(II)V" } : Jvm.MethodName) ({ cls := "NoteDocument", name := "name", desc := "(II)V" } : Jvm.MethodName)) ∈ BIG := big_t (List.mem_of_getElem? (i := 1308) (by decide +kernel)) (by decide +kernel)
theorem dM_L_name_9 : decode cM_L_name 9 = .ok (.astore_n 3, 1) := by decide +kernel
theorem dM_L_name_10 : decode cM_L_name 10 = .ok (.iconst 1, 1) := by decide +kernel
theorem dM_L_name_11 : decode cM_L_name 11 = .ok (.ireturn, 1) := by decide +kernel
theorem dM_L_name_12 : decode cM_L_name 12 = .ok (.astore_n 3, 1) := by decide +kernel
theorem dM_L_name_13 : decode cM_L_name 13 = .ok (.iconst 2, 1) := by decide +kernel
theorem dM_L_name_14 : decode cM_L_name 14 = .ok (.ireturn, 1) := by decide +kernel
theorem dM_L_name_6 : decode cM_L_name 6 = .ok (.goto 9, 3) := by decide +kernel
theorem dM_L_name_15 : decode cM_L_name 15 = .ok (.iconst 0, 1) := by decide +kernel
theorem dM_L_name_16 : decode cM_L_name 16 = .ok (.ireturn, 1) := by decide +kernel
abbrev cM_L_define : ByteArray := method_17_code
def yM_L_define : MethodName := ⟨"NoteDocumentLaw", "define", "(LNoteDocument;II)I"⟩
theorem dM_L_define_0 : decode cM_L_define 0 = .ok (.aload_n 0, 1) := by decide +kernel
theorem dM_L_define_1 : decode cM_L_define 1 = .ok (.iload_n 1, 1) := by decide +kernel
theorem dM_L_define_2 : decode cM_L_define 2 = .ok (.iload_n 2, 1) := by decide +kernel
theorem dM_L_define_3 : decode cM_L_define 3 = .ok (.invokevirtual 68, 3) := by decide +kernel
theorem wd_1317 : (Jvm.Cond.code ({ cls := "NoteDocument", name := "define", desc := "(II)V" } : Jvm.MethodName) prog_1_method_17_code (3 : Nat) (Option.none : Option Jvm.ClassFile.FieldType)) ∈ BIG := big_t (List.mem_of_getElem? (i := 1317) (by decide +kernel)) (by decide +kernel)
theorem wd_1314 : (Jvm.Cond.methodLink "NoteDocumentLaw" (68 : Nat) ({ cls := "NoteDocument", name := "define", desc := "(II)V" } : Jvm.MethodName)) ∈ BIG := big_t (List.mem_of_getElem? (i := 1314) (by decide +kernel)) (by decide +kernel)
theorem wd_1315 : (Jvm.Cond.instanceMethod ({ cls := "NoteDocument", name := "define", desc := "(II)V" } : Jvm.MethodName)) ∈ BIG := big_t (List.mem_of_getElem? (i := 1315) (by decide +kernel)) (by decide +kernel)
theorem wd_1316 : (Jvm.Cond.selects "NoteDocument" ({ cls := "NoteDocument", name := "define", desc := "(II)V" } : Jvm.MethodName) ({ cls := "NoteDocument", name := "define", desc := "(II)V" } : Jvm.MethodName)) ∈ BIG := big_t (List.mem_of_getElem? (i := 1316) (by decide +kernel)) (by decide +kernel)
theorem dM_L_define_9 : decode cM_L_define 9 = .ok (.astore_n 3, 1) := by decide +kernel
theorem dM_L_define_10 : decode cM_L_define 10 = .ok (.iconst 1, 1) := by decide +kernel
theorem dM_L_define_11 : decode cM_L_define 11 = .ok (.ireturn, 1) := by decide +kernel
theorem dM_L_define_12 : decode cM_L_define 12 = .ok (.astore_n 3, 1) := by decide +kernel
theorem dM_L_define_13 : decode cM_L_define 13 = .ok (.iconst 2, 1) := by decide +kernel
theorem dM_L_define_14 : decode cM_L_define 14 = .ok (.ireturn, 1) := by decide +kernel
theorem dM_L_define_6 : decode cM_L_define 6 = .ok (.goto 9, 3) := by decide +kernel
theorem dM_L_define_15 : decode cM_L_define 15 = .ok (.iconst 0, 1) := by decide +kernel
theorem dM_L_define_16 : decode cM_L_define 16 = .ok (.ireturn, 1) := by decide +kernel
abbrev cM_L_note : ByteArray := method_18_code
def yM_L_note : MethodName := ⟨"NoteDocumentLaw", "note", "(LNoteDocument;[J)I"⟩
theorem dM_L_note_0 : decode cM_L_note 0 = .ok (.aload_n 1, 1) := by decide +kernel
theorem dM_L_note_1 : decode cM_L_note 1 = .ok (.iconst 0, 1) := by decide +kernel
theorem dM_L_note_2 : decode cM_L_note 2 = .ok (.aload_n 0, 1) := by decide +kernel
theorem dM_L_note_3 : decode cM_L_note 3 = .ok (.invokevirtual 71, 3) := by decide +kernel
theorem wd_1325 : (Jvm.Cond.code ({ cls := "NoteDocument", name := "note", desc := "()I" } : Jvm.MethodName) prog_1_method_18_code (1 : Nat) (Option.some Jvm.ClassFile.FieldType.int)) ∈ BIG := big_t (List.mem_of_getElem? (i := 1325) (by decide +kernel)) (by decide +kernel)
theorem wd_1322 : (Jvm.Cond.methodLink "NoteDocumentLaw" (71 : Nat) ({ cls := "NoteDocument", name := "note", desc := "()I" } : Jvm.MethodName)) ∈ BIG := big_t (List.mem_of_getElem? (i := 1322) (by decide +kernel)) (by decide +kernel)
theorem wd_1323 : (Jvm.Cond.instanceMethod ({ cls := "NoteDocument", name := "note", desc := "()I" } : Jvm.MethodName)) ∈ BIG := big_t (List.mem_of_getElem? (i := 1323) (by decide +kernel)) (by decide +kernel)
theorem wd_1324 : (Jvm.Cond.selects "NoteDocument" ({ cls := "NoteDocument", name := "note", desc := "()I" } : Jvm.MethodName) ({ cls := "NoteDocument", name := "note", desc := "()I" } : Jvm.MethodName)) ∈ BIG := big_t (List.mem_of_getElem? (i := 1324) (by decide +kernel)) (by decide +kernel)
theorem dM_L_note_6 : decode cM_L_note 6 = .ok (.i2l, 1) := by decide +kernel
theorem dM_L_note_7 : decode cM_L_note 7 = .ok (.lastore, 1) := by decide +kernel
theorem dM_L_note_8 : decode cM_L_note 8 = .ok (.goto 6, 3) := by decide +kernel
theorem dM_L_note_14 : decode cM_L_note 14 = .ok (.iconst 0, 1) := by decide +kernel
theorem dM_L_note_15 : decode cM_L_note 15 = .ok (.ireturn, 1) := by decide +kernel
abbrev cM_L_say : ByteArray := method_19_code
def yM_L_say : MethodName := ⟨"NoteDocumentLaw", "say", "(LNoteDocument;II[J)I"⟩
theorem dM_L_say_0 : decode cM_L_say 0 = .ok (.aload_n 3, 1) := by decide +kernel
theorem dM_L_say_1 : decode cM_L_say 1 = .ok (.iconst 0, 1) := by decide +kernel
theorem dM_L_say_2 : decode cM_L_say 2 = .ok (.aload_n 0, 1) := by decide +kernel
theorem dM_L_say_3 : decode cM_L_say 3 = .ok (.iload_n 1, 1) := by decide +kernel
theorem dM_L_say_4 : decode cM_L_say 4 = .ok (.iload_n 2, 1) := by decide +kernel
theorem dM_L_say_5 : decode cM_L_say 5 = .ok (.invokevirtual 75, 3) := by decide +kernel
theorem wd_1333 : (Jvm.Cond.code ({ cls := "NoteDocument", name := "say", desc := "(II)I" } : Jvm.MethodName) prog_1_method_19_code (3 : Nat) (Option.some Jvm.ClassFile.FieldType.int)) ∈ BIG := big_t (List.mem_of_getElem? (i := 1333) (by decide +kernel)) (by decide +kernel)
theorem wd_1330 : (Jvm.Cond.methodLink "NoteDocumentLaw" (75 : Nat) ({ cls := "NoteDocument", name := "say", desc := "(II)I" } : Jvm.MethodName)) ∈ BIG := big_t (List.mem_of_getElem? (i := 1330) (by decide +kernel)) (by decide +kernel)
theorem wd_1331 : (Jvm.Cond.instanceMethod ({ cls := "NoteDocument", name := "say", desc := "(II)I" } : Jvm.MethodName)) ∈ BIG := big_t (List.mem_of_getElem? (i := 1331) (by decide +kernel)) (by decide +kernel)
theorem wd_1332 : (Jvm.Cond.selects "NoteDocument" ({ cls := "NoteDocument", name := "say", desc := "(II)I" } : Jvm.MethodName) ({ cls := "NoteDocument", name := "say", desc := "(II)I" } : Jvm.MethodName)) ∈ BIG := big_t (List.mem_of_getElem? (i := 1332) (by decide +kernel)) (by decide +kernel)
theorem dM_L_say_13 : decode cM_L_say 13 = .ok (.astore 4, 2) := by decide +kernel
theorem dM_L_say_15 : decode cM_L_say 15 = .ok (.iconst 1, 1) := by decide +kernel
theorem dM_L_say_16 : decode cM_L_say 16 = .ok (.ireturn, 1) := by decide +kernel
abbrev cM_L_show : ByteArray := method_20_code
def yM_L_show : MethodName := ⟨"NoteDocumentLaw", "show", "(LNoteDocument;IIIII[J)I"⟩
theorem dM_L_show_0 : decode cM_L_show 0 = .ok (.aload 6, 2) := by decide +kernel
theorem dM_L_show_2 : decode cM_L_show 2 = .ok (.iconst 0, 1) := by decide +kernel
theorem dM_L_show_3 : decode cM_L_show 3 = .ok (.aload_n 0, 1) := by decide +kernel
theorem dM_L_show_4 : decode cM_L_show 4 = .ok (.iload_n 1, 1) := by decide +kernel
theorem dM_L_show_5 : decode cM_L_show 5 = .ok (.iload_n 2, 1) := by decide +kernel
theorem dM_L_show_6 : decode cM_L_show 6 = .ok (.iload_n 3, 1) := by decide +kernel
theorem dM_L_show_7 : decode cM_L_show 7 = .ok (.iload 4, 2) := by decide +kernel
theorem dM_L_show_9 : decode cM_L_show 9 = .ok (.iload 5, 2) := by decide +kernel
theorem dM_L_show_11 : decode cM_L_show 11 = .ok (.invokevirtual 78, 3) := by decide +kernel
theorem wd_1355 : (Jvm.Cond.code ({ cls := "NoteDocument", name := "show", desc := "(IIIII)I" } : Jvm.MethodName) prog_1_method_20_code (7 : Nat) (Option.some Jvm.ClassFile.FieldType.int)) ∈ BIG := big_t (List.mem_of_getElem? (i := 1355) (by decide +kernel)) (by decide +kernel)
theorem wd_1352 : (Jvm.Cond.methodLink "NoteDocumentLaw" (78 : Nat) ({ cls := "NoteDocument", name := "show", desc := "(IIIII)I" } : Jvm.MethodName)) ∈ BIG := big_t (List.mem_of_getElem? (i := 1352) (by decide +kernel)) (by decide +kernel)
theorem wd_1353 : (Jvm.Cond.instanceMethod ({ cls := "NoteDocument", name := "show", desc := "(IIIII)I" } : Jvm.MethodName)) ∈ BIG := big_t (List.mem_of_getElem? (i := 1353) (by decide +kernel)) (by decide +kernel)
theorem wd_1354 : (Jvm.Cond.selects "NoteDocument" ({ cls := "NoteDocument", name := "show", desc := "(IIIII)I" } : Jvm.MethodName) ({ cls := "NoteDocument", name := "show", desc := "(IIIII)I" } : Jvm.MethodName)) ∈ BIG := big_t (List.mem_of_getElem? (i := 1354) (by decide +kernel)) (by decide +kernel)
theorem dM_L_show_19 : decode cM_L_show 19 = .ok (.astore 7, 2) := by decide +kernel
theorem dM_L_show_21 : decode cM_L_show 21 = .ok (.iconst 1, 1) := by decide +kernel
theorem dM_L_show_22 : decode cM_L_show 22 = .ok (.ireturn, 1) := by decide +kernel
abbrev cM_L_tick : ByteArray := method_21_code
def yM_L_tick : MethodName := ⟨"NoteDocumentLaw", "tick", "(LNoteDocument;II[J)I"⟩
theorem dM_L_tick_0 : decode cM_L_tick 0 = .ok (.aload_n 3, 1) := by decide +kernel
theorem dM_L_tick_1 : decode cM_L_tick 1 = .ok (.iconst 0, 1) := by decide +kernel
theorem dM_L_tick_2 : decode cM_L_tick 2 = .ok (.aload_n 0, 1) := by decide +kernel
theorem dM_L_tick_3 : decode cM_L_tick 3 = .ok (.iload_n 1, 1) := by decide +kernel
theorem dM_L_tick_4 : decode cM_L_tick 4 = .ok (.iload_n 2, 1) := by decide +kernel
theorem dM_L_tick_5 : decode cM_L_tick 5 = .ok (.invokevirtual 81, 3) := by decide +kernel
theorem wd_1363 : (Jvm.Cond.code ({ cls := "NoteDocument", name := "tick", desc := "(II)I" } : Jvm.MethodName) prog_1_method_21_code (3 : Nat) (Option.some Jvm.ClassFile.FieldType.int)) ∈ BIG := big_t (List.mem_of_getElem? (i := 1363) (by decide +kernel)) (by decide +kernel)
theorem wd_1360 : (Jvm.Cond.methodLink "NoteDocumentLaw" (81 : Nat) ({ cls := "NoteDocument", name := "tick", desc := "(II)I" } : Jvm.MethodName)) ∈ BIG := big_t (List.mem_of_getElem? (i := 1360) (by decide +kernel)) (by decide +kernel)
theorem wd_1361 : (Jvm.Cond.instanceMethod ({ cls := "NoteDocument", name := "tick", desc := "(II)I" } : Jvm.MethodName)) ∈ BIG := big_t (List.mem_of_getElem? (i := 1361) (by decide +kernel)) (by decide +kernel)
theorem wd_1362 : (Jvm.Cond.selects "NoteDocument" ({ cls := "NoteDocument", name := "tick", desc := "(II)I" } : Jvm.MethodName) ({ cls := "NoteDocument", name := "tick", desc := "(II)I" } : Jvm.MethodName)) ∈ BIG := big_t (List.mem_of_getElem? (i := 1362) (by decide +kernel)) (by decide +kernel)
theorem dM_L_tick_13 : decode cM_L_tick 13 = .ok (.astore 4, 2) := by decide +kernel
theorem dM_L_tick_15 : decode cM_L_tick 15 = .ok (.iconst 1, 1) := by decide +kernel
theorem dM_L_tick_16 : decode cM_L_tick 16 = .ok (.ireturn, 1) := by decide +kernel
theorem dM_L_tick_8 : decode cM_L_tick 8 = .ok (.i2l, 1) := by decide +kernel
theorem dM_L_tick_9 : decode cM_L_tick 9 = .ok (.lastore, 1) := by decide +kernel
theorem dM_L_tick_10 : decode cM_L_tick 10 = .ok (.goto 11, 3) := by decide +kernel
theorem dM_L_tick_21 : decode cM_L_tick 21 = .ok (.iconst 0, 1) := by decide +kernel
theorem dM_L_tick_22 : decode cM_L_tick 22 = .ok (.ireturn, 1) := by decide +kernel
abbrev cM_L_setWay : ByteArray := method_22_code
def yM_L_setWay : MethodName := ⟨"NoteDocumentLaw", "setWay", "(LNoteDocument;I[J)I"⟩
theorem dM_L_setWay_0 : decode cM_L_setWay 0 = .ok (.aload_n 2, 1) := by decide +kernel
theorem dM_L_setWay_1 : decode cM_L_setWay 1 = .ok (.iconst 0, 1) := by decide +kernel
theorem dM_L_setWay_2 : decode cM_L_setWay 2 = .ok (.aload_n 0, 1) := by decide +kernel
theorem dM_L_setWay_3 : decode cM_L_setWay 3 = .ok (.iload_n 1, 1) := by decide +kernel
theorem dM_L_setWay_4 : decode cM_L_setWay 4 = .ok (.invokevirtual 84, 3) := by decide +kernel
theorem wd_1373 : (Jvm.Cond.code ({ cls := "NoteDocument", name := "setWay", desc := "(I)I" } : Jvm.MethodName) prog_1_method_22_code (3 : Nat) (Option.some Jvm.ClassFile.FieldType.int)) ∈ BIG := big_t (List.mem_of_getElem? (i := 1373) (by decide +kernel)) (by decide +kernel)
theorem wd_1370 : (Jvm.Cond.methodLink "NoteDocumentLaw" (84 : Nat) ({ cls := "NoteDocument", name := "setWay", desc := "(I)I" } : Jvm.MethodName)) ∈ BIG := big_t (List.mem_of_getElem? (i := 1370) (by decide +kernel)) (by decide +kernel)
theorem wd_1371 : (Jvm.Cond.instanceMethod ({ cls := "NoteDocument", name := "setWay", desc := "(I)I" } : Jvm.MethodName)) ∈ BIG := big_t (List.mem_of_getElem? (i := 1371) (by decide +kernel)) (by decide +kernel)
theorem wd_1372 : (Jvm.Cond.selects "NoteDocument" ({ cls := "NoteDocument", name := "setWay", desc := "(I)I" } : Jvm.MethodName) ({ cls := "NoteDocument", name := "setWay", desc := "(I)I" } : Jvm.MethodName)) ∈ BIG := big_t (List.mem_of_getElem? (i := 1372) (by decide +kernel)) (by decide +kernel)
theorem dM_L_setWay_12 : decode cM_L_setWay 12 = .ok (.astore_n 3, 1) := by decide +kernel
theorem dM_L_setWay_13 : decode cM_L_setWay 13 = .ok (.iconst 1, 1) := by decide +kernel
theorem dM_L_setWay_14 : decode cM_L_setWay 14 = .ok (.ireturn, 1) := by decide +kernel
theorem dM_L_setWay_7 : decode cM_L_setWay 7 = .ok (.i2l, 1) := by decide +kernel
theorem dM_L_setWay_8 : decode cM_L_setWay 8 = .ok (.lastore, 1) := by decide +kernel
theorem dM_L_setWay_9 : decode cM_L_setWay 9 = .ok (.goto 6, 3) := by decide +kernel
theorem dM_L_setWay_15 : decode cM_L_setWay 15 = .ok (.iconst 0, 1) := by decide +kernel
theorem dM_L_setWay_16 : decode cM_L_setWay 16 = .ok (.ireturn, 1) := by decide +kernel
abbrev cM_L_kind : ByteArray := method_23_code
def yM_L_kind : MethodName := ⟨"NoteDocumentLaw", "kind", "(LNoteDocument;III[J)I"⟩
theorem dM_L_kind_0 : decode cM_L_kind 0 = .ok (.aload 4, 2) := by decide +kernel
theorem dM_L_kind_2 : decode cM_L_kind 2 = .ok (.iconst 0, 1) := by decide +kernel
theorem dM_L_kind_3 : decode cM_L_kind 3 = .ok (.aload_n 0, 1) := by decide +kernel
theorem dM_L_kind_4 : decode cM_L_kind 4 = .ok (.iload_n 1, 1) := by decide +kernel
theorem dM_L_kind_5 : decode cM_L_kind 5 = .ok (.iload_n 2, 1) := by decide +kernel
theorem dM_L_kind_6 : decode cM_L_kind 6 = .ok (.iload_n 3, 1) := by decide +kernel
theorem dM_L_kind_7 : decode cM_L_kind 7 = .ok (.invokevirtual 87, 3) := by decide +kernel
theorem wd_1381 : (Jvm.Cond.code ({ cls := "NoteDocument", name := "kind", desc := "(III)I" } : Jvm.MethodName) prog_1_method_24_code (4 : Nat) (Option.some Jvm.ClassFile.FieldType.int)) ∈ BIG := big_t (List.mem_of_getElem? (i := 1381) (by decide +kernel)) (by decide +kernel)
theorem wd_1378 : (Jvm.Cond.methodLink "NoteDocumentLaw" (87 : Nat) ({ cls := "NoteDocument", name := "kind", desc := "(III)I" } : Jvm.MethodName)) ∈ BIG := big_t (List.mem_of_getElem? (i := 1378) (by decide +kernel)) (by decide +kernel)
theorem wd_1379 : (Jvm.Cond.instanceMethod ({ cls := "NoteDocument", name := "kind", desc := "(III)I" } : Jvm.MethodName)) ∈ BIG := big_t (List.mem_of_getElem? (i := 1379) (by decide +kernel)) (by decide +kernel)
theorem wd_1380 : (Jvm.Cond.selects "NoteDocument" ({ cls := "NoteDocument", name := "kind", desc := "(III)I" } : Jvm.MethodName) ({ cls := "NoteDocument", name := "kind", desc := "(III)I" } : Jvm.MethodName)) ∈ BIG := big_t (List.mem_of_getElem? (i := 1380) (by decide +kernel)) (by decide +kernel)
theorem dM_L_kind_15 : decode cM_L_kind 15 = .ok (.astore 5, 2) := by decide +kernel
theorem dM_L_kind_17 : decode cM_L_kind 17 = .ok (.iconst 1, 1) := by decide +kernel
theorem dM_L_kind_18 : decode cM_L_kind 18 = .ok (.ireturn, 1) := by decide +kernel
abbrev cM_L_value : ByteArray := method_24_code
def yM_L_value : MethodName := ⟨"NoteDocumentLaw", "value", "(LNoteDocument;III[J)I"⟩
theorem dM_L_value_0 : decode cM_L_value 0 = .ok (.aload 4, 2) := by decide +kernel
theorem dM_L_value_2 : decode cM_L_value 2 = .ok (.iconst 0, 1) := by decide +kernel
theorem dM_L_value_3 : decode cM_L_value 3 = .ok (.aload_n 0, 1) := by decide +kernel
theorem dM_L_value_4 : decode cM_L_value 4 = .ok (.iload_n 1, 1) := by decide +kernel
theorem dM_L_value_5 : decode cM_L_value 5 = .ok (.iload_n 2, 1) := by decide +kernel
theorem dM_L_value_6 : decode cM_L_value 6 = .ok (.iload_n 3, 1) := by decide +kernel
theorem dM_L_value_7 : decode cM_L_value 7 = .ok (.invokevirtual 90, 3) := by decide +kernel
theorem wd_1414 : (Jvm.Cond.code ({ cls := "NoteDocument", name := "value", desc := "(III)J" } : Jvm.MethodName) prog_1_method_25_code (4 : Nat) (Option.some Jvm.ClassFile.FieldType.long)) ∈ BIG := big_t (List.mem_of_getElem? (i := 1414) (by decide +kernel)) (by decide +kernel)
theorem wd_1411 : (Jvm.Cond.methodLink "NoteDocumentLaw" (90 : Nat) ({ cls := "NoteDocument", name := "value", desc := "(III)J" } : Jvm.MethodName)) ∈ BIG := big_t (List.mem_of_getElem? (i := 1411) (by decide +kernel)) (by decide +kernel)
theorem wd_1412 : (Jvm.Cond.instanceMethod ({ cls := "NoteDocument", name := "value", desc := "(III)J" } : Jvm.MethodName)) ∈ BIG := big_t (List.mem_of_getElem? (i := 1412) (by decide +kernel)) (by decide +kernel)
theorem wd_1413 : (Jvm.Cond.selects "NoteDocument" ({ cls := "NoteDocument", name := "value", desc := "(III)J" } : Jvm.MethodName) ({ cls := "NoteDocument", name := "value", desc := "(III)J" } : Jvm.MethodName)) ∈ BIG := big_t (List.mem_of_getElem? (i := 1413) (by decide +kernel)) (by decide +kernel)
theorem dM_L_value_14 : decode cM_L_value 14 = .ok (.astore 5, 2) := by decide +kernel
theorem dM_L_value_16 : decode cM_L_value 16 = .ok (.iconst 1, 1) := by decide +kernel
theorem dM_L_value_17 : decode cM_L_value 17 = .ok (.ireturn, 1) := by decide +kernel
abbrev cM_L_spills : ByteArray := method_25_code
def yM_L_spills : MethodName := ⟨"NoteDocumentLaw", "spills", "(LNoteDocument;III[J)I"⟩
theorem dM_L_spills_0 : decode cM_L_spills 0 = .ok (.aload 4, 2) := by decide +kernel
theorem dM_L_spills_2 : decode cM_L_spills 2 = .ok (.iconst 0, 1) := by decide +kernel
theorem dM_L_spills_3 : decode cM_L_spills 3 = .ok (.aload_n 0, 1) := by decide +kernel
theorem dM_L_spills_4 : decode cM_L_spills 4 = .ok (.iload_n 1, 1) := by decide +kernel
theorem dM_L_spills_5 : decode cM_L_spills 5 = .ok (.iload_n 2, 1) := by decide +kernel
theorem dM_L_spills_6 : decode cM_L_spills 6 = .ok (.iload_n 3, 1) := by decide +kernel
theorem dM_L_spills_7 : decode cM_L_spills 7 = .ok (.invokevirtual 94, 3) := by decide +kernel
theorem wd_1425 : (Jvm.Cond.code ({ cls := "NoteDocument", name := "spills", desc := "(III)I" } : Jvm.MethodName) prog_1_method_26_code (7 : Nat) (Option.some Jvm.ClassFile.FieldType.int)) ∈ BIG := big_t (List.mem_of_getElem? (i := 1425) (by decide +kernel)) (by decide +kernel)
theorem wd_1422 : (Jvm.Cond.methodLink "NoteDocumentLaw" (94 : Nat) ({ cls := "NoteDocument", name := "spills", desc := "(III)I" } : Jvm.MethodName)) ∈ BIG := big_t (List.mem_of_getElem? (i := 1422) (by decide +kernel)) (by decide +kernel)
theorem wd_1423 : (Jvm.Cond.instanceMethod ({ cls := "NoteDocument", name := "spills", desc := "(III)I" } : Jvm.MethodName)) ∈ BIG := big_t (List.mem_of_getElem? (i := 1423) (by decide +kernel)) (by decide +kernel)
theorem wd_1424 : (Jvm.Cond.selects "NoteDocument" ({ cls := "NoteDocument", name := "spills", desc := "(III)I" } : Jvm.MethodName) ({ cls := "NoteDocument", name := "spills", desc := "(III)I" } : Jvm.MethodName)) ∈ BIG := big_t (List.mem_of_getElem? (i := 1424) (by decide +kernel)) (by decide +kernel)
theorem dM_L_spills_15 : decode cM_L_spills 15 = .ok (.astore 5, 2) := by decide +kernel
theorem dM_L_spills_17 : decode cM_L_spills 17 = .ok (.iconst 1, 1) := by decide +kernel
theorem dM_L_spills_18 : decode cM_L_spills 18 = .ok (.ireturn, 1) := by decide +kernel
abbrev cM_L_through : ByteArray := method_26_code
def yM_L_through : MethodName := ⟨"NoteDocumentLaw", "through", "(LNoteDocument;III[J)I"⟩
theorem dM_L_through_0 : decode cM_L_through 0 = .ok (.aload 4, 2) := by decide +kernel
theorem dM_L_through_2 : decode cM_L_through 2 = .ok (.iconst 0, 1) := by decide +kernel
theorem dM_L_through_3 : decode cM_L_through 3 = .ok (.aload_n 0, 1) := by decide +kernel
theorem dM_L_through_4 : decode cM_L_through 4 = .ok (.iload_n 1, 1) := by decide +kernel
theorem dM_L_through_5 : decode cM_L_through 5 = .ok (.iload_n 2, 1) := by decide +kernel
theorem dM_L_through_6 : decode cM_L_through 6 = .ok (.iload_n 3, 1) := by decide +kernel
theorem dM_L_through_7 : decode cM_L_through 7 = .ok (.invokevirtual 97, 3) := by decide +kernel
theorem wd_1433 : (Jvm.Cond.code ({ cls := "NoteDocument", name := "through", desc := "(III)I" } : Jvm.MethodName) prog_1_method_27_code (6 : Nat) (Option.some Jvm.ClassFile.FieldType.int)) ∈ BIG := big_t (List.mem_of_getElem? (i := 1433) (by decide +kernel)) (by decide +kernel)
theorem wd_1430 : (Jvm.Cond.methodLink "NoteDocumentLaw" (97 : Nat) ({ cls := "NoteDocument", name := "through", desc := "(III)I" } : Jvm.MethodName)) ∈ BIG := big_t (List.mem_of_getElem? (i := 1430) (by decide +kernel)) (by decide +kernel)
theorem wd_1431 : (Jvm.Cond.instanceMethod ({ cls := "NoteDocument", name := "through", desc := "(III)I" } : Jvm.MethodName)) ∈ BIG := big_t (List.mem_of_getElem? (i := 1431) (by decide +kernel)) (by decide +kernel)
theorem wd_1432 : (Jvm.Cond.selects "NoteDocument" ({ cls := "NoteDocument", name := "through", desc := "(III)I" } : Jvm.MethodName) ({ cls := "NoteDocument", name := "through", desc := "(III)I" } : Jvm.MethodName)) ∈ BIG := big_t (List.mem_of_getElem? (i := 1432) (by decide +kernel)) (by decide +kernel)
theorem dM_L_through_15 : decode cM_L_through 15 = .ok (.astore 5, 2) := by decide +kernel
theorem dM_L_through_17 : decode cM_L_through 17 = .ok (.iconst 1, 1) := by decide +kernel
theorem dM_L_through_18 : decode cM_L_through 18 = .ok (.ireturn, 1) := by decide +kernel
abbrev cM_L_cause : ByteArray := method_27_code
def yM_L_cause : MethodName := ⟨"NoteDocumentLaw", "cause", "(LNoteDocument;III[J)I"⟩
theorem dM_L_cause_0 : decode cM_L_cause 0 = .ok (.aload 4, 2) := by decide +kernel
theorem dM_L_cause_2 : decode cM_L_cause 2 = .ok (.iconst 0, 1) := by decide +kernel
theorem dM_L_cause_3 : decode cM_L_cause 3 = .ok (.aload_n 0, 1) := by decide +kernel
theorem dM_L_cause_4 : decode cM_L_cause 4 = .ok (.iload_n 1, 1) := by decide +kernel
theorem dM_L_cause_5 : decode cM_L_cause 5 = .ok (.iload_n 2, 1) := by decide +kernel
theorem dM_L_cause_6 : decode cM_L_cause 6 = .ok (.iload_n 3, 1) := by decide +kernel
theorem dM_L_cause_7 : decode cM_L_cause 7 = .ok (.invokevirtual 100, 3) := by decide +kernel
theorem wd_1445 : (Jvm.Cond.code ({ cls := "NoteDocument", name := "cause", desc := "(III)I" } : Jvm.MethodName) prog_1_method_28_code (7 : Nat) (Option.some Jvm.ClassFile.FieldType.int)) ∈ BIG := big_t (List.mem_of_getElem? (i := 1445) (by decide +kernel)) (by decide +kernel)
theorem wd_1442 : (Jvm.Cond.methodLink "NoteDocumentLaw" (100 : Nat) ({ cls := "NoteDocument", name := "cause", desc := "(III)I" } : Jvm.MethodName)) ∈ BIG := big_t (List.mem_of_getElem? (i := 1442) (by decide +kernel)) (by decide +kernel)
theorem wd_1443 : (Jvm.Cond.instanceMethod ({ cls := "NoteDocument", name := "cause", desc := "(III)I" } : Jvm.MethodName)) ∈ BIG := big_t (List.mem_of_getElem? (i := 1443) (by decide +kernel)) (by decide +kernel)
theorem wd_1444 : (Jvm.Cond.selects "NoteDocument" ({ cls := "NoteDocument", name := "cause", desc := "(III)I" } : Jvm.MethodName) ({ cls := "NoteDocument", name := "cause", desc := "(III)I" } : Jvm.MethodName)) ∈ BIG := big_t (List.mem_of_getElem? (i := 1444) (by decide +kernel)) (by decide +kernel)
theorem dM_L_cause_15 : decode cM_L_cause 15 = .ok (.astore 5, 2) := by decide +kernel
theorem dM_L_cause_17 : decode cM_L_cause 17 = .ok (.iconst 1, 1) := by decide +kernel
theorem dM_L_cause_18 : decode cM_L_cause 18 = .ok (.ireturn, 1) := by decide +kernel
abbrev cM_L_kindFromNothing : ByteArray := method_28_code
def yM_L_kindFromNothing : MethodName := ⟨"NoteDocumentLaw", "kindFromNothing", "(LNoteDocument;III[J)I"⟩
theorem dM_L_kindFromNothing_0 : decode cM_L_kindFromNothing 0 = .ok (.aload 4, 2) := by decide +kernel
theorem dM_L_kindFromNothing_2 : decode cM_L_kindFromNothing 2 = .ok (.iconst 0, 1) := by decide +kernel
theorem dM_L_kindFromNothing_3 : decode cM_L_kindFromNothing 3 = .ok (.aload_n 0, 1) := by decide +kernel
theorem dM_L_kindFromNothing_4 : decode cM_L_kindFromNothing 4 = .ok (.iload_n 1, 1) := by decide +kernel
theorem dM_L_kindFromNothing_5 : decode cM_L_kindFromNothing 5 = .ok (.iload_n 2, 1) := by decide +kernel
theorem dM_L_kindFromNothing_6 : decode cM_L_kindFromNothing 6 = .ok (.iload_n 3, 1) := by decide +kernel
theorem dM_L_kindFromNothing_7 : decode cM_L_kindFromNothing 7 = .ok (.invokevirtual 103, 3) := by decide +kernel
theorem wd_1460 : (Jvm.Cond.code ({ cls := "NoteDocument", name := "kindFromNothing", desc := "(III)I" } : Jvm.MethodName) prog_1_method_29_code (4 : Nat) (Option.some Jvm.ClassFile.FieldType.int)) ∈ BIG := big_t (List.mem_of_getElem? (i := 1460) (by decide +kernel)) (by decide +kernel)
theorem wd_1457 : (Jvm.Cond.methodLink "NoteDocumentLaw" (103 : Nat) ({ cls := "NoteDocument", name := "kindFromNothing", desc := "(III)I" } : Jvm.MethodName)) ∈ BIG := big_t (List.mem_of_getElem? (i := 1457) (by decide +kernel)) (by decide +kernel)
theorem wd_1458 : (Jvm.Cond.instanceMethod ({ cls := "NoteDocument", name := "kindFromNothing", desc := "(III)I" } : Jvm.MethodName)) ∈ BIG := big_t (List.mem_of_getElem? (i := 1458) (by decide +kernel)) (by decide +kernel)
theorem wd_1459 : (Jvm.Cond.selects "NoteDocument" ({ cls := "NoteDocument", name := "kindFromNothing", desc := "(III)I" } : Jvm.MethodName) ({ cls := "NoteDocument", name := "kindFromNothing", desc := "(III)I" } : Jvm.MethodName)) ∈ BIG := big_t (List.mem_of_getElem? (i := 1459) (by decide +kernel)) (by decide +kernel)
theorem dM_L_kindFromNothing_15 : decode cM_L_kindFromNothing 15 = .ok (.astore 5, 2) := by decide +kernel
theorem dM_L_kindFromNothing_17 : decode cM_L_kindFromNothing 17 = .ok (.iconst 1, 1) := by decide +kernel
theorem dM_L_kindFromNothing_18 : decode cM_L_kindFromNothing 18 = .ok (.ireturn, 1) := by decide +kernel
abbrev cM_L_valueFromNothing : ByteArray := method_29_code
def yM_L_valueFromNothing : MethodName := ⟨"NoteDocumentLaw", "valueFromNothing", "(LNoteDocument;III[J)I"⟩
theorem dM_L_valueFromNothing_0 : decode cM_L_valueFromNothing 0 = .ok (.aload 4, 2) := by decide +kernel
theorem dM_L_valueFromNothing_2 : decode cM_L_valueFromNothing 2 = .ok (.iconst 0, 1) := by decide +kernel
theorem dM_L_valueFromNothing_3 : decode cM_L_valueFromNothing 3 = .ok (.aload_n 0, 1) := by decide +kernel
theorem dM_L_valueFromNothing_4 : decode cM_L_valueFromNothing 4 = .ok (.iload_n 1, 1) := by decide +kernel
theorem dM_L_valueFromNothing_5 : decode cM_L_valueFromNothing 5 = .ok (.iload_n 2, 1) := by decide +kernel
theorem dM_L_valueFromNothing_6 : decode cM_L_valueFromNothing 6 = .ok (.iload_n 3, 1) := by decide +kernel
theorem dM_L_valueFromNothing_7 : decode cM_L_valueFromNothing 7 = .ok (.invokevirtual 106, 3) := by decide +kernel
theorem wd_1467 : (Jvm.Cond.code ({ cls := "NoteDocument", name := "valueFromNothing", desc := "(III)J" } : Jvm.MethodName) prog_1_method_30_code (4 : Nat) (Option.some Jvm.ClassFile.FieldType.long)) ∈ BIG := big_t (List.mem_of_getElem? (i := 1467) (by decide +kernel)) (by decide +kernel)
theorem wd_1464 : (Jvm.Cond.methodLink "NoteDocumentLaw" (106 : Nat) ({ cls := "NoteDocument", name := "valueFromNothing", desc := "(III)J" } : Jvm.MethodName)) ∈ BIG := big_t (List.mem_of_getElem? (i := 1464) (by decide +kernel)) (by decide +kernel)
theorem wd_1465 : (Jvm.Cond.instanceMethod ({ cls := "NoteDocument", name := "valueFromNothing", desc := "(III)J" } : Jvm.MethodName)) ∈ BIG := big_t (List.mem_of_getElem? (i := 1465) (by decide +kernel)) (by decide +kernel)
theorem wd_1466 : (Jvm.Cond.selects "NoteDocument" ({ cls := "NoteDocument", name := "valueFromNothing", desc := "(III)J" } : Jvm.MethodName) ({ cls := "NoteDocument", name := "valueFromNothing", desc := "(III)J" } : Jvm.MethodName)) ∈ BIG := big_t (List.mem_of_getElem? (i := 1466) (by decide +kernel)) (by decide +kernel)
theorem dM_L_valueFromNothing_14 : decode cM_L_valueFromNothing 14 = .ok (.astore 5, 2) := by decide +kernel
theorem dM_L_valueFromNothing_16 : decode cM_L_valueFromNothing 16 = .ok (.iconst 1, 1) := by decide +kernel
theorem dM_L_valueFromNothing_17 : decode cM_L_valueFromNothing 17 = .ok (.ireturn, 1) := by decide +kernel
abbrev cM_L_length : ByteArray := method_30_code
def yM_L_length : MethodName := ⟨"NoteDocumentLaw", "length", "(LNoteDocument;I[J)I"⟩
theorem dM_L_length_0 : decode cM_L_length 0 = .ok (.aload_n 2, 1) := by decide +kernel
theorem dM_L_length_1 : decode cM_L_length 1 = .ok (.iconst 0, 1) := by decide +kernel
theorem dM_L_length_2 : decode cM_L_length 2 = .ok (.aload_n 0, 1) := by decide +kernel
theorem dM_L_length_3 : decode cM_L_length 3 = .ok (.iload_n 1, 1) := by decide +kernel
theorem dM_L_length_4 : decode cM_L_length 4 = .ok (.invokevirtual 109, 3) := by decide +kernel
theorem wd_1474 : (Jvm.Cond.code ({ cls := "NoteDocument", name := "length", desc := "(I)I" } : Jvm.MethodName) prog_1_method_31_code (2 : Nat) (Option.some Jvm.ClassFile.FieldType.int)) ∈ BIG := big_t (List.mem_of_getElem? (i := 1474) (by decide +kernel)) (by decide +kernel)
theorem wd_1471 : (Jvm.Cond.methodLink "NoteDocumentLaw" (109 : Nat) ({ cls := "NoteDocument", name := "length", desc := "(I)I" } : Jvm.MethodName)) ∈ BIG := big_t (List.mem_of_getElem? (i := 1471) (by decide +kernel)) (by decide +kernel)
theorem wd_1472 : (Jvm.Cond.instanceMethod ({ cls := "NoteDocument", name := "length", desc := "(I)I" } : Jvm.MethodName)) ∈ BIG := big_t (List.mem_of_getElem? (i := 1472) (by decide +kernel)) (by decide +kernel)
theorem wd_1473 : (Jvm.Cond.selects "NoteDocument" ({ cls := "NoteDocument", name := "length", desc := "(I)I" } : Jvm.MethodName) ({ cls := "NoteDocument", name := "length", desc := "(I)I" } : Jvm.MethodName)) ∈ BIG := big_t (List.mem_of_getElem? (i := 1473) (by decide +kernel)) (by decide +kernel)
theorem dM_L_length_12 : decode cM_L_length 12 = .ok (.astore_n 3, 1) := by decide +kernel
theorem dM_L_length_13 : decode cM_L_length 13 = .ok (.iconst 1, 1) := by decide +kernel
theorem dM_L_length_14 : decode cM_L_length 14 = .ok (.ireturn, 1) := by decide +kernel
abbrev cM_L_letter : ByteArray := method_31_code
def yM_L_letter : MethodName := ⟨"NoteDocumentLaw", "lette\x72", "(LNoteDocument;II[J)I"⟩
theorem dM_L_letter_0 : decode cM_L_letter 0 = .ok (.aload_n 3, 1) := by decide +kernel
theorem dM_L_letter_1 : decode cM_L_letter 1 = .ok (.iconst 0, 1) := by decide +kernel
theorem dM_L_letter_2 : decode cM_L_letter 2 = .ok (.aload_n 0, 1) := by decide +kernel
theorem dM_L_letter_3 : decode cM_L_letter 3 = .ok (.iload_n 1, 1) := by decide +kernel
theorem dM_L_letter_4 : decode cM_L_letter 4 = .ok (.iload_n 2, 1) := by decide +kernel
theorem dM_L_letter_5 : decode cM_L_letter 5 = .ok (.invokevirtual 112, 3) := by decide +kernel
theorem wd_1486 : (Jvm.Cond.code ({ cls := "NoteDocument", name := "lette\x72", desc := "(II)I" } : Jvm.MethodName) prog_1_method_32_code (5 : Nat) (Option.some Jvm.ClassFile.FieldType.int)) ∈ BIG := big_t (List.mem_of_getElem? (i := 1486) (by decide +kernel)) (by decide +kernel)
theorem wd_1483 : (Jvm.Cond.methodLink "NoteDocumentLaw" (112 : Nat) ({ cls := "NoteDocument", name := "lette\x72", desc := "(II)I" } : Jvm.MethodName)) ∈ BIG := big_t (List.mem_of_getElem? (i := 1483) (by decide +kernel)) (by decide +kernel)
theorem wd_1484 : (Jvm.Cond.instanceMethod ({ cls := "NoteDocument", name := "lette\x72", desc := "(II)I" } : Jvm.MethodName)) ∈ BIG := big_t (List.mem_of_getElem? (i := 1484) (by decide +kernel)) (by decide +kernel)
theorem wd_1485 : (Jvm.Cond.selects "NoteDocument" ({ cls := "NoteDocument", name := "lette\x72", desc := "(II)I" } : Jvm.MethodName) ({ cls := "NoteDocument", name := "lette\x72", desc := "(II)I" } : Jvm.MethodName)) ∈ BIG := big_t (List.mem_of_getElem? (i := 1485) (by decide +kernel)) (by decide +kernel)
theorem dM_L_letter_13 : decode cM_L_letter 13 = .ok (.astore 4, 2) := by decide +kernel
theorem dM_L_letter_15 : decode cM_L_letter 15 = .ok (.iconst 1, 1) := by decide +kernel
theorem dM_L_letter_16 : decode cM_L_letter 16 = .ok (.ireturn, 1) := by decide +kernel
abbrev cM_L_insert : ByteArray := method_32_code
def yM_L_insert : MethodName := ⟨"NoteDocumentLaw", "insert", "(LNoteDocument;II[J)I"⟩
theorem dM_L_insert_0 : decode cM_L_insert 0 = .ok (.aload_n 3, 1) := by decide +kernel
theorem dM_L_insert_1 : decode cM_L_insert 1 = .ok (.iconst 0, 1) := by decide +kernel
theorem dM_L_insert_2 : decode cM_L_insert 2 = .ok (.aload_n 0, 1) := by decide +kernel
theorem dM_L_insert_3 : decode cM_L_insert 3 = .ok (.iload_n 1, 1) := by decide +kernel
theorem dM_L_insert_4 : decode cM_L_insert 4 = .ok (.iload_n 2, 1) := by decide +kernel
theorem dM_L_insert_5 : decode cM_L_insert 5 = .ok (.invokevirtual 115, 3) := by decide +kernel
theorem wd_1510 : (Jvm.Cond.code ({ cls := "NoteDocument", name := "insert", desc := "(II)I" } : Jvm.MethodName) prog_1_method_35_code (3 : Nat) (Option.some Jvm.ClassFile.FieldType.int)) ∈ BIG := big_t (List.mem_of_getElem? (i := 1510) (by decide +kernel)) (by decide +kernel)
theorem wd_1507 : (Jvm.Cond.methodLink "NoteDocumentLaw" (115 : Nat) ({ cls := "NoteDocument", name := "insert", desc := "(II)I" } : Jvm.MethodName)) ∈ BIG := big_t (List.mem_of_getElem? (i := 1507) (by decide +kernel)) (by decide +kernel)
theorem wd_1508 : (Jvm.Cond.instanceMethod ({ cls := "NoteDocument", name := "insert", desc := "(II)I" } : Jvm.MethodName)) ∈ BIG := big_t (List.mem_of_getElem? (i := 1508) (by decide +kernel)) (by decide +kernel)
theorem wd_1509 : (Jvm.Cond.selects "NoteDocument" ({ cls := "NoteDocument", name := "insert", desc := "(II)I" } : Jvm.MethodName) ({ cls := "NoteDocument", name := "insert", desc := "(II)I" } : Jvm.MethodName)) ∈ BIG := big_t (List.mem_of_getElem? (i := 1509) (by decide +kernel)) (by decide +kernel)
theorem dM_L_insert_13 : decode cM_L_insert 13 = .ok (.astore 4, 2) := by decide +kernel
theorem dM_L_insert_15 : decode cM_L_insert 15 = .ok (.iconst 1, 1) := by decide +kernel
theorem dM_L_insert_16 : decode cM_L_insert 16 = .ok (.ireturn, 1) := by decide +kernel
abbrev cM_L_remove : ByteArray := method_33_code
def yM_L_remove : MethodName := ⟨"NoteDocumentLaw", "remove", "(LNoteDocument;II[J)I"⟩
theorem dM_L_remove_0 : decode cM_L_remove 0 = .ok (.aload_n 3, 1) := by decide +kernel
theorem dM_L_remove_1 : decode cM_L_remove 1 = .ok (.iconst 0, 1) := by decide +kernel
theorem dM_L_remove_2 : decode cM_L_remove 2 = .ok (.aload_n 0, 1) := by decide +kernel
theorem dM_L_remove_3 : decode cM_L_remove 3 = .ok (.iload_n 1, 1) := by decide +kernel
theorem dM_L_remove_4 : decode cM_L_remove 4 = .ok (.iload_n 2, 1) := by decide +kernel
theorem dM_L_remove_5 : decode cM_L_remove 5 = .ok (.invokevirtual 118, 3) := by decide +kernel
theorem wd_1813 : (Jvm.Cond.code ({ cls := "NoteDocument", name := "remove", desc := "(II)I" } : Jvm.MethodName) prog_1_method_36_code (4 : Nat) (Option.some Jvm.ClassFile.FieldType.int)) ∈ BIG := big_t (List.mem_of_getElem? (i := 1813) (by decide +kernel)) (by decide +kernel)
theorem wd_1810 : (Jvm.Cond.methodLink "NoteDocumentLaw" (118 : Nat) ({ cls := "NoteDocument", name := "remove", desc := "(II)I" } : Jvm.MethodName)) ∈ BIG := big_t (List.mem_of_getElem? (i := 1810) (by decide +kernel)) (by decide +kernel)
theorem wd_1811 : (Jvm.Cond.instanceMethod ({ cls := "NoteDocument", name := "remove", desc := "(II)I" } : Jvm.MethodName)) ∈ BIG := big_t (List.mem_of_getElem? (i := 1811) (by decide +kernel)) (by decide +kernel)
theorem wd_1812 : (Jvm.Cond.selects "NoteDocument" ({ cls := "NoteDocument", name := "remove", desc := "(II)I" } : Jvm.MethodName) ({ cls := "NoteDocument", name := "remove", desc := "(II)I" } : Jvm.MethodName)) ∈ BIG := big_t (List.mem_of_getElem? (i := 1812) (by decide +kernel)) (by decide +kernel)
theorem dM_L_remove_13 : decode cM_L_remove 13 = .ok (.astore 4, 2) := by decide +kernel
theorem dM_L_remove_15 : decode cM_L_remove 15 = .ok (.iconst 1, 1) := by decide +kernel
theorem dM_L_remove_16 : decode cM_L_remove 16 = .ok (.ireturn, 1) := by decide +kernel
abbrev cM_L_move : ByteArray := method_34_code
def yM_L_move : MethodName := ⟨"NoteDocumentLaw", "move", "(LNoteDocument;IIIII[J)I"⟩
theorem dM_L_move_0 : decode cM_L_move 0 = .ok (.aload 6, 2) := by decide +kernel
theorem dM_L_move_2 : decode cM_L_move 2 = .ok (.iconst 0, 1) := by decide +kernel
theorem dM_L_move_3 : decode cM_L_move 3 = .ok (.aload_n 0, 1) := by decide +kernel
theorem dM_L_move_4 : decode cM_L_move 4 = .ok (.iload_n 1, 1) := by decide +kernel
theorem dM_L_move_5 : decode cM_L_move 5 = .ok (.iload_n 2, 1) := by decide +kernel
theorem dM_L_move_6 : decode cM_L_move 6 = .ok (.iload_n 3, 1) := by decide +kernel
theorem dM_L_move_7 : decode cM_L_move 7 = .ok (.iload 4, 2) := by decide +kernel
theorem dM_L_move_9 : decode cM_L_move 9 = .ok (.iload 5, 2) := by decide +kernel
theorem dM_L_move_11 : decode cM_L_move 11 = .ok (.invokevirtual 121, 3) := by decide +kernel
theorem wd_1825 : (Jvm.Cond.code ({ cls := "NoteDocument", name := "move", desc := "(IIIII)I" } : Jvm.MethodName) prog_1_method_37_code (9 : Nat) (Option.some Jvm.ClassFile.FieldType.int)) ∈ BIG := big_t (List.mem_of_getElem? (i := 1825) (by decide +kernel)) (by decide +kernel)
theorem wd_1822 : (Jvm.Cond.methodLink "NoteDocumentLaw" (121 : Nat) ({ cls := "NoteDocument", name := "move", desc := "(IIIII)I" } : Jvm.MethodName)) ∈ BIG := big_t (List.mem_of_getElem? (i := 1822) (by decide +kernel)) (by decide +kernel)
theorem wd_1823 : (Jvm.Cond.instanceMethod ({ cls := "NoteDocument", name := "move", desc := "(IIIII)I" } : Jvm.MethodName)) ∈ BIG := big_t (List.mem_of_getElem? (i := 1823) (by decide +kernel)) (by decide +kernel)
theorem wd_1824 : (Jvm.Cond.selects "NoteDocument" ({ cls := "NoteDocument", name := "move", desc := "(IIIII)I" } : Jvm.MethodName) ({ cls := "NoteDocument", name := "move", desc := "(IIIII)I" } : Jvm.MethodName)) ∈ BIG := big_t (List.mem_of_getElem? (i := 1824) (by decide +kernel)) (by decide +kernel)
theorem dM_L_move_19 : decode cM_L_move 19 = .ok (.astore 7, 2) := by decide +kernel
theorem dM_L_move_21 : decode cM_L_move 21 = .ok (.iconst 1, 1) := by decide +kernel
theorem dM_L_move_22 : decode cM_L_move 22 = .ok (.ireturn, 1) := by decide +kernel
abbrev cM_L_sort : ByteArray := method_35_code
def yM_L_sort : MethodName := ⟨"NoteDocumentLaw", "sort", "(LNoteDocument;IIII[J)I"⟩
theorem dM_L_sort_0 : decode cM_L_sort 0 = .ok (.aload 5, 2) := by decide +kernel
theorem dM_L_sort_2 : decode cM_L_sort 2 = .ok (.iconst 0, 1) := by decide +kernel
theorem dM_L_sort_3 : decode cM_L_sort 3 = .ok (.aload_n 0, 1) := by decide +kernel
theorem dM_L_sort_4 : decode cM_L_sort 4 = .ok (.iload_n 1, 1) := by decide +kernel
theorem dM_L_sort_5 : decode cM_L_sort 5 = .ok (.iload_n 2, 1) := by decide +kernel
theorem dM_L_sort_6 : decode cM_L_sort 6 = .ok (.iload_n 3, 1) := by decide +kernel
theorem dM_L_sort_7 : decode cM_L_sort 7 = .ok (.iload 4, 2) := by decide +kernel
theorem dM_L_sort_9 : decode cM_L_sort 9 = .ok (.invokevirtual 124, 3) := by decide +kernel
theorem wd_1843 : (Jvm.Cond.code ({ cls := "NoteDocument", name := "sort", desc := "(IIII)I" } : Jvm.MethodName) prog_1_method_38_code (6 : Nat) (Option.some Jvm.ClassFile.FieldType.int)) ∈ BIG := big_t (List.mem_of_getElem? (i := 1843) (by decide +kernel)) (by decide +kernel)
theorem wd_1840 : (Jvm.Cond.methodLink "NoteDocumentLaw" (124 : Nat) ({ cls := "NoteDocument", name := "sort", desc := "(IIII)I" } : Jvm.MethodName)) ∈ BIG := big_t (List.mem_of_getElem? (i := 1840) (by decide +kernel)) (by decide +kernel)
theorem wd_1841 : (Jvm.Cond.instanceMethod ({ cls := "NoteDocument", name := "sort", desc := "(IIII)I" } : Jvm.MethodName)) ∈ BIG := big_t (List.mem_of_getElem? (i := 1841) (by decide +kernel)) (by decide +kernel)
theorem wd_1842 : (Jvm.Cond.selects "NoteDocument" ({ cls := "NoteDocument", name := "sort", desc := "(IIII)I" } : Jvm.MethodName) ({ cls := "NoteDocument", name := "sort", desc := "(IIII)I" } : Jvm.MethodName)) ∈ BIG := big_t (List.mem_of_getElem? (i := 1842) (by decide +kernel)) (by decide +kernel)
theorem dM_L_sort_17 : decode cM_L_sort 17 = .ok (.astore 6, 2) := by decide +kernel
theorem dM_L_sort_19 : decode cM_L_sort 19 = .ok (.iconst 1, 1) := by decide +kernel
theorem dM_L_sort_20 : decode cM_L_sort 20 = .ok (.ireturn, 1) := by decide +kernel
abbrev cM_L_overlay : ByteArray := method_36_code
def yM_L_overlay : MethodName := ⟨"NoteDocumentLaw", "overlay", "(LNoteDocument;IIIIJ[J)I"⟩
theorem dM_L_overlay_0 : decode cM_L_overlay 0 = .ok (.aload 7, 2) := by decide +kernel
theorem dM_L_overlay_2 : decode cM_L_overlay 2 = .ok (.iconst 0, 1) := by decide +kernel
theorem dM_L_overlay_3 : decode cM_L_overlay 3 = .ok (.aload_n 0, 1) := by decide +kernel
theorem dM_L_overlay_4 : decode cM_L_overlay 4 = .ok (.iload_n 1, 1) := by decide +kernel
theorem dM_L_overlay_5 : decode cM_L_overlay 5 = .ok (.iload_n 2, 1) := by decide +kernel
theorem dM_L_overlay_6 : decode cM_L_overlay 6 = .ok (.iload_n 3, 1) := by decide +kernel
theorem dM_L_overlay_7 : decode cM_L_overlay 7 = .ok (.iload 4, 2) := by decide +kernel
theorem dM_L_overlay_9 : decode cM_L_overlay 9 = .ok (.lload 5, 2) := by decide +kernel
theorem dM_L_overlay_11 : decode cM_L_overlay 11 = .ok (.invokevirtual 127, 3) := by decide +kernel
theorem wd_1860 : (Jvm.Cond.code ({ cls := "NoteDocument", name := "overlay", desc := "(IIIIJ)I" } : Jvm.MethodName) prog_1_method_39_code (8 : Nat) (Option.some Jvm.ClassFile.FieldType.int)) ∈ BIG := big_t (List.mem_of_getElem? (i := 1860) (by decide +kernel)) (by decide +kernel)
theorem wd_1857 : (Jvm.Cond.methodLink "NoteDocumentLaw" (127 : Nat) ({ cls := "NoteDocument", name := "overlay", desc := "(IIIIJ)I" } : Jvm.MethodName)) ∈ BIG := big_t (List.mem_of_getElem? (i := 1857) (by decide +kernel)) (by decide +kernel)
theorem wd_1858 : (Jvm.Cond.instanceMethod ({ cls := "NoteDocument", name := "overlay", desc := "(IIIIJ)I" } : Jvm.MethodName)) ∈ BIG := big_t (List.mem_of_getElem? (i := 1858) (by decide +kernel)) (by decide +kernel)
theorem wd_1859 : (Jvm.Cond.selects "NoteDocument" ({ cls := "NoteDocument", name := "overlay", desc := "(IIIIJ)I" } : Jvm.MethodName) ({ cls := "NoteDocument", name := "overlay", desc := "(IIIIJ)I" } : Jvm.MethodName)) ∈ BIG := big_t (List.mem_of_getElem? (i := 1859) (by decide +kernel)) (by decide +kernel)
theorem dM_L_overlay_19 : decode cM_L_overlay 19 = .ok (.astore 8, 2) := by decide +kernel
theorem dM_L_overlay_21 : decode cM_L_overlay 21 = .ok (.iconst 1, 1) := by decide +kernel
theorem dM_L_overlay_22 : decode cM_L_overlay 22 = .ok (.ireturn, 1) := by decide +kernel
theorem dM_L_overlay_23 : decode cM_L_overlay 23 = .ok (.astore 8, 2) := by decide +kernel
theorem dM_L_overlay_25 : decode cM_L_overlay 25 = .ok (.iconst 2, 1) := by decide +kernel
theorem dM_L_overlay_26 : decode cM_L_overlay 26 = .ok (.ireturn, 1) := by decide +kernel
abbrev cM_L_drop : ByteArray := method_37_code
def yM_L_drop : MethodName := ⟨"NoteDocumentLaw", "drop", "(LNoteDocument;I[J)I"⟩
theorem dM_L_drop_0 : decode cM_L_drop 0 = .ok (.aload_n 2, 1) := by decide +kernel
theorem dM_L_drop_1 : decode cM_L_drop 1 = .ok (.iconst 0, 1) := by decide +kernel
theorem dM_L_drop_2 : decode cM_L_drop 2 = .ok (.aload_n 0, 1) := by decide +kernel
theorem dM_L_drop_3 : decode cM_L_drop 3 = .ok (.iload_n 1, 1) := by decide +kernel
theorem dM_L_drop_4 : decode cM_L_drop 4 = .ok (.invokevirtual 131, 3) := by decide +kernel
theorem wd_1877 : (Jvm.Cond.code ({ cls := "NoteDocument", name := "drop", desc := "(I)I" } : Jvm.MethodName) prog_1_method_40_code (3 : Nat) (Option.some Jvm.ClassFile.FieldType.int)) ∈ BIG := big_t (List.mem_of_getElem? (i := 1877) (by decide +kernel)) (by decide +kernel)
theorem wd_1874 : (Jvm.Cond.methodLink "NoteDocumentLaw" (131 : Nat) ({ cls := "NoteDocument", name := "drop", desc := "(I)I" } : Jvm.MethodName)) ∈ BIG := big_t (List.mem_of_getElem? (i := 1874) (by decide +kernel)) (by decide +kernel)
theorem wd_1875 : (Jvm.Cond.instanceMethod ({ cls := "NoteDocument", name := "drop", desc := "(I)I" } : Jvm.MethodName)) ∈ BIG := big_t (List.mem_of_getElem? (i := 1875) (by decide +kernel)) (by decide +kernel)
theorem wd_1876 : (Jvm.Cond.selects "NoteDocument" ({ cls := "NoteDocument", name := "drop", desc := "(I)I" } : Jvm.MethodName) ({ cls := "NoteDocument", name := "drop", desc := "(I)I" } : Jvm.MethodName)) ∈ BIG := big_t (List.mem_of_getElem? (i := 1876) (by decide +kernel)) (by decide +kernel)
theorem dM_L_drop_12 : decode cM_L_drop 12 = .ok (.astore_n 3, 1) := by decide +kernel
theorem dM_L_drop_13 : decode cM_L_drop 13 = .ok (.iconst 1, 1) := by decide +kernel
theorem dM_L_drop_14 : decode cM_L_drop 14 = .ok (.ireturn, 1) := by decide +kernel
theorem dM_L_drop_7 : decode cM_L_drop 7 = .ok (.i2l, 1) := by decide +kernel
theorem dM_L_drop_8 : decode cM_L_drop 8 = .ok (.lastore, 1) := by decide +kernel
theorem dM_L_drop_9 : decode cM_L_drop 9 = .ok (.goto 6, 3) := by decide +kernel
theorem dM_L_drop_15 : decode cM_L_drop 15 = .ok (.iconst 0, 1) := by decide +kernel
theorem dM_L_drop_16 : decode cM_L_drop 16 = .ok (.ireturn, 1) := by decide +kernel
abbrev cM_L_kindIn : ByteArray := method_38_code
def yM_L_kindIn : MethodName := ⟨"NoteDocumentLaw", "kindIn", "(LNoteDocument;IIII[J)I"⟩
theorem dM_L_kindIn_0 : decode cM_L_kindIn 0 = .ok (.aload 5, 2) := by decide +kernel
theorem dM_L_kindIn_2 : decode cM_L_kindIn 2 = .ok (.iconst 0, 1) := by decide +kernel
theorem dM_L_kindIn_3 : decode cM_L_kindIn 3 = .ok (.aload_n 0, 1) := by decide +kernel
theorem dM_L_kindIn_4 : decode cM_L_kindIn 4 = .ok (.iload_n 1, 1) := by decide +kernel
theorem dM_L_kindIn_5 : decode cM_L_kindIn 5 = .ok (.iload_n 2, 1) := by decide +kernel
theorem dM_L_kindIn_6 : decode cM_L_kindIn 6 = .ok (.iload_n 3, 1) := by decide +kernel
theorem dM_L_kindIn_7 : decode cM_L_kindIn 7 = .ok (.iload 4, 2) := by decide +kernel
theorem dM_L_kindIn_9 : decode cM_L_kindIn 9 = .ok (.invokevirtual 134, 3) := by decide +kernel
theorem wd_1885 : (Jvm.Cond.code ({ cls := "NoteDocument", name := "kindIn", desc := "(IIII)I" } : Jvm.MethodName) prog_1_method_41_code (5 : Nat) (Option.some Jvm.ClassFile.FieldType.int)) ∈ BIG := big_t (List.mem_of_getElem? (i := 1885) (by decide +kernel)) (by decide +kernel)
theorem wd_1882 : (Jvm.Cond.methodLink "NoteDocumentLaw" (134 : Nat) ({ cls := "NoteDocument", name := "kindIn", desc := "(IIII)I" } : Jvm.MethodName)) ∈ BIG := big_t (List.mem_of_getElem? (i := 1882) (by decide +kernel)) (by decide +kernel)
theorem wd_1883 : (Jvm.Cond.instanceMethod ({ cls := "NoteDocument", name := "kindIn", desc := "(IIII)I" } : Jvm.MethodName)) ∈ BIG := big_t (List.mem_of_getElem? (i := 1883) (by decide +kernel)) (by decide +kernel)
theorem wd_1884 : (Jvm.Cond.selects "NoteDocument" ({ cls := "NoteDocument", name := "kindIn", desc := "(IIII)I" } : Jvm.MethodName) ({ cls := "NoteDocument", name := "kindIn", desc := "(IIII)I" } : Jvm.MethodName)) ∈ BIG := big_t (List.mem_of_getElem? (i := 1884) (by decide +kernel)) (by decide +kernel)
theorem dM_L_kindIn_17 : decode cM_L_kindIn 17 = .ok (.astore 6, 2) := by decide +kernel
theorem dM_L_kindIn_19 : decode cM_L_kindIn 19 = .ok (.iconst 1, 1) := by decide +kernel
theorem dM_L_kindIn_20 : decode cM_L_kindIn 20 = .ok (.ireturn, 1) := by decide +kernel
theorem dM_L_kindIn_21 : decode cM_L_kindIn 21 = .ok (.astore 6, 2) := by decide +kernel
theorem dM_L_kindIn_23 : decode cM_L_kindIn 23 = .ok (.iconst 2, 1) := by decide +kernel
theorem dM_L_kindIn_24 : decode cM_L_kindIn 24 = .ok (.ireturn, 1) := by decide +kernel
abbrev cM_L_valueIn : ByteArray := method_39_code
def yM_L_valueIn : MethodName := ⟨"NoteDocumentLaw", "valueIn", "(LNoteDocument;IIII[J)I"⟩
theorem dM_L_valueIn_0 : decode cM_L_valueIn 0 = .ok (.aload 5, 2) := by decide +kernel
theorem dM_L_valueIn_2 : decode cM_L_valueIn 2 = .ok (.iconst 0, 1) := by decide +kernel
theorem dM_L_valueIn_3 : decode cM_L_valueIn 3 = .ok (.aload_n 0, 1) := by decide +kernel
theorem dM_L_valueIn_4 : decode cM_L_valueIn 4 = .ok (.iload_n 1, 1) := by decide +kernel
theorem dM_L_valueIn_5 : decode cM_L_valueIn 5 = .ok (.iload_n 2, 1) := by decide +kernel
theorem dM_L_valueIn_6 : decode cM_L_valueIn 6 = .ok (.iload_n 3, 1) := by decide +kernel
theorem dM_L_valueIn_7 : decode cM_L_valueIn 7 = .ok (.iload 4, 2) := by decide +kernel
theorem dM_L_valueIn_9 : decode cM_L_valueIn 9 = .ok (.invokevirtual 137, 3) := by decide +kernel
theorem wd_1892 : (Jvm.Cond.code ({ cls := "NoteDocument", name := "valueIn", desc := "(IIII)J" } : Jvm.MethodName) prog_1_method_42_code (5 : Nat) (Option.some Jvm.ClassFile.FieldType.long)) ∈ BIG := big_t (List.mem_of_getElem? (i := 1892) (by decide +kernel)) (by decide +kernel)
theorem wd_1889 : (Jvm.Cond.methodLink "NoteDocumentLaw" (137 : Nat) ({ cls := "NoteDocument", name := "valueIn", desc := "(IIII)J" } : Jvm.MethodName)) ∈ BIG := big_t (List.mem_of_getElem? (i := 1889) (by decide +kernel)) (by decide +kernel)
theorem wd_1890 : (Jvm.Cond.instanceMethod ({ cls := "NoteDocument", name := "valueIn", desc := "(IIII)J" } : Jvm.MethodName)) ∈ BIG := big_t (List.mem_of_getElem? (i := 1890) (by decide +kernel)) (by decide +kernel)
theorem wd_1891 : (Jvm.Cond.selects "NoteDocument" ({ cls := "NoteDocument", name := "valueIn", desc := "(IIII)J" } : Jvm.MethodName) ({ cls := "NoteDocument", name := "valueIn", desc := "(IIII)J" } : Jvm.MethodName)) ∈ BIG := big_t (List.mem_of_getElem? (i := 1891) (by decide +kernel)) (by decide +kernel)
theorem dM_L_valueIn_16 : decode cM_L_valueIn 16 = .ok (.astore 6, 2) := by decide +kernel
theorem dM_L_valueIn_18 : decode cM_L_valueIn 18 = .ok (.iconst 1, 1) := by decide +kernel
theorem dM_L_valueIn_19 : decode cM_L_valueIn 19 = .ok (.ireturn, 1) := by decide +kernel
theorem dM_L_valueIn_20 : decode cM_L_valueIn 20 = .ok (.astore 6, 2) := by decide +kernel
theorem dM_L_valueIn_22 : decode cM_L_valueIn 22 = .ok (.iconst 2, 1) := by decide +kernel
theorem dM_L_valueIn_23 : decode cM_L_valueIn 23 = .ok (.ireturn, 1) := by decide +kernel
abbrev cM_L_seek : ByteArray := method_40_code
def yM_L_seek : MethodName := ⟨"NoteDocumentLaw", "seek", "(LNoteDocument;IIIJII[J)I"⟩
theorem dM_L_seek_0 : decode cM_L_seek 0 = .ok (.aload 8, 2) := by decide +kernel
theorem dM_L_seek_2 : decode cM_L_seek 2 = .ok (.iconst 0, 1) := by decide +kernel
theorem dM_L_seek_3 : decode cM_L_seek 3 = .ok (.aload_n 0, 1) := by decide +kernel
theorem dM_L_seek_4 : decode cM_L_seek 4 = .ok (.iload_n 1, 1) := by decide +kernel
theorem dM_L_seek_5 : decode cM_L_seek 5 = .ok (.iload_n 2, 1) := by decide +kernel
theorem dM_L_seek_6 : decode cM_L_seek 6 = .ok (.iload_n 3, 1) := by decide +kernel
theorem dM_L_seek_7 : decode cM_L_seek 7 = .ok (.lload 4, 2) := by decide +kernel
theorem dM_L_seek_9 : decode cM_L_seek 9 = .ok (.iload 6, 2) := by decide +kernel
theorem dM_L_seek_11 : decode cM_L_seek 11 = .ok (.iload 7, 2) := by decide +kernel
theorem dM_L_seek_13 : decode cM_L_seek 13 = .ok (.invokevirtual 141, 3) := by decide +kernel
theorem wd_1899 : (Jvm.Cond.code ({ cls := "NoteDocument", name := "seek", desc := "(IIIJII)I" } : Jvm.MethodName) prog_1_method_43_code (13 : Nat) (Option.some Jvm.ClassFile.FieldType.int)) ∈ BIG := big_t (List.mem_of_getElem? (i := 1899) (by decide +kernel)) (by decide +kernel)
theorem wd_1896 : (Jvm.Cond.methodLink "NoteDocumentLaw" (141 : Nat) ({ cls := "NoteDocument", name := "seek", desc := "(IIIJII)I" } : Jvm.MethodName)) ∈ BIG := big_t (List.mem_of_getElem? (i := 1896) (by decide +kernel)) (by decide +kernel)
theorem wd_1897 : (Jvm.Cond.instanceMethod ({ cls := "NoteDocument", name := "seek", desc := "(IIIJII)I" } : Jvm.MethodName)) ∈ BIG := big_t (List.mem_of_getElem? (i := 1897) (by decide +kernel)) (by decide +kernel)
theorem wd_1898 : (Jvm.Cond.selects "NoteDocument" ({ cls := "NoteDocument", name := "seek", desc := "(IIIJII)I" } : Jvm.MethodName) ({ cls := "NoteDocument", name := "seek", desc := "(IIIJII)I" } : Jvm.MethodName)) ∈ BIG := big_t (List.mem_of_getElem? (i := 1898) (by decide +kernel)) (by decide +kernel)
theorem dM_L_seek_21 : decode cM_L_seek 21 = .ok (.astore 9, 2) := by decide +kernel
theorem dM_L_seek_23 : decode cM_L_seek 23 = .ok (.iconst 1, 1) := by decide +kernel
theorem dM_L_seek_24 : decode cM_L_seek 24 = .ok (.ireturn, 1) := by decide +kernel
abbrev cM_L_undo : ByteArray := method_41_code
def yM_L_undo : MethodName := ⟨"NoteDocumentLaw", "undo", "(LNoteDocument;[J)I"⟩
theorem dM_L_undo_0 : decode cM_L_undo 0 = .ok (.aload_n 1, 1) := by decide +kernel
theorem dM_L_undo_1 : decode cM_L_undo 1 = .ok (.iconst 0, 1) := by decide +kernel
theorem dM_L_undo_2 : decode cM_L_undo 2 = .ok (.aload_n 0, 1) := by decide +kernel
theorem dM_L_undo_3 : decode cM_L_undo 3 = .ok (.invokevirtual 145, 3) := by decide +kernel
theorem wd_1908 : (Jvm.Cond.code ({ cls := "NoteDocument", name := "undo", desc := "()I" } : Jvm.MethodName) prog_1_method_44_code (1 : Nat) (Option.some Jvm.ClassFile.FieldType.int)) ∈ BIG := big_t (List.mem_of_getElem? (i := 1908) (by decide +kernel)) (by decide +kernel)
theorem wd_1905 : (Jvm.Cond.methodLink "NoteDocumentLaw" (145 : Nat) ({ cls := "NoteDocument", name := "undo", desc := "()I" } : Jvm.MethodName)) ∈ BIG := big_t (List.mem_of_getElem? (i := 1905) (by decide +kernel)) (by decide +kernel)
theorem wd_1906 : (Jvm.Cond.instanceMethod ({ cls := "NoteDocument", name := "undo", desc := "()I" } : Jvm.MethodName)) ∈ BIG := big_t (List.mem_of_getElem? (i := 1906) (by decide +kernel)) (by decide +kernel)
theorem wd_1907 : (Jvm.Cond.selects "NoteDocument" ({ cls := "NoteDocument", name := "undo", desc := "()I" } : Jvm.MethodName) ({ cls := "NoteDocument", name := "undo", desc := "()I" } : Jvm.MethodName)) ∈ BIG := big_t (List.mem_of_getElem? (i := 1907) (by decide +kernel)) (by decide +kernel)
theorem wd_1024 : (Jvm.Cond.classLink "NoteDocumentLaw" (15 : Nat) "java/lang/IllegalStateException") ∈ BIG := big_t (List.mem_of_getElem? (i := 1024) (by decide +kernel)) (by decide +kernel)
theorem wx_1100 : (Jvm.Cond.castable "java/lang/IllegalStateException" "java/lang/IllegalStateException") ∈ XW := xw_t (List.mem_of_getElem? (i := 1100) (by decide +kernel)) (by decide +kernel)
theorem dM_L_undo_11 : decode cM_L_undo 11 = .ok (.astore_n 2, 1) := by decide +kernel
theorem dM_L_undo_12 : decode cM_L_undo 12 = .ok (.iconst 1, 1) := by decide +kernel
theorem dM_L_undo_13 : decode cM_L_undo 13 = .ok (.ireturn, 1) := by decide +kernel
set_option maxHeartbeats 4000000 in
set_option maxRecDepth 100000 in
theorem c_L_grid (l : Launch) (hl9 : l.stackTraces = false) (dC : Nat → ClassId) (dI : Nat → Nat → Nat) (h0 : Nat) (p0 : Int32) (p1 : Int32) (ou : Nat) (st : Nat) (v1 : Value) (v2 : Value) (v3 : Value) (v4 : Value) (v5 : Value) (v6 : Value) (v7 : Value) (v8 : Value) (v9 : Value) (v10 : Value) (a_columns : Nat) (a_rows : Nat) (a_content : Nat) (a_held : Nat) (a_other : Nat) (a_named : Nat) (a_body : Nat) (a_parts : Nat) (a_partCount : Nat) (a_refRow : Nat) (a_refColumn : Nat) (a_refToRow : Nat) (a_torn : Nat) (a_record : Nat) (g_rows : Nat → Int32) (g_columns : Nat → Int32) (f0 : Nat → Int64) (sz : Nat) : Met l yM_L_grid (wmW yM_L_grid cM_L_grid 5 (some .int) [(0, 10, 13, 13), (0, 10, 17, 15)]) ({ frames := 140, cells := 1, slots := 6, locals := 2800 }) (nPc [.ref h0, .int p0, .int p1, .ref ou] (dC, dI) [(h0, .inr (0, [.ref st, v1, v2, v3, v4, v5, v6, v7, v8, v9, v10])), (st, .inr (8, [.int 0, .int 0, .int 0, .ref a_columns, .ref a_rows, .ref a_content, .ref a_held, .ref a_other, .ref a_named, .ref a_body, .ref a_parts, .ref a_partCount, .ref a_refRow, .ref a_refColumn, .ref a_refToRow, .ref a_torn, .ref a_record, .int 0, .int 0, .int 0])), (a_rows, .inl (dC 100, 4, .inl g_rows)), (a_columns, .inl (dC 100, 4, .inl g_columns)), (ou, .inl (dC 101, 1, .inr (.inl f0)))] sz) (va_Qi (fun (r : Int32) (u : Nat → Int64) => (okGrid p0 p1 ∧ r = 0 ∧ u = vp_updL f0 (0 : Int32).toNatClampNeg 0) ∨ (¬ okGrid p0 p1 ∧ r = 1 ∧ u = f0)) (fun (u : Nat → Int64) t => nB (dC, dI) (va_A [(h0, .inr (0, [.ref st, v1, v2, v3, v4, v5, v6, v7, v8, v9, v10])), (st, .inr (8, [.int 0, .int 0, .int 0, .ref a_columns, .ref a_rows, .ref a_content, .ref a_held, .ref a_other, .ref a_named, .ref a_body, .ref a_parts, .ref a_partCount, .ref a_refRow, .ref a_refColumn, .ref a_refToRow, .ref a_torn, .ref a_record, .int 0, .int 0, .int 0])), (a_rows, .inl (dC 100, 4, .inl g_rows)), (a_columns, .inl (dC 100, 4, .inl g_columns)), (ou, .inl (dC 101, 1, .inr (.inl f0)))] sz) [(ou, .inl (dC 101, 1, .inr (.inl u)))] t) (va_A [(h0, .inr (0, [.ref st, v1, v2, v3, v4, v5, v6, v7, v8, v9, v10])), (st, .inr (8, [.int 0, .int 0, .int 0, .ref a_columns, .ref a_rows, .ref a_content, .ref a_held, .ref a_other, .ref a_named, .ref a_body, .ref a_parts, .ref a_partCount, .ref a_refRow, .ref a_refColumn, .ref a_refToRow, .ref a_torn, .ref a_record, .int 0, .int 0, .int 0])), (a_rows, .inl (dC 100, 4, .inl g_rows)), (a_columns, .inl (dC 100, 4, .inl g_columns)), (ou, .inl (dC 101, 1, .inr (.inl f0)))] sz)) 1 6 (va_A [(h0, .inr (0, [.ref st, v1, v2, v3, v4, v5, v6, v7, v8, v9, v10])), (st, .inr (8, [.int 0, .int 0, .int 0, .ref a_columns, .ref a_rows, .ref a_content, .ref a_held, .ref a_other, .ref a_named, .ref a_body, .ref a_parts, .ref a_partCount, .ref a_refRow, .ref a_refColumn, .ref a_refToRow, .ref a_torn, .ref a_record, .int 0, .int 0, .int 0])), (a_rows, .inl (dC 100, 4, .inl g_rows)), (a_columns, .inl (dC 100, 4, .inl g_columns)), (ou, .inl (dC 101, 1, .inr (.inl f0)))] sz) := by
  refine va_MetW (cc := cM_L_grid) (maxL := 5) (ret := (some .int)) (by decide) rfl ?_
  intro p e s m args below meth c s₁ B hml hv
  obtain ⟨rfl, hsz, hP, hD0, hK, hN⟩ := hv
  have hx := B.exec
  have hb := B.bytes
  have hr := B.returns
  have hbg : ∀ w ∈ BIG, w.before ([.ref h0, .int p0, .int p1, .ref ou] : List Value).toArray s = true := fun w h => atoms_spec (ws := (wmW yM_L_grid cM_L_grid 5 (some .int) [(0, 10, 13, 13), (0, 10, 17, 15)])) B.pre w (List.mem_cons_of_mem _ h)
  have hown : s.vm.findClass "NoteDocumentLaw" = some m.cls := findClass_of_methodNamed B.named
  have hlocks := B.notSynchronized
  have hTab : c.exceptionTable.toList = tableOf [(0, 10, 13, 13), (0, 10, 17, 15)] := vx_table (x := yM_L_grid) B (atoms_spec (ws := (wmW yM_L_grid cM_L_grid 5 (some .int) [(0, 10, 13, 13), (0, 10, 17, 15)])) B.pre _ List.mem_cons_self)
  subst hsz
  have hD := hD0.self (sz := s.heap.size)
  generalize hAe : va_A [(h0, .inr (0, [.ref st, v1, v2, v3, v4, v5, v6, v7, v8, v9, v10])), (st, .inr (8, [.int 0, .int 0, .int 0, .ref a_columns, .ref a_rows, .ref a_content, .ref a_held, .ref a_other, .ref a_named, .ref a_body, .ref a_parts, .ref a_partCount, .ref a_refRow, .ref a_refColumn, .ref a_refToRow, .ref a_torn, .ref a_record, .int 0, .int 0, .int 0])), (a_rows, .inl (dC 100, 4, .inl g_rows)), (a_columns, .inl (dC 100, 4, .inl g_columns)), (ou, .inl (dC 101, 1, .inr (.inl f0)))] s.heap.size = A at hD hN ⊢
  have hA : ∀ q : Nat, s.heap.size ≤ q → A q := fun q h => by rw [← hAe]; exact Or.inr h
  have hS : va_S A s.heap s.heap [] := va_S.rf
  have hP : va_P (dC, dI) classes [(h0, .inr (0, [.ref st, v1, v2, v3, v4, v5, v6, v7, v8, v9, v10])), (st, .inr (8, [.int 0, .int 0, .int 0, .ref a_columns, .ref a_rows, .ref a_content, .ref a_held, .ref a_other, .ref a_named, .ref a_body, .ref a_parts, .ref a_partCount, .ref a_refRow, .ref a_refColumn, .ref a_refToRow, .ref a_torn, .ref a_record, .int 0, .int 0, .int 0])), (a_rows, .inl (dC 100, 4, .inl g_rows)), (a_columns, .inl (dC 100, 4, .inl g_columns)), (ou, .inl (dC 101, 1, .inr (.inl f0)))] s.heap := hP
  have hl := lv_entry ([.ref h0, .int p0, .int p1, .ref ou] : List Value) (n := 5) (Nat.le_of_ble_eq_true rfl)
  rw [lg_entry_eq]
  generalize (lg_sl ([.ref h0, .int p0, .int p1, .ref ou] : List Value) ++ List.replicate (5 - (lg_sl ([.ref h0, .int p0, .int p1, .ref ou] : List Value)).length) Slot.unset).toArray = ls at hl ⊢
  have hl : lv_has ls 5 [(0, .ref h0), (1, .int p0), (2, .int p1), (3, .ref ou)] := hl
  refine lv_aload_n hx hb dM_L_grid_0 rfl (lv_at hl 3 rfl) ?_
  refine lv_iconst (v := 0) hx hb dM_L_grid_1 (by decide) ?_
  refine lv_aload_n hx hb dM_L_grid_2 rfl (lv_at hl 0 rfl) ?_
  refine lv_iload_n hx hb dM_L_grid_3 rfl (lv_at hl 1 rfl) ?_
  refine lv_iload_n hx hb dM_L_grid_4 rfl (lv_at hl 2 rfl) ?_
  have hFc := va_free (wc := [(h0, .inr (0, [.ref st, v1, v2, v3, v4, v5, v6, v7, v8, v9, v10])), (st, .inr (8, [.int 0, .int 0, .int 0, .ref a_columns, .ref a_rows, .ref a_content, .ref a_held, .ref a_other, .ref a_named, .ref a_body, .ref a_parts, .ref a_partCount, .ref a_refRow, .ref a_refColumn, .ref a_refToRow, .ref a_torn, .ref a_record, .int 0, .int 0, .int 0])), (a_rows, .inl (dC 100, 4, .inl g_rows)), (a_columns, .inl (dC 100, 4, .inl g_columns))]) hD hS hA [0, 1, 2, 3] rfl
  refine vx_calli (vx_runV (As := [.int p0, .int p1]) (rest := [.int 0, .ref ou]) ⟨hx, hb, hml, hown, hbg⟩ (c_D_grid l hl9 dC dI h0 p0 p1 st v1 v2 v3 v4 v5 v6 v7 v8 v9 v10 a_columns a_rows a_content a_held a_other a_named a_body a_parts a_partCount a_refRow a_refColumn a_refToRow a_torn a_record g_rows g_columns _ ) (cwV 2 hbg (gd_V (fun _ h => h) wd_1025 wd_1026 wd_1027 wd_1 (gd_wm (fun _ h => h) wd_1028)) rfl rfl rfl (by decide +kernel) ⟨Nat.le_of_ble_eq_true rfl, Nat.le_of_ble_eq_true rfl⟩) (nPreV [0, 1, 2, 3] hP hD hK hN hS hA (by decide) rfl 0 rfl rfl) rfl rfl hl.1 rfl (lv_room (Nat.le_of_ble_eq_true rfl)) dM_L_grid_5 ⟨Nat.le_of_ble_eq_true rfl, Nat.le_of_ble_eq_true rfl⟩) hS (fun q _ h => hFc q h) hFc (fun q _ h => hFc q h) (fun E ce q9 u t H1 locs ht hvm hpx hBX hz1 hk1 hS hq9 hcv hcl => ?_) (fun r_1 u t H1 locs ht hvm hw hB hz1 hk1 hS => ?_)
  · --
    obtain ⟨hP, hD⟩ := va_join (wr := [(ou, .inl (dC 101, 1, .inr (.inl f0)))]) (w1 := []) hP hD [0, 1, 2, 3] [4] rfl rfl (by decide) (by decide) hk1 hFc nP0 nD0
    generalize H1 = H at hP hS hq9 ⊢
    have hP : va_P (dC, dI) classes [(ou, .inl (dC 101, 1, .inr (.inl f0)))] H := hP
    have hD : va_D A [(ou, .inl (dC 101, 1, .inr (.inl f0)))] := hD
    obtain ⟨rfl, c_2⟩ := hBX
    refine vx_catch (own := "NoteDocumentLaw") (name := "java/lang/IllegalArgumentException") (E := "java/lang/IllegalArgumentException") hown [] ⟨0, 10, 13, 13⟩ [⟨0, 10, 17, 15⟩] (by rw [hTab]; rfl) (fun z hz => nomatch hz) (by decide) (by decide) (hbg _ wd_1023) (va_Nw.use rfl (hK.2.1 _ wx_1031)) hq9 hcv hcl ?_
    refine W.widen (k := 1) (n := 6) (Nat.le_of_ble_eq_true rfl) (Nat.le_of_ble_eq_true rfl) ?_
    refine lv_astore (lv' := [(4, .ref q9), (0, .ref h0), (1, .int p0), (2, .int p1), (3, .ref ou)]) hx hb dM_L_grid_13 hl (by decide) rfl (fun ls hl => ?_)
    refine lv_iconst (v := 1) hx hb dM_L_grid_15 (by decide) ?_
    have hP9 := hP.pick (wc := [(ou, .inl (dC 101, 1, .inr (.inl f0)))]) [0] rfl
    have hD9 := hD.sub (ws' := [(ou, .inl (dC 101, 1, .inr (.inl f0)))]) [0] (by decide) rfl
    exact W.iret (v := 1) hx hb hr (fun t ht hW => ⟨⟨1, (f0), rfl, (Or.inr ⟨c_2, rfl, rfl⟩), ⟨(by rw [ht]; exact hP9), hD9⟩⟩, hS.F ht⟩) hS.2.2 dM_L_grid_16
  · --
    obtain ⟨c_3, rfl⟩ := hw
    obtain ⟨hP, hD⟩ := va_join (wr := [(ou, .inl (dC 101, 1, .inr (.inl f0)))]) (w1 := []) hP hD [0, 1, 2, 3] [4] rfl rfl (by decide) (by decide) hk1 hFc nP0 nD0
    generalize H1 = H at hP hS ⊢
    have hP : va_P (dC, dI) classes [(ou, .inl (dC 101, 1, .inr (.inl f0)))] H := hP
    have hD : va_D A [(ou, .inl (dC 101, 1, .inr (.inl f0)))] := hD
    refine W.widen (k := 1) (n := 6) (Nat.le_of_ble_eq_true rfl) (Nat.le_of_ble_eq_true rfl) ?_
    refine lv_i2l (v := 0) hx hb dM_L_grid_8 (by decide) ?_
    refine va_last hx hb hK.1 hP hD hS 0 1 rfl rfl (by unfold vp_in; decide) dM_L_grid_9 (fun H locs hP hD hS => ?_)
    have hP : va_P (dC, dI) classes [(ou, .inl (dC 101, 1, .inr (.inl (vp_updL f0 (0 : Int32).toNatClampNeg 0))))] H := hP
    have hD : va_D A [(ou, .inl (dC 101, 1, .inr (.inl (vp_updL f0 (0 : Int32).toNatClampNeg 0))))] := hD
    refine lv_goto (tgt := 21) hx hb dM_L_grid_10 (by decide) ?_
    refine lv_iconst (v := 0) hx hb dM_L_grid_21 (by decide) ?_
    have hP9 := hP.pick (wc := [(ou, .inl (dC 101, 1, .inr (.inl (vp_updL f0 (0 : Int32).toNatClampNeg 0))))]) [0] rfl
    have hD9 := hD.sub (ws' := [(ou, .inl (dC 101, 1, .inr (.inl (vp_updL f0 (0 : Int32).toNatClampNeg 0))))]) [0] (by decide) rfl
    exact W.iret (v := 0) hx hb hr (fun t ht hW => ⟨⟨0, (vp_updL f0 (0 : Int32).toNatClampNeg 0), rfl, (Or.inl ⟨c_3, rfl, rfl⟩), ⟨(by rw [ht]; exact hP9), hD9⟩⟩, hS.F ht⟩) hS.2.2 dM_L_grid_22
set_option maxHeartbeats 4000000 in
set_option maxRecDepth 100000 in
theorem c_L_rows (l : Launch) (hl9 : l.stackTraces = false) (dC : Nat → ClassId) (dI : Nat → Nat → Nat) (h0 : Nat) (p0 : Int32) (ou : Nat) (st : Nat) (v1 : Value) (v2 : Value) (v3 : Value) (v4 : Value) (v5 : Value) (v6 : Value) (v7 : Value) (v8 : Value) (v9 : Value) (v10 : Value) (w3 : Value) (w4 : Value) (w5 : Value) (w6 : Value) (w7 : Value) (w8 : Value) (w9 : Value) (w10 : Value) (w11 : Value) (w12 : Value) (w13 : Value) (w14 : Value) (w15 : Value) (w16 : Value) (w17 : Value) (w18 : Value) (w19 : Value) (f0 : Nat → Int64) (sz : Nat) : Met l yM_L_rows (wmW yM_L_rows cM_L_rows 4 (some .int) [(0, 9, 12, 21)]) ({ frames := 140, cells := 1, slots := 6, locals := 2800 }) (nPc [.ref h0, .int p0, .ref ou] (dC, dI) [(h0, .inr (0, [.ref st, v1, v2, v3, v4, v5, v6, v7, v8, v9, v10])), (st, .inr (8, [.int 0, .int 0, .int 0, w3, w4, w5, w6, w7, w8, w9, w10, w11, w12, w13, w14, w15, w16, w17, w18, w19])), (ou, .inl (dC 101, 1, .inr (.inl f0)))] sz) (va_Qi (fun (r : Int32) (u : Nat → Int64) => r = 1 ∧ u = f0) (fun (u : Nat → Int64) t => nB (dC, dI) (va_A [(h0, .inr (0, [.ref st, v1, v2, v3, v4, v5, v6, v7, v8, v9, v10])), (st, .inr (8, [.int 0, .int 0, .int 0, w3, w4, w5, w6, w7, w8, w9, w10, w11, w12, w13, w14, w15, w16, w17, w18, w19])), (ou, .inl (dC 101, 1, .inr (.inl f0)))] sz) [(ou, .inl (dC 101, 1, .inr (.inl u)))] t) (va_A [(h0, .inr (0, [.ref st, v1, v2, v3, v4, v5, v6, v7, v8, v9, v10])), (st, .inr (8, [.int 0, .int 0, .int 0, w3, w4, w5, w6, w7, w8, w9, w10, w11, w12, w13, w14, w15, w16, w17, w18, w19])), (ou, .inl (dC 101, 1, .inr (.inl f0)))] sz)) 1 6 (va_A [(h0, .inr (0, [.ref st, v1, v2, v3, v4, v5, v6, v7, v8, v9, v10])), (st, .inr (8, [.int 0, .int 0, .int 0, w3, w4, w5, w6, w7, w8, w9, w10, w11, w12, w13, w14, w15, w16, w17, w18, w19])), (ou, .inl (dC 101, 1, .inr (.inl f0)))] sz) := by
  refine va_MetW (cc := cM_L_rows) (maxL := 4) (ret := (some .int)) (by decide) rfl ?_
  intro p e s m args below meth c s₁ B hml hv
  obtain ⟨rfl, hsz, hP, hD0, hK, hN⟩ := hv
  have hx := B.exec
  have hb := B.bytes
  have hr := B.returns
  have hbg : ∀ w ∈ BIG, w.before ([.ref h0, .int p0, .ref ou] : List Value).toArray s = true := fun w h => atoms_spec (ws := (wmW yM_L_rows cM_L_rows 4 (some .int) [(0, 9, 12, 21)])) B.pre w (List.mem_cons_of_mem _ h)
  have hown : s.vm.findClass "NoteDocumentLaw" = some m.cls := findClass_of_methodNamed B.named
  have hlocks := B.notSynchronized
  have hTab : c.exceptionTable.toList = tableOf [(0, 9, 12, 21)] := vx_table (x := yM_L_rows) B (atoms_spec (ws := (wmW yM_L_rows cM_L_rows 4 (some .int) [(0, 9, 12, 21)])) B.pre _ List.mem_cons_self)
  subst hsz
  have hD := hD0.self (sz := s.heap.size)
  generalize hAe : va_A [(h0, .inr (0, [.ref st, v1, v2, v3, v4, v5, v6, v7, v8, v9, v10])), (st, .inr (8, [.int 0, .int 0, .int 0, w3, w4, w5, w6, w7, w8, w9, w10, w11, w12, w13, w14, w15, w16, w17, w18, w19])), (ou, .inl (dC 101, 1, .inr (.inl f0)))] s.heap.size = A at hD hN ⊢
  have hA : ∀ q : Nat, s.heap.size ≤ q → A q := fun q h => by rw [← hAe]; exact Or.inr h
  have hS : va_S A s.heap s.heap [] := va_S.rf
  have hP : va_P (dC, dI) classes [(h0, .inr (0, [.ref st, v1, v2, v3, v4, v5, v6, v7, v8, v9, v10])), (st, .inr (8, [.int 0, .int 0, .int 0, w3, w4, w5, w6, w7, w8, w9, w10, w11, w12, w13, w14, w15, w16, w17, w18, w19])), (ou, .inl (dC 101, 1, .inr (.inl f0)))] s.heap := hP
  have hl := lv_entry ([.ref h0, .int p0, .ref ou] : List Value) (n := 4) (Nat.le_of_ble_eq_true rfl)
  rw [lg_entry_eq]
  generalize (lg_sl ([.ref h0, .int p0, .ref ou] : List Value) ++ List.replicate (4 - (lg_sl ([.ref h0, .int p0, .ref ou] : List Value)).length) Slot.unset).toArray = ls at hl ⊢
  have hl : lv_has ls 4 [(0, .ref h0), (1, .int p0), (2, .ref ou)] := hl
  refine lv_aload_n hx hb dM_L_rows_0 rfl (lv_at hl 2 rfl) ?_
  refine lv_iconst (v := 0) hx hb dM_L_rows_1 (by decide) ?_
  refine lv_aload_n hx hb dM_L_rows_2 rfl (lv_at hl 0 rfl) ?_
  refine lv_iload_n hx hb dM_L_rows_3 rfl (lv_at hl 1 rfl) ?_
  have hFc := va_free (wc := [(h0, .inr (0, [.ref st, v1, v2, v3, v4, v5, v6, v7, v8, v9, v10])), (st, .inr (8, [.int 0, .int 0, .int 0, w3, w4, w5, w6, w7, w8, w9, w10, w11, w12, w13, w14, w15, w16, w17, w18, w19]))]) hD hS hA [0, 1] rfl
  refine vx_calli (vx_runV (As := [.int p0]) (rest := [.int 0, .ref ou]) ⟨hx, hb, hml, hown, hbg⟩ (c_D_rows l hl9 dC dI h0 p0 st v1 v2 v3 v4 v5 v6 v7 v8 v9 v10 w3 w4 w5 w6 w7 w8 w9 w10 w11 w12 w13 w14 w15 w16 w17 w18 w19 _ ) (cwV 1 hbg (gd_V (fun _ h => h) wd_1118 wd_1119 wd_1120 wd_1 (gd_wm (fun _ h => h) wd_1121)) rfl rfl rfl (by decide +kernel) ⟨Nat.le_of_ble_eq_true rfl, Nat.le_of_ble_eq_true rfl⟩) (nPreV [0, 1] hP hD hK hN hS hA (by decide) rfl 0 rfl rfl) rfl rfl hl.1 rfl (lv_room (Nat.le_of_ble_eq_true rfl)) dM_L_rows_4 ⟨Nat.le_of_ble_eq_true rfl, Nat.le_of_ble_eq_true rfl⟩) hS (fun q _ h => hFc q h) hFc (fun q _ h => hFc q h) (fun E ce q9 u t H1 locs ht hvm hpx hBX hz1 hk1 hS hq9 hcv hcl => ?_) (fun r_1 u t H1 locs ht hvm hw hB hz1 hk1 hS => ?_)
  · --
    obtain ⟨hP, hD⟩ := va_join (wr := [(ou, .inl (dC 101, 1, .inr (.inl f0)))]) (w1 := []) hP hD [0, 1] [2] rfl rfl (by decide) (by decide) hk1 hFc nP0 nD0
    generalize H1 = H at hP hS hq9 ⊢
    have hP : va_P (dC, dI) classes [(ou, .inl (dC 101, 1, .inr (.inl f0)))] H := hP
    have hD : va_D A [(ou, .inl (dC 101, 1, .inr (.inl f0)))] := hD
    obtain rfl := hBX
    refine vx_catch (own := "NoteDocumentLaw") (name := "java/lang/IndexOutOfBoundsException") (E := "java/lang/IndexOutOfBoundsException") hown [] ⟨0, 9, 12, 21⟩ [] (by rw [hTab]; rfl) (fun z hz => nomatch hz) (by decide) (by decide) (hbg _ wd_1117) (va_Nw.use rfl (hK.2.1 _ wx_1128)) hq9 hcv hcl ?_
    refine W.widen (k := 1) (n := 6) (Nat.le_of_ble_eq_true rfl) (Nat.le_of_ble_eq_true rfl) ?_
    refine lv_astore_n (lv' := [(3, .ref q9), (0, .ref h0), (1, .int p0), (2, .ref ou)]) hx hb dM_L_rows_12 rfl hl (by decide) rfl (fun ls hl => ?_)
    refine lv_iconst (v := 1) hx hb dM_L_rows_13 (by decide) ?_
    have hP9 := hP.pick (wc := [(ou, .inl (dC 101, 1, .inr (.inl f0)))]) [0] rfl
    have hD9 := hD.sub (ws' := [(ou, .inl (dC 101, 1, .inr (.inl f0)))]) [0] (by decide) rfl
    exact W.iret (v := 1) hx hb hr (fun t ht hW => ⟨⟨1, (f0), rfl, ⟨rfl, rfl⟩, ⟨(by rw [ht]; exact hP9), hD9⟩⟩, hS.F ht⟩) hS.2.2 dM_L_rows_14
  · --
    exact hw.elim
set_option maxHeartbeats 4000000 in
set_option maxRecDepth 100000 in
theorem c_L_set (l : Launch) (hl9 : l.stackTraces = false) (dC : Nat → ClassId) (dI : Nat → Nat → Nat) (h0 : Nat) (p0 : Int32) (p1 : Int32) (p2 : Int32) (p3 : Int64) (st : Nat) (v1 : Value) (v2 : Value) (v3 : Value) (v4 : Value) (v5 : Value) (v6 : Value) (v7 : Value) (v8 : Value) (v9 : Value) (v10 : Value) (w3 : Value) (w4 : Value) (w5 : Value) (w6 : Value) (w7 : Value) (w8 : Value) (w9 : Value) (w10 : Value) (w11 : Value) (w12 : Value) (w13 : Value) (w14 : Value) (w15 : Value) (w16 : Value) (w17 : Value) (w18 : Value) (w19 : Value) (sz : Nat) : Met l yM_L_set (wmW yM_L_set cM_L_set 7 (some .int) [(0, 9, 12, 21), (0, 9, 16, 13)]) ({ frames := 140, cells := 1, slots := 6, locals := 2800 }) (nPc [.ref h0, .int p0, .int p1, .int p2, .long p3] (dC, dI) [(h0, .inr (0, [.ref st, v1, v2, v3, v4, v5, v6, v7, v8, v9, v10])), (st, .inr (8, [.int 0, .int 0, .int 0, w3, w4, w5, w6, w7, w8, w9, w10, w11, w12, w13, w14, w15, w16, w17, w18, w19]))] sz) (va_Qi (fun (r : Int32) (_ : Unit) => r = 1) (fun (_ : Unit) t => True) (va_A [(h0, .inr (0, [.ref st, v1, v2, v3, v4, v5, v6, v7, v8, v9, v10])), (st, .inr (8, [.int 0, .int 0, .int 0, w3, w4, w5, w6, w7, w8, w9, w10, w11, w12, w13, w14, w15, w16, w17, w18, w19]))] sz)) 1 6 (va_A [(h0, .inr (0, [.ref st, v1, v2, v3, v4, v5, v6, v7, v8, v9, v10])), (st, .inr (8, [.int 0, .int 0, .int 0, w3, w4, w5, w6, w7, w8, w9, w10, w11, w12, w13, w14, w15, w16, w17, w18, w19]))] sz) := by
  refine va_MetW (cc := cM_L_set) (maxL := 7) (ret := (some .int)) (by decide) rfl ?_
  intro p e s m args below meth c s₁ B hml hv
  obtain ⟨rfl, hsz, hP, hD0, hK, hN⟩ := hv
  have hx := B.exec
  have hb := B.bytes
  have hr := B.returns
  have hbg : ∀ w ∈ BIG, w.before ([.ref h0, .int p0, .int p1, .int p2, .long p3] : List Value).toArray s = true := fun w h => atoms_spec (ws := (wmW yM_L_set cM_L_set 7 (some .int) [(0, 9, 12, 21), (0, 9, 16, 13)])) B.pre w (List.mem_cons_of_mem _ h)
  have hown : s.vm.findClass "NoteDocumentLaw" = some m.cls := findClass_of_methodNamed B.named
  have hlocks := B.notSynchronized
  have hTab : c.exceptionTable.toList = tableOf [(0, 9, 12, 21), (0, 9, 16, 13)] := vx_table (x := yM_L_set) B (atoms_spec (ws := (wmW yM_L_set cM_L_set 7 (some .int) [(0, 9, 12, 21), (0, 9, 16, 13)])) B.pre _ List.mem_cons_self)
  subst hsz
  have hD := hD0.self (sz := s.heap.size)
  generalize hAe : va_A [(h0, .inr (0, [.ref st, v1, v2, v3, v4, v5, v6, v7, v8, v9, v10])), (st, .inr (8, [.int 0, .int 0, .int 0, w3, w4, w5, w6, w7, w8, w9, w10, w11, w12, w13, w14, w15, w16, w17, w18, w19]))] s.heap.size = A at hD hN ⊢
  have hA : ∀ q : Nat, s.heap.size ≤ q → A q := fun q h => by rw [← hAe]; exact Or.inr h
  have hS : va_S A s.heap s.heap [] := va_S.rf
  have hP : va_P (dC, dI) classes [(h0, .inr (0, [.ref st, v1, v2, v3, v4, v5, v6, v7, v8, v9, v10])), (st, .inr (8, [.int 0, .int 0, .int 0, w3, w4, w5, w6, w7, w8, w9, w10, w11, w12, w13, w14, w15, w16, w17, w18, w19]))] s.heap := hP
  have hl := lv_entry ([.ref h0, .int p0, .int p1, .int p2, .long p3] : List Value) (n := 7) (Nat.le_of_ble_eq_true rfl)
  rw [lg_entry_eq]
  generalize (lg_sl ([.ref h0, .int p0, .int p1, .int p2, .long p3] : List Value) ++ List.replicate (7 - (lg_sl ([.ref h0, .int p0, .int p1, .int p2, .long p3] : List Value)).length) Slot.unset).toArray = ls at hl ⊢
  have hl : lv_has ls 7 [(0, .ref h0), (1, .int p0), (2, .int p1), (3, .int p2), (4, .long p3)] := hl
  refine lv_aload_n hx hb dM_L_set_0 rfl (lv_at hl 0 rfl) ?_
  refine lv_iload_n hx hb dM_L_set_1 rfl (lv_at hl 1 rfl) ?_
  refine lv_iload_n hx hb dM_L_set_2 rfl (lv_at hl 2 rfl) ?_
  refine lv_iload_n hx hb dM_L_set_3 rfl (lv_at hl 3 rfl) ?_
  refine lv_lload hx hb dM_L_set_4 (lv_at hl 4 rfl) ?_
  have hFc := va_free (wc := [(h0, .inr (0, [.ref st, v1, v2, v3, v4, v5, v6, v7, v8, v9, v10])), (st, .inr (8, [.int 0, .int 0, .int 0, w3, w4, w5, w6, w7, w8, w9, w10, w11, w12, w13, w14, w15, w16, w17, w18, w19]))]) hD hS hA [0, 1] rfl
  refine vx_callv (vx_runV (As := [.int p0, .int p1, .int p2, .long p3]) (rest := []) ⟨hx, hb, hml, hown, hbg⟩ (c_D_set l hl9 dC dI h0 p0 p1 p2 p3 st v1 v2 v3 v4 v5 v6 v7 v8 v9 v10 w3 w4 w5 w6 w7 w8 w9 w10 w11 w12 w13 w14 w15 w16 w17 w18 w19 _ ) (cwV 4 hbg (gd_V (fun _ h => h) wd_1145 wd_1146 wd_1147 wd_1 (gd_wm (fun _ h => h) wd_1148)) rfl rfl rfl (by decide +kernel) ⟨Nat.le_of_ble_eq_true rfl, Nat.le_of_ble_eq_true rfl⟩) (nPreV [0, 1] hP hD hK hN hS hA (by decide) rfl 0 rfl rfl) rfl rfl hl.1 rfl (lv_room (Nat.le_of_ble_eq_true rfl)) dM_L_set_6 ⟨Nat.le_of_ble_eq_true rfl, Nat.le_of_ble_eq_true rfl⟩) hS (fun q _ h => hFc q h) hFc (fun q _ h => hFc q h) (fun E ce q9 u t H1 locs ht hvm hpx hBX hz1 hk1 hS hq9 hcv hcl => ?_) (fun u t H1 locs ht hvm hw hB hz1 hk1 hS => ?_)
  · --
    obtain ⟨hP, hD⟩ := va_join (wr := []) (w1 := []) hP hD [0, 1] [] rfl rfl (by decide) (by decide) hk1 hFc nP0 nD0
    generalize H1 = H at hP hS hq9 ⊢
    have hP : va_P (dC, dI) classes [] H := hP
    have hD : va_D A [] := hD
    obtain rfl := hBX
    refine vx_catch (own := "NoteDocumentLaw") (name := "java/lang/IndexOutOfBoundsException") (E := "java/lang/IndexOutOfBoundsException") hown [] ⟨0, 9, 12, 21⟩ [⟨0, 9, 16, 13⟩] (by rw [hTab]; rfl) (fun z hz => nomatch hz) (by decide) (by decide) (hbg _ wd_1117) (va_Nw.use rfl (hK.2.1 _ wx_1128)) hq9 hcv hcl ?_
    refine W.widen (k := 1) (n := 6) (Nat.le_of_ble_eq_true rfl) (Nat.le_of_ble_eq_true rfl) ?_
    refine lv_astore (lv' := [(6, .ref q9), (0, .ref h0), (1, .int p0), (2, .int p1), (3, .int p2), (4, .long p3)]) hx hb dM_L_set_12 hl (by decide) rfl (fun ls hl => ?_)
    refine lv_iconst (v := 1) hx hb dM_L_set_14 (by decide) ?_
    exact W.iret (v := 1) hx hb hr (fun t ht hW => ⟨⟨1, (), rfl, rfl, trivial⟩, hS.F ht⟩) hS.2.2 dM_L_set_15
  · --
    exact hw.elim
set_option maxHeartbeats 4000000 in
set_option maxRecDepth 100000 in
theorem c_L_put (l : Launch) (hl9 : l.stackTraces = false) (dC : Nat → ClassId) (dI : Nat → Nat → Nat) (h0 : Nat) (p0 : Int32) (p1 : Int32) (p2 : Int32) (p3 : Int32) (st : Nat) (v1 : Value) (v2 : Value) (v3 : Value) (v4 : Value) (v5 : Value) (v6 : Value) (v7 : Value) (v8 : Value) (v9 : Value) (v10 : Value) (w3 : Value) (w4 : Value) (w5 : Value) (w6 : Value) (w7 : Value) (w8 : Value) (w9 : Value) (w10 : Value) (w11 : Value) (w12 : Value) (w13 : Value) (w14 : Value) (w15 : Value) (w16 : Value) (w17 : Value) (w18 : Value) (w19 : Value) (sz : Nat) : Met l yM_L_put (wmW yM_L_put cM_L_put 6 (some .int) [(0, 9, 12, 21)]) ({ frames := 140, cells := 1, slots := 6, locals := 2800 }) (nPc [.ref h0, .int p0, .int p1, .int p2, .int p3] (dC, dI) [(h0, .inr (0, [.ref st, v1, v2, v3, v4, v5, v6, v7, v8, v9, v10])), (st, .inr (8, [.int 0, .int 0, .int 0, w3, w4, w5, w6, w7, w8, w9, w10, w11, w12, w13, w14, w15, w16, w17, w18, w19]))] sz) (va_Qi (fun (r : Int32) (_ : Unit) => r = 1) (fun (_ : Unit) t => True) (va_A [(h0, .inr (0, [.ref st, v1, v2, v3, v4, v5, v6, v7, v8, v9, v10])), (st, .inr (8, [.int 0, .int 0, .int 0, w3, w4, w5, w6, w7, w8, w9, w10, w11, w12, w13, w14, w15, w16, w17, w18, w19]))] sz)) 1 6 (va_A [(h0, .inr (0, [.ref st, v1, v2, v3, v4, v5, v6, v7, v8, v9, v10])), (st, .inr (8, [.int 0, .int 0, .int 0, w3, w4, w5, w6, w7, w8, w9, w10, w11, w12, w13, w14, w15, w16, w17, w18, w19]))] sz) := by
  refine va_MetW (cc := cM_L_put) (maxL := 6) (ret := (some .int)) (by decide) rfl ?_
  intro p e s m args below meth c s₁ B hml hv
  obtain ⟨rfl, hsz, hP, hD0, hK, hN⟩ := hv
  have hx := B.exec
  have hb := B.bytes
  have hr := B.returns
  have hbg : ∀ w ∈ BIG, w.before ([.ref h0, .int p0, .int p1, .int p2, .int p3] : List Value).toArray s = true := fun w h => atoms_spec (ws := (wmW yM_L_put cM_L_put 6 (some .int) [(0, 9, 12, 21)])) B.pre w (List.mem_cons_of_mem _ h)
  have hown : s.vm.findClass "NoteDocumentLaw" = some m.cls := findClass_of_methodNamed B.named
  have hlocks := B.notSynchronized
  have hTab : c.exceptionTable.toList = tableOf [(0, 9, 12, 21)] := vx_table (x := yM_L_put) B (atoms_spec (ws := (wmW yM_L_put cM_L_put 6 (some .int) [(0, 9, 12, 21)])) B.pre _ List.mem_cons_self)
  subst hsz
  have hD := hD0.self (sz := s.heap.size)
  generalize hAe : va_A [(h0, .inr (0, [.ref st, v1, v2, v3, v4, v5, v6, v7, v8, v9, v10])), (st, .inr (8, [.int 0, .int 0, .int 0, w3, w4, w5, w6, w7, w8, w9, w10, w11, w12, w13, w14, w15, w16, w17, w18, w19]))] s.heap.size = A at hD hN ⊢
  have hA : ∀ q : Nat, s.heap.size ≤ q → A q := fun q h => by rw [← hAe]; exact Or.inr h
  have hS : va_S A s.heap s.heap [] := va_S.rf
  have hP : va_P (dC, dI) classes [(h0, .inr (0, [.ref st, v1, v2, v3, v4, v5, v6, v7, v8, v9, v10])), (st, .inr (8, [.int 0, .int 0, .int 0, w3, w4, w5, w6, w7, w8, w9, w10, w11, w12, w13, w14, w15, w16, w17, w18, w19]))] s.heap := hP
  have hl := lv_entry ([.ref h0, .int p0, .int p1, .int p2, .int p3] : List Value) (n := 6) (Nat.le_of_ble_eq_true rfl)
  rw [lg_entry_eq]
  generalize (lg_sl ([.ref h0, .int p0, .int p1, .int p2, .int p3] : List Value) ++ List.replicate (6 - (lg_sl ([.ref h0, .int p0, .int p1, .int p2, .int p3] : List Value)).length) Slot.unset).toArray = ls at hl ⊢
  have hl : lv_has ls 6 [(0, .ref h0), (1, .int p0), (2, .int p1), (3, .int p2), (4, .int p3)] := hl
  refine lv_aload_n hx hb dM_L_put_0 rfl (lv_at hl 0 rfl) ?_
  refine lv_iload_n hx hb dM_L_put_1 rfl (lv_at hl 1 rfl) ?_
  refine lv_iload_n hx hb dM_L_put_2 rfl (lv_at hl 2 rfl) ?_
  refine lv_iload_n hx hb dM_L_put_3 rfl (lv_at hl 3 rfl) ?_
  refine lv_iload hx hb dM_L_put_4 (lv_at hl 4 rfl) ?_
  have hFc := va_free (wc := [(h0, .inr (0, [.ref st, v1, v2, v3, v4, v5, v6, v7, v8, v9, v10])), (st, .inr (8, [.int 0, .int 0, .int 0, w3, w4, w5, w6, w7, w8, w9, w10, w11, w12, w13, w14, w15, w16, w17, w18, w19]))]) hD hS hA [0, 1] rfl
  refine vx_callv (vx_runV (As := [.int p0, .int p1, .int p2, .int p3]) (rest := []) ⟨hx, hb, hml, hown, hbg⟩ (c_D_put l hl9 dC dI h0 p0 p1 p2 p3 st v1 v2 v3 v4 v5 v6 v7 v8 v9 v10 w3 w4 w5 w6 w7 w8 w9 w10 w11 w12 w13 w14 w15 w16 w17 w18 w19 _ ) (cwV 4 hbg (gd_V (fun _ h => h) wd_1178 wd_1179 wd_1180 wd_1 (gd_wm (fun _ h => h) wd_1181)) rfl rfl rfl (by decide +kernel) ⟨Nat.le_of_ble_eq_true rfl, Nat.le_of_ble_eq_true rfl⟩) (nPreV [0, 1] hP hD hK hN hS hA (by decide) rfl 0 rfl rfl) rfl rfl hl.1 rfl (lv_room (Nat.le_of_ble_eq_true rfl)) dM_L_put_6 ⟨Nat.le_of_ble_eq_true rfl, Nat.le_of_ble_eq_true rfl⟩) hS (fun q _ h => hFc q h) hFc (fun q _ h => hFc q h) (fun E ce q9 u t H1 locs ht hvm hpx hBX hz1 hk1 hS hq9 hcv hcl => ?_) (fun u t H1 locs ht hvm hw hB hz1 hk1 hS => ?_)
  · --
    obtain ⟨hP, hD⟩ := va_join (wr := []) (w1 := []) hP hD [0, 1] [] rfl rfl (by decide) (by decide) hk1 hFc nP0 nD0
    generalize H1 = H at hP hS hq9 ⊢
    have hP : va_P (dC, dI) classes [] H := hP
    have hD : va_D A [] := hD
    obtain rfl := hBX
    refine vx_catch (own := "NoteDocumentLaw") (name := "java/lang/IndexOutOfBoundsException") (E := "java/lang/IndexOutOfBoundsException") hown [] ⟨0, 9, 12, 21⟩ [] (by rw [hTab]; rfl) (fun z hz => nomatch hz) (by decide) (by decide) (hbg _ wd_1117) (va_Nw.use rfl (hK.2.1 _ wx_1128)) hq9 hcv hcl ?_
    refine W.widen (k := 1) (n := 6) (Nat.le_of_ble_eq_true rfl) (Nat.le_of_ble_eq_true rfl) ?_
    refine lv_astore (lv' := [(5, .ref q9), (0, .ref h0), (1, .int p0), (2, .int p1), (3, .int p2), (4, .int p3)]) hx hb dM_L_put_12 hl (by decide) rfl (fun ls hl => ?_)
    refine lv_iconst (v := 1) hx hb dM_L_put_14 (by decide) ?_
    exact W.iret (v := 1) hx hb hr (fun t ht hW => ⟨⟨1, (), rfl, rfl, trivial⟩, hS.F ht⟩) hS.2.2 dM_L_put_15
  · --
    exact hw.elim
set_option maxHeartbeats 4000000 in
set_option maxRecDepth 100000 in
theorem c_L_erase (l : Launch) (hl9 : l.stackTraces = false) (dC : Nat → ClassId) (dI : Nat → Nat → Nat) (h0 : Nat) (p0 : Int32) (p1 : Int32) (p2 : Int32) (ou : Nat) (st : Nat) (v1 : Value) (v2 : Value) (v3 : Value) (v4 : Value) (v5 : Value) (v6 : Value) (v7 : Value) (v8 : Value) (v9 : Value) (v10 : Value) (w3 : Value) (w4 : Value) (w5 : Value) (w6 : Value) (w7 : Value) (w8 : Value) (w9 : Value) (w10 : Value) (w11 : Value) (w12 : Value) (w13 : Value) (w14 : Value) (w15 : Value) (w16 : Value) (w17 : Value) (w18 : Value) (w19 : Value) (f0 : Nat → Int64) (sz : Nat) : Met l yM_L_erase (wmW yM_L_erase cM_L_erase 6 (some .int) [(0, 12, 15, 21)]) ({ frames := 140, cells := 1, slots := 6, locals := 2800 }) (nPc [.ref h0, .int p0, .int p1, .int p2, .ref ou] (dC, dI) [(h0, .inr (0, [.ref st, v1, v2, v3, v4, v5, v6, v7, v8, v9, v10])), (st, .inr (8, [.int 0, .int 0, .int 0, w3, w4, w5, w6, w7, w8, w9, w10, w11, w12, w13, w14, w15, w16, w17, w18, w19])), (ou, .inl (dC 101, 1, .inr (.inl f0)))] sz) (va_Qi (fun (r : Int32) (u : Nat → Int64) => r = 1 ∧ u = f0) (fun (u : Nat → Int64) t => nB (dC, dI) (va_A [(h0, .inr (0, [.ref st, v1, v2, v3, v4, v5, v6, v7, v8, v9, v10])), (st, .inr (8, [.int 0, .int 0, .int 0, w3, w4, w5, w6, w7, w8, w9, w10, w11, w12, w13, w14, w15, w16, w17, w18, w19])), (ou, .inl (dC 101, 1, .inr (.inl f0)))] sz) [(ou, .inl (dC 101, 1, .inr (.inl u)))] t) (va_A [(h0, .inr (0, [.ref st, v1, v2, v3, v4, v5, v6, v7, v8, v9, v10])), (st, .inr (8, [.int 0, .int 0, .int 0, w3, w4, w5, w6, w7, w8, w9, w10, w11, w12, w13, w14, w15, w16, w17, w18, w19])), (ou, .inl (dC 101, 1, .inr (.inl f0)))] sz)) 1 6 (va_A [(h0, .inr (0, [.ref st, v1, v2, v3, v4, v5, v6, v7, v8, v9, v10])), (st, .inr (8, [.int 0, .int 0, .int 0, w3, w4, w5, w6, w7, w8, w9, w10, w11, w12, w13, w14, w15, w16, w17, w18, w19])), (ou, .inl (dC 101, 1, .inr (.inl f0)))] sz) := by
  refine va_MetW (cc := cM_L_erase) (maxL := 6) (ret := (some .int)) (by decide) rfl ?_
  intro p e s m args below meth c s₁ B hml hv
  obtain ⟨rfl, hsz, hP, hD0, hK, hN⟩ := hv
  have hx := B.exec
  have hb := B.bytes
  have hr := B.returns
  have hbg : ∀ w ∈ BIG, w.before ([.ref h0, .int p0, .int p1, .int p2, .ref ou] : List Value).toArray s = true := fun w h => atoms_spec (ws := (wmW yM_L_erase cM_L_erase 6 (some .int) [(0, 12, 15, 21)])) B.pre w (List.mem_cons_of_mem _ h)
  have hown : s.vm.findClass "NoteDocumentLaw" = some m.cls := findClass_of_methodNamed B.named
  have hlocks := B.notSynchronized
  have hTab : c.exceptionTable.toList = tableOf [(0, 12, 15, 21)] := vx_table (x := yM_L_erase) B (atoms_spec (ws := (wmW yM_L_erase cM_L_erase 6 (some .int) [(0, 12, 15, 21)])) B.pre _ List.mem_cons_self)
  subst hsz
  have hD := hD0.self (sz := s.heap.size)
  generalize hAe : va_A [(h0, .inr (0, [.ref st, v1, v2, v3, v4, v5, v6, v7, v8, v9, v10])), (st, .inr (8, [.int 0, .int 0, .int 0, w3, w4, w5, w6, w7, w8, w9, w10, w11, w12, w13, w14, w15, w16, w17, w18, w19])), (ou, .inl (dC 101, 1, .inr (.inl f0)))] s.heap.size = A at hD hN ⊢
  have hA : ∀ q : Nat, s.heap.size ≤ q → A q := fun q h => by rw [← hAe]; exact Or.inr h
  have hS : va_S A s.heap s.heap [] := va_S.rf
  have hP : va_P (dC, dI) classes [(h0, .inr (0, [.ref st, v1, v2, v3, v4, v5, v6, v7, v8, v9, v10])), (st, .inr (8, [.int 0, .int 0, .int 0, w3, w4, w5, w6, w7, w8, w9, w10, w11, w12, w13, w14, w15, w16, w17, w18, w19])), (ou, .inl (dC 101, 1, .inr (.inl f0)))] s.heap := hP
  have hl := lv_entry ([.ref h0, .int p0, .int p1, .int p2, .ref ou] : List Value) (n := 6) (Nat.le_of_ble_eq_true rfl)
  rw [lg_entry_eq]
  generalize (lg_sl ([.ref h0, .int p0, .int p1, .int p2, .ref ou] : List Value) ++ List.replicate (6 - (lg_sl ([.ref h0, .int p0, .int p1, .int p2, .ref ou] : List Value)).length) Slot.unset).toArray = ls at hl ⊢
  have hl : lv_has ls 6 [(0, .ref h0), (1, .int p0), (2, .int p1), (3, .int p2), (4, .ref ou)] := hl
  refine lv_aload hx hb dM_L_erase_0 (lv_at hl 4 rfl) ?_
  refine lv_iconst (v := 0) hx hb dM_L_erase_2 (by decide) ?_
  refine lv_aload_n hx hb dM_L_erase_3 rfl (lv_at hl 0 rfl) ?_
  refine lv_iload_n hx hb dM_L_erase_4 rfl (lv_at hl 1 rfl) ?_
  refine lv_iload_n hx hb dM_L_erase_5 rfl (lv_at hl 2 rfl) ?_
  refine lv_iload_n hx hb dM_L_erase_6 rfl (lv_at hl 3 rfl) ?_
  have hFc := va_free (wc := [(h0, .inr (0, [.ref st, v1, v2, v3, v4, v5, v6, v7, v8, v9, v10])), (st, .inr (8, [.int 0, .int 0, .int 0, w3, w4, w5, w6, w7, w8, w9, w10, w11, w12, w13, w14, w15, w16, w17, w18, w19]))]) hD hS hA [0, 1] rfl
  refine vx_calli (vx_runV (As := [.int p0, .int p1, .int p2]) (rest := [.int 0, .ref ou]) ⟨hx, hb, hml, hown, hbg⟩ (c_D_erase l hl9 dC dI h0 p0 p1 p2 st v1 v2 v3 v4 v5 v6 v7 v8 v9 v10 w3 w4 w5 w6 w7 w8 w9 w10 w11 w12 w13 w14 w15 w16 w17 w18 w19 _ ) (cwV 3 hbg (gd_V (fun _ h => h) wd_1198 wd_1199 wd_1200 wd_1 (gd_wm (fun _ h => h) wd_1201)) rfl rfl rfl (by decide +kernel) ⟨Nat.le_of_ble_eq_true rfl, Nat.le_of_ble_eq_true rfl⟩) (nPreV [0, 1] hP hD hK hN hS hA (by decide) rfl 0 rfl rfl) rfl rfl hl.1 rfl (lv_room (Nat.le_of_ble_eq_true rfl)) dM_L_erase_7 ⟨Nat.le_of_ble_eq_true rfl, Nat.le_of_ble_eq_true rfl⟩) hS (fun q _ h => hFc q h) hFc (fun q _ h => hFc q h) (fun E ce q9 u t H1 locs ht hvm hpx hBX hz1 hk1 hS hq9 hcv hcl => ?_) (fun r_1 u t H1 locs ht hvm hw hB hz1 hk1 hS => ?_)
  · --
    obtain ⟨hP, hD⟩ := va_join (wr := [(ou, .inl (dC 101, 1, .inr (.inl f0)))]) (w1 := []) hP hD [0, 1] [2] rfl rfl (by decide) (by decide) hk1 hFc nP0 nD0
    generalize H1 = H at hP hS hq9 ⊢
    have hP : va_P (dC, dI) classes [(ou, .inl (dC 101, 1, .inr (.inl f0)))] H := hP
    have hD : va_D A [(ou, .inl (dC 101, 1, .inr (.inl f0)))] := hD
    obtain rfl := hBX
    refine vx_catch (own := "NoteDocumentLaw") (name := "java/lang/IndexOutOfBoundsException") (E := "java/lang/IndexOutOfBoundsException") hown [] ⟨0, 12, 15, 21⟩ [] (by rw [hTab]; rfl) (fun z hz => nomatch hz) (by decide) (by decide) (hbg _ wd_1117) (va_Nw.use rfl (hK.2.1 _ wx_1128)) hq9 hcv hcl ?_
    refine W.widen (k := 1) (n := 6) (Nat.le_of_ble_eq_true rfl) (Nat.le_of_ble_eq_true rfl) ?_
    refine lv_astore (lv' := [(5, .ref q9), (0, .ref h0), (1, .int p0), (2, .int p1), (3, .int p2), (4, .ref ou)]) hx hb dM_L_erase_15 hl (by decide) rfl (fun ls hl => ?_)
    refine lv_iconst (v := 1) hx hb dM_L_erase_17 (by decide) ?_
    have hP9 := hP.pick (wc := [(ou, .inl (dC 101, 1, .inr (.inl f0)))]) [0] rfl
    have hD9 := hD.sub (ws' := [(ou, .inl (dC 101, 1, .inr (.inl f0)))]) [0] (by decide) rfl
    exact W.iret (v := 1) hx hb hr (fun t ht hW => ⟨⟨1, (f0), rfl, ⟨rfl, rfl⟩, ⟨(by rw [ht]; exact hP9), hD9⟩⟩, hS.F ht⟩) hS.2.2 dM_L_erase_18
  · --
    exact hw.elim
set_option maxHeartbeats 4000000 in
set_option maxRecDepth 100000 in
theorem c_L_hold (l : Launch) (hl9 : l.stackTraces = false) (dC : Nat → ClassId) (dI : Nat → Nat → Nat) (h0 : Nat) (p0 : Int32) (p1 : Int32) (p2 : Int32) (p3 : Int64) (ou : Nat) (st : Nat) (v1 : Value) (v2 : Value) (v3 : Value) (v4 : Value) (v5 : Value) (v6 : Value) (v7 : Value) (v8 : Value) (v9 : Value) (v10 : Value) (w3 : Value) (w4 : Value) (w5 : Value) (w6 : Value) (w7 : Value) (w8 : Value) (w9 : Value) (w10 : Value) (w11 : Value) (w12 : Value) (w13 : Value) (w14 : Value) (w15 : Value) (w16 : Value) (w17 : Value) (w18 : Value) (w19 : Value) (f0 : Nat → Int64) (sz : Nat) : Met l yM_L_hold (wmW yM_L_hold cM_L_hold 8 (some .int) [(0, 21, 24, 21), (0, 21, 28, 13), (0, 21, 32, 15)]) ({ frames := 140, cells := 1, slots := 6, locals := 2800 }) (nPc [.ref h0, .int p0, .int p1, .int p2, .long p3, .ref ou] (dC, dI) [(h0, .inr (0, [.ref st, v1, v2, v3, v4, v5, v6, v7, v8, v9, v10])), (st, .inr (8, [.int 0, .int 0, .int 0, w3, w4, w5, w6, w7, w8, w9, w10, w11, w12, w13, w14, w15, w16, w17, w18, w19])), (ou, .inl (dC 101, 1, .inr (.inl f0)))] sz) (va_Qi (fun (r : Int32) (u : Nat → Int64) => r = 1 ∧ u = f0) (fun (u : Nat → Int64) t => nB (dC, dI) (va_A [(h0, .inr (0, [.ref st, v1, v2, v3, v4, v5, v6, v7, v8, v9, v10])), (st, .inr (8, [.int 0, .int 0, .int 0, w3, w4, w5, w6, w7, w8, w9, w10, w11, w12, w13, w14, w15, w16, w17, w18, w19])), (ou, .inl (dC 101, 1, .inr (.inl f0)))] sz) [(ou, .inl (dC 101, 1, .inr (.inl u)))] t) (va_A [(h0, .inr (0, [.ref st, v1, v2, v3, v4, v5, v6, v7, v8, v9, v10])), (st, .inr (8, [.int 0, .int 0, .int 0, w3, w4, w5, w6, w7, w8, w9, w10, w11, w12, w13, w14, w15, w16, w17, w18, w19])), (ou, .inl (dC 101, 1, .inr (.inl f0)))] sz)) 1 6 (va_A [(h0, .inr (0, [.ref st, v1, v2, v3, v4, v5, v6, v7, v8, v9, v10])), (st, .inr (8, [.int 0, .int 0, .int 0, w3, w4, w5, w6, w7, w8, w9, w10, w11, w12, w13, w14, w15, w16, w17, w18, w19])), (ou, .inl (dC 101, 1, .inr (.inl f0)))] sz) := by
  refine va_MetW (cc := cM_L_hold) (maxL := 8) (ret := (some .int)) (by decide) rfl ?_
  intro p e s m args below meth c s₁ B hml hv
  obtain ⟨rfl, hsz, hP, hD0, hK, hN⟩ := hv
  have hx := B.exec
  have hb := B.bytes
  have hr := B.returns
  have hbg : ∀ w ∈ BIG, w.before ([.ref h0, .int p0, .int p1, .int p2, .long p3, .ref ou] : List Value).toArray s = true := fun w h => atoms_spec (ws := (wmW yM_L_hold cM_L_hold 8 (some .int) [(0, 21, 24, 21), (0, 21, 28, 13), (0, 21, 32, 15)])) B.pre w (List.mem_cons_of_mem _ h)
  have hown : s.vm.findClass "NoteDocumentLaw" = some m.cls := findClass_of_methodNamed B.named
  have hlocks := B.notSynchronized
  have hTab : c.exceptionTable.toList = tableOf [(0, 21, 24, 21), (0, 21, 28, 13), (0, 21, 32, 15)] := vx_table (x := yM_L_hold) B (atoms_spec (ws := (wmW yM_L_hold cM_L_hold 8 (some .int) [(0, 21, 24, 21), (0, 21, 28, 13), (0, 21, 32, 15)])) B.pre _ List.mem_cons_self)
  subst hsz
  have hD := hD0.self (sz := s.heap.size)
  generalize hAe : va_A [(h0, .inr (0, [.ref st, v1, v2, v3, v4, v5, v6, v7, v8, v9, v10])), (st, .inr (8, [.int 0, .int 0, .int 0, w3, w4, w5, w6, w7, w8, w9, w10, w11, w12, w13, w14, w15, w16, w17, w18, w19])), (ou, .inl (dC 101, 1, .inr (.inl f0)))] s.heap.size = A at hD hN ⊢
  have hA : ∀ q : Nat, s.heap.size ≤ q → A q := fun q h => by rw [← hAe]; exact Or.inr h
  have hS : va_S A s.heap s.heap [] := va_S.rf
  have hP : va_P (dC, dI) classes [(h0, .inr (0, [.ref st, v1, v2, v3, v4, v5, v6, v7, v8, v9, v10])), (st, .inr (8, [.int 0, .int 0, .int 0, w3, w4, w5, w6, w7, w8, w9, w10, w11, w12, w13, w14, w15, w16, w17, w18, w19])), (ou, .inl (dC 101, 1, .inr (.inl f0)))] s.heap := hP
  have hl := lv_entry ([.ref h0, .int p0, .int p1, .int p2, .long p3, .ref ou] : List Value) (n := 8) (Nat.le_of_ble_eq_true rfl)
  rw [lg_entry_eq]
  generalize (lg_sl ([.ref h0, .int p0, .int p1, .int p2, .long p3, .ref ou] : List Value) ++ List.replicate (8 - (lg_sl ([.ref h0, .int p0, .int p1, .int p2, .long p3, .ref ou] : List Value)).length) Slot.unset).toArray = ls at hl ⊢
  have hl : lv_has ls 8 [(0, .ref h0), (1, .int p0), (2, .int p1), (3, .int p2), (4, .long p3), (6, .ref ou)] := hl
  refine lv_aload hx hb dM_L_hold_0 (lv_at hl 5 rfl) ?_
  refine lv_iconst (v := 0) hx hb dM_L_hold_2 (by decide) ?_
  refine lv_aload_n hx hb dM_L_hold_3 rfl (lv_at hl 0 rfl) ?_
  refine lv_iload_n hx hb dM_L_hold_4 rfl (lv_at hl 1 rfl) ?_
  refine lv_iload_n hx hb dM_L_hold_5 rfl (lv_at hl 2 rfl) ?_
  refine lv_iload_n hx hb dM_L_hold_6 rfl (lv_at hl 3 rfl) ?_
  refine lv_lload hx hb dM_L_hold_7 (lv_at hl 4 rfl) ?_
  have hFc := va_free (wc := [(h0, .inr (0, [.ref st, v1, v2, v3, v4, v5, v6, v7, v8, v9, v10])), (st, .inr (8, [.int 0, .int 0, .int 0, w3, w4, w5, w6, w7, w8, w9, w10, w11, w12, w13, w14, w15, w16, w17, w18, w19]))]) hD hS hA [0, 1] rfl
  refine vx_calli (vx_runV (As := [.int p0, .int p1, .int p2, .long p3]) (rest := [.int 0, .ref ou]) ⟨hx, hb, hml, hown, hbg⟩ (c_D_hold l hl9 dC dI h0 p0 p1 p2 p3 st v1 v2 v3 v4 v5 v6 v7 v8 v9 v10 w3 w4 w5 w6 w7 w8 w9 w10 w11 w12 w13 w14 w15 w16 w17 w18 w19 _ ) (cwV 4 hbg (gd_V (fun _ h => h) wd_1207 wd_1208 wd_1209 wd_1 (gd_wm (fun _ h => h) wd_1210)) rfl rfl rfl (by decide +kernel) ⟨Nat.le_of_ble_eq_true rfl, Nat.le_of_ble_eq_true rfl⟩) (nPreV [0, 1] hP hD hK hN hS hA (by decide) rfl 0 rfl rfl) rfl rfl hl.1 rfl (lv_room (Nat.le_of_ble_eq_true rfl)) dM_L_hold_9 ⟨Nat.le_of_ble_eq_true rfl, Nat.le_of_ble_eq_true rfl⟩) hS (fun q _ h => hFc q h) hFc (fun q _ h => hFc q h) (fun E ce q9 u t H1 locs ht hvm hpx hBX hz1 hk1 hS hq9 hcv hcl => ?_) (fun r_1 u t H1 locs ht hvm hw hB hz1 hk1 hS => ?_)
  · --
    obtain ⟨hP, hD⟩ := va_join (wr := [(ou, .inl (dC 101, 1, .inr (.inl f0)))]) (w1 := []) hP hD [0, 1] [2] rfl rfl (by decide) (by decide) hk1 hFc nP0 nD0
    generalize H1 = H at hP hS hq9 ⊢
    have hP : va_P (dC, dI) classes [(ou, .inl (dC 101, 1, .inr (.inl f0)))] H := hP
    have hD : va_D A [(ou, .inl (dC 101, 1, .inr (.inl f0)))] := hD
    obtain rfl := hBX
    refine vx_catch (own := "NoteDocumentLaw") (name := "java/lang/IndexOutOfBoundsException") (E := "java/lang/IndexOutOfBoundsException") hown [] ⟨0, 21, 24, 21⟩ [⟨0, 21, 28, 13⟩, ⟨0, 21, 32, 15⟩] (by rw [hTab]; rfl) (fun z hz => nomatch hz) (by decide) (by decide) (hbg _ wd_1117) (va_Nw.use rfl (hK.2.1 _ wx_1128)) hq9 hcv hcl ?_
    refine W.widen (k := 1) (n := 6) (Nat.le_of_ble_eq_true rfl) (Nat.le_of_ble_eq_true rfl) ?_
    refine lv_astore (lv' := [(7, .ref q9), (0, .ref h0), (1, .int p0), (2, .int p1), (3, .int p2), (4, .long p3), (6, .ref ou)]) hx hb dM_L_hold_24 hl (by decide) rfl (fun ls hl => ?_)
    refine lv_iconst (v := 1) hx hb dM_L_hold_26 (by decide) ?_
    have hP9 := hP.pick (wc := [(ou, .inl (dC 101, 1, .inr (.inl f0)))]) [0] rfl
    have hD9 := hD.sub (ws' := [(ou, .inl (dC 101, 1, .inr (.inl f0)))]) [0] (by decide) rfl
    exact W.iret (v := 1) hx hb hr (fun t ht hW => ⟨⟨1, (f0), rfl, ⟨rfl, rfl⟩, ⟨(by rw [ht]; exact hP9), hD9⟩⟩, hS.F ht⟩) hS.2.2 dM_L_hold_27
  · --
    exact hw.elim
set_option maxHeartbeats 4000000 in
set_option maxRecDepth 100000 in
theorem c_L_rounds (l : Launch) (hl9 : l.stackTraces = false) (dC : Nat → ClassId) (dI : Nat → Nat → Nat) (h0 : Nat) (p0 : Int32) (ou : Nat) (st : Nat) (no : Nat) (ch : Nat) (he : Nat) (de : Nat) (fi : Nat) (v6 : Value) (kp : Nat) (a_columns : Nat) (a_rows : Nat) (a_content : Nat) (a_held : Nat) (a_other : Nat) (a_named : Nat) (a_body : Nat) (a_parts : Nat) (a_partCount : Nat) (a_refRow : Nat) (a_refColumn : Nat) (a_refToRow : Nat) (a_torn : Nat) (a_record : Nat) (g_columns : Nat → Int32) (g_rows : Nat → Int32) (g_content : Nat → Int64) (g_held : Nat → Int64) (g_other : Nat → Int64) (g_named : Nat → Int32) (g_body : Nat → Int32) (g_parts : Nat → Int32) (g_partCount : Nat → Int32) (g_refRow : Nat → Int32) (g_refColumn : Nat → Int32) (g_refToRow : Nat → Int32) (g_torn : Nat → Int32) (g_record : Nat → Int32) (gk : Nat → Option Nat) (k0 : Nat) (ak_columns : Nat) (ak_rows : Nat) (ak_content : Nat) (ak_held : Nat) (ak_other : Nat) (ak_named : Nat) (ak_body : Nat) (ak_parts : Nat) (ak_partCount : Nat) (ak_refRow : Nat) (ak_refColumn : Nat) (ak_refToRow : Nat) (ak_torn : Nat) (ak_record : Nat) (gk_columns : Nat → Int32) (gk_rows : Nat → Int32) (gk_content : Nat → Int64) (gk_held : Nat → Int64) (gk_other : Nat → Int64) (gk_named : Nat → Int32) (gk_body : Nat → Int32) (gk_parts : Nat → Int32) (gk_partCount : Nat → Int32) (gk_refRow : Nat → Int32) (gk_refColumn : Nat → Int32) (gk_refToRow : Nat → Int32) (gk_torn : Nat → Int32) (gk_record : Nat → Int32) (x2 : Value) (x4 : Value) (x6 : Value) (x7 : Value) (x8 : Value) (x9 : Value) (x10 : Value) (x11 : Value) (x12 : Value) (x13 : Value) (x14 : Value) (x15 : Value) (x16 : Value) (x17 : Value) (x18 : Value) (aw : Nat) (gw : Nat → Int64) (ac_cell : Nat) (ac_behind : Nat) (ac_size : Nat) (ac_nextLikely : Nat) (ac_firstLikely : Nat) (gc : Nat → Int32) (f0 : Nat → Int64) (sz : Nat) (hk0 : gk (0 : Int32).toNatClampNeg = some k0) (hheld : ∀ j, j < 200 → g_held j = 1125899906842624) (hrec : ∀ j, j < 885 → g_record j = 0) : Met l yM_L_rounds (wmW yM_L_rounds cM_L_rounds 4 (some .int) [(0, 9, 12, 13)]) ({ frames := 140, cells := 1, slots := 6, locals := 2800 }) (nPc [.ref h0, .int p0, .ref ou] (dC, dI) [(h0, .inr (0, [.ref st, .ref no, .ref ch, .ref he, .ref de, .ref fi, v6, .ref kp, .int 0, .int 0, .int 0])), (st, .inr (8, [.int 0, .int 0, .int 0, .ref a_columns, .ref a_rows, .ref a_content, .ref a_held, .ref a_other, .ref a_named, .ref a_body, .ref a_parts, .ref a_partCount, .ref a_refRow, .ref a_refColumn, .ref a_refToRow, .ref a_torn, .ref a_record, .int 0, .int 0, .int 0])), (a_columns, .inl (dC 100, 4, .inl g_columns)), (a_rows, .inl (dC 100, 4, .inl g_rows)), (a_content, .inl (dC 101, 200, .inr (.inl g_content))), (a_held, .inl (dC 101, 200, .inr (.inl g_held))), (a_other, .inl (dC 101, 600, .inr (.inl g_other))), (a_named, .inl (dC 100, 6, .inl g_named)), (a_body, .inl (dC 100, 4, .inl g_body)), (a_parts, .inl (dC 100, 24, .inl g_parts)), (a_partCount, .inl (dC 100, 3, .inl g_partCount)), (a_refRow, .inl (dC 100, 150, .inl g_refRow)), (a_refColumn, .inl (dC 100, 150, .inl g_refColumn)), (a_refToRow, .inl (dC 100, 150, .inl g_refToRow)), (a_torn, .inl (dC 102, 150, .inl g_torn)), (a_record, .inl (dC 100, 885, .inl g_record)), (kp, .inl (dC 103, 5, .inr (.inr (.inr (.inr gk))))), (k0, .inr (8, [.int 0, .int 0, .int 0, .ref ak_columns, .ref ak_rows, .ref ak_content, .ref ak_held, .ref ak_other, .ref ak_named, .ref ak_body, .ref ak_parts, .ref ak_partCount, .ref ak_refRow, .ref ak_refColumn, .ref ak_refToRow, .ref ak_torn, .ref ak_record, .int 0, .int 0, .int 0])), (ak_columns, .inl (dC 100, 4, .inl gk_columns)), (ak_rows, .inl (dC 100, 4, .inl gk_rows)), (ak_content, .inl (dC 101, 200, .inr (.inl gk_content))), (ak_held, .inl (dC 101, 200, .inr (.inl gk_held))), (ak_other, .inl (dC 101, 600, .inr (.inl gk_other))), (ak_named, .inl (dC 100, 6, .inl gk_named)), (ak_body, .inl (dC 100, 4, .inl gk_body)), (ak_parts, .inl (dC 100, 24, .inl gk_parts)), (ak_partCount, .inl (dC 100, 3, .inl gk_partCount)), (ak_refRow, .inl (dC 100, 150, .inl gk_refRow)), (ak_refColumn, .inl (dC 100, 150, .inl gk_refColumn)), (ak_refToRow, .inl (dC 100, 150, .inl gk_refToRow)), (ak_torn, .inl (dC 102, 150, .inl gk_torn)), (ak_record, .inl (dC 100, 885, .inl gk_record)), (de, .inr (2, [.ref st, .ref he, x2, .int 1, x4, .int 0, x6, x7, x8, x9, x10, x11, x12, x13, x14, x15, x16, x17, x18])), (he, .inr (4, [.ref aw, .int 1])), (aw, .inl (dC 101, 8192, .inr (.inl gw))), (ch, .inr (1, [.ref ac_cell, .ref ac_behind, .ref ac_size, .ref ac_nextLikely, .ref ac_firstLikely, .int (nI (200 + 1))])), (ac_cell, .inl (dC 100, 512, .inl gc)), (ou, .inl (dC 101, 1, .inr (.inl f0)))] sz) (va_Qi (fun (r : Int32) (u : Nat → Int64) => (okRound p0 ∧ r = 0 ∧ u = vp_updL f0 (0 : Int32).toNatClampNeg 0) ∨ (¬ okRound p0 ∧ r = 1 ∧ u = f0)) (fun (u : Nat → Int64) t => nB (dC, dI) (va_A [(h0, .inr (0, [.ref st, .ref no, .ref ch, .ref he, .ref de, .ref fi, v6, .ref kp, .int 0, .int 0, .int 0])), (st, .inr (8, [.int 0, .int 0, .int 0, .ref a_columns, .ref a_rows, .ref a_content, .ref a_held, .ref a_other, .ref a_named, .ref a_body, .ref a_parts, .ref a_partCount, .ref a_refRow, .ref a_refColumn, .ref a_refToRow, .ref a_torn, .ref a_record, .int 0, .int 0, .int 0])), (a_columns, .inl (dC 100, 4, .inl g_columns)), (a_rows, .inl (dC 100, 4, .inl g_rows)), (a_content, .inl (dC 101, 200, .inr (.inl g_content))), (a_held, .inl (dC 101, 200, .inr (.inl g_held))), (a_other, .inl (dC 101, 600, .inr (.inl g_other))), (a_named, .inl (dC 100, 6, .inl g_named)), (a_body, .inl (dC 100, 4, .inl g_body)), (a_parts, .inl (dC 100, 24, .inl g_parts)), (a_partCount, .inl (dC 100, 3, .inl g_partCount)), (a_refRow, .inl (dC 100, 150, .inl g_refRow)), (a_refColumn, .inl (dC 100, 150, .inl g_refColumn)), (a_refToRow, .inl (dC 100, 150, .inl g_refToRow)), (a_torn, .inl (dC 102, 150, .inl g_torn)), (a_record, .inl (dC 100, 885, .inl g_record)), (kp, .inl (dC 103, 5, .inr (.inr (.inr (.inr gk))))), (k0, .inr (8, [.int 0, .int 0, .int 0, .ref ak_columns, .ref ak_rows, .ref ak_content, .ref ak_held, .ref ak_other, .ref ak_named, .ref ak_body, .ref ak_parts, .ref ak_partCount, .ref ak_refRow, .ref ak_refColumn, .ref ak_refToRow, .ref ak_torn, .ref ak_record, .int 0, .int 0, .int 0])), (ak_columns, .inl (dC 100, 4, .inl gk_columns)), (ak_rows, .inl (dC 100, 4, .inl gk_rows)), (ak_content, .inl (dC 101, 200, .inr (.inl gk_content))), (ak_held, .inl (dC 101, 200, .inr (.inl gk_held))), (ak_other, .inl (dC 101, 600, .inr (.inl gk_other))), (ak_named, .inl (dC 100, 6, .inl gk_named)), (ak_body, .inl (dC 100, 4, .inl gk_body)), (ak_parts, .inl (dC 100, 24, .inl gk_parts)), (ak_partCount, .inl (dC 100, 3, .inl gk_partCount)), (ak_refRow, .inl (dC 100, 150, .inl gk_refRow)), (ak_refColumn, .inl (dC 100, 150, .inl gk_refColumn)), (ak_refToRow, .inl (dC 100, 150, .inl gk_refToRow)), (ak_torn, .inl (dC 102, 150, .inl gk_torn)), (ak_record, .inl (dC 100, 885, .inl gk_record)), (de, .inr (2, [.ref st, .ref he, x2, .int 1, x4, .int 0, x6, x7, x8, x9, x10, x11, x12, x13, x14, x15, x16, x17, x18])), (he, .inr (4, [.ref aw, .int 1])), (aw, .inl (dC 101, 8192, .inr (.inl gw))), (ch, .inr (1, [.ref ac_cell, .ref ac_behind, .ref ac_size, .ref ac_nextLikely, .ref ac_firstLikely, .int (nI (200 + 1))])), (ac_cell, .inl (dC 100, 512, .inl gc)), (ou, .inl (dC 101, 1, .inr (.inl f0)))] sz) [(ou, .inl (dC 101, 1, .inr (.inl u)))] t) (va_A [(h0, .inr (0, [.ref st, .ref no, .ref ch, .ref he, .ref de, .ref fi, v6, .ref kp, .int 0, .int 0, .int 0])), (st, .inr (8, [.int 0, .int 0, .int 0, .ref a_columns, .ref a_rows, .ref a_content, .ref a_held, .ref a_other, .ref a_named, .ref a_body, .ref a_parts, .ref a_partCount, .ref a_refRow, .ref a_refColumn, .ref a_refToRow, .ref a_torn, .ref a_record, .int 0, .int 0, .int 0])), (a_columns, .inl (dC 100, 4, .inl g_columns)), (a_rows, .inl (dC 100, 4, .inl g_rows)), (a_content, .inl (dC 101, 200, .inr (.inl g_content))), (a_held, .inl (dC 101, 200, .inr (.inl g_held))), (a_other, .inl (dC 101, 600, .inr (.inl g_other))), (a_named, .inl (dC 100, 6, .inl g_named)), (a_body, .inl (dC 100, 4, .inl g_body)), (a_parts, .inl (dC 100, 24, .inl g_parts)), (a_partCount, .inl (dC 100, 3, .inl g_partCount)), (a_refRow, .inl (dC 100, 150, .inl g_refRow)), (a_refColumn, .inl (dC 100, 150, .inl g_refColumn)), (a_refToRow, .inl (dC 100, 150, .inl g_refToRow)), (a_torn, .inl (dC 102, 150, .inl g_torn)), (a_record, .inl (dC 100, 885, .inl g_record)), (kp, .inl (dC 103, 5, .inr (.inr (.inr (.inr gk))))), (k0, .inr (8, [.int 0, .int 0, .int 0, .ref ak_columns, .ref ak_rows, .ref ak_content, .ref ak_held, .ref ak_other, .ref ak_named, .ref ak_body, .ref ak_parts, .ref ak_partCount, .ref ak_refRow, .ref ak_refColumn, .ref ak_refToRow, .ref ak_torn, .ref ak_record, .int 0, .int 0, .int 0])), (ak_columns, .inl (dC 100, 4, .inl gk_columns)), (ak_rows, .inl (dC 100, 4, .inl gk_rows)), (ak_content, .inl (dC 101, 200, .inr (.inl gk_content))), (ak_held, .inl (dC 101, 200, .inr (.inl gk_held))), (ak_other, .inl (dC 101, 600, .inr (.inl gk_other))), (ak_named, .inl (dC 100, 6, .inl gk_named)), (ak_body, .inl (dC 100, 4, .inl gk_body)), (ak_parts, .inl (dC 100, 24, .inl gk_parts)), (ak_partCount, .inl (dC 100, 3, .inl gk_partCount)), (ak_refRow, .inl (dC 100, 150, .inl gk_refRow)), (ak_refColumn, .inl (dC 100, 150, .inl gk_refColumn)), (ak_refToRow, .inl (dC 100, 150, .inl gk_refToRow)), (ak_torn, .inl (dC 102, 150, .inl gk_torn)), (ak_record, .inl (dC 100, 885, .inl gk_record)), (de, .inr (2, [.ref st, .ref he, x2, .int 1, x4, .int 0, x6, x7, x8, x9, x10, x11, x12, x13, x14, x15, x16, x17, x18])), (he, .inr (4, [.ref aw, .int 1])), (aw, .inl (dC 101, 8192, .inr (.inl gw))), (ch, .inr (1, [.ref ac_cell, .ref ac_behind, .ref ac_size, .ref ac_nextLikely, .ref ac_firstLikely, .int (nI (200 + 1))])), (ac_cell, .inl (dC 100, 512, .inl gc)), (ou, .inl (dC 101, 1, .inr (.inl f0)))] sz)) 1 6 (va_A [(h0, .inr (0, [.ref st, .ref no, .ref ch, .ref he, .ref de, .ref fi, v6, .ref kp, .int 0, .int 0, .int 0])), (st, .inr (8, [.int 0, .int 0, .int 0, .ref a_columns, .ref a_rows, .ref a_content, .ref a_held, .ref a_other, .ref a_named, .ref a_body, .ref a_parts, .ref a_partCount, .ref a_refRow, .ref a_refColumn, .ref a_refToRow, .ref a_torn, .ref a_record, .int 0, .int 0, .int 0])), (a_columns, .inl (dC 100, 4, .inl g_columns)), (a_rows, .inl (dC 100, 4, .inl g_rows)), (a_content, .inl (dC 101, 200, .inr (.inl g_content))), (a_held, .inl (dC 101, 200, .inr (.inl g_held))), (a_other, .inl (dC 101, 600, .inr (.inl g_other))), (a_named, .inl (dC 100, 6, .inl g_named)), (a_body, .inl (dC 100, 4, .inl g_body)), (a_parts, .inl (dC 100, 24, .inl g_parts)), (a_partCount, .inl (dC 100, 3, .inl g_partCount)), (a_refRow, .inl (dC 100, 150, .inl g_refRow)), (a_refColumn, .inl (dC 100, 150, .inl g_refColumn)), (a_refToRow, .inl (dC 100, 150, .inl g_refToRow)), (a_torn, .inl (dC 102, 150, .inl g_torn)), (a_record, .inl (dC 100, 885, .inl g_record)), (kp, .inl (dC 103, 5, .inr (.inr (.inr (.inr gk))))), (k0, .inr (8, [.int 0, .int 0, .int 0, .ref ak_columns, .ref ak_rows, .ref ak_content, .ref ak_held, .ref ak_other, .ref ak_named, .ref ak_body, .ref ak_parts, .ref ak_partCount, .ref ak_refRow, .ref ak_refColumn, .ref ak_refToRow, .ref ak_torn, .ref ak_record, .int 0, .int 0, .int 0])), (ak_columns, .inl (dC 100, 4, .inl gk_columns)), (ak_rows, .inl (dC 100, 4, .inl gk_rows)), (ak_content, .inl (dC 101, 200, .inr (.inl gk_content))), (ak_held, .inl (dC 101, 200, .inr (.inl gk_held))), (ak_other, .inl (dC 101, 600, .inr (.inl gk_other))), (ak_named, .inl (dC 100, 6, .inl gk_named)), (ak_body, .inl (dC 100, 4, .inl gk_body)), (ak_parts, .inl (dC 100, 24, .inl gk_parts)), (ak_partCount, .inl (dC 100, 3, .inl gk_partCount)), (ak_refRow, .inl (dC 100, 150, .inl gk_refRow)), (ak_refColumn, .inl (dC 100, 150, .inl gk_refColumn)), (ak_refToRow, .inl (dC 100, 150, .inl gk_refToRow)), (ak_torn, .inl (dC 102, 150, .inl gk_torn)), (ak_record, .inl (dC 100, 885, .inl gk_record)), (de, .inr (2, [.ref st, .ref he, x2, .int 1, x4, .int 0, x6, x7, x8, x9, x10, x11, x12, x13, x14, x15, x16, x17, x18])), (he, .inr (4, [.ref aw, .int 1])), (aw, .inl (dC 101, 8192, .inr (.inl gw))), (ch, .inr (1, [.ref ac_cell, .ref ac_behind, .ref ac_size, .ref ac_nextLikely, .ref ac_firstLikely, .int (nI (200 + 1))])), (ac_cell, .inl (dC 100, 512, .inl gc)), (ou, .inl (dC 101, 1, .inr (.inl f0)))] sz) := by
  refine va_MetW (cc := cM_L_rounds) (maxL := 4) (ret := (some .int)) (by decide) rfl ?_
  intro p e s m args below meth c s₁ B hml hv
  obtain ⟨rfl, hsz, hP, hD0, hK, hN⟩ := hv
  have hx := B.exec
  have hb := B.bytes
  have hr := B.returns
  have hbg : ∀ w ∈ BIG, w.before ([.ref h0, .int p0, .ref ou] : List Value).toArray s = true := fun w h => atoms_spec (ws := (wmW yM_L_rounds cM_L_rounds 4 (some .int) [(0, 9, 12, 13)])) B.pre w (List.mem_cons_of_mem _ h)
  have hown : s.vm.findClass "NoteDocumentLaw" = some m.cls := findClass_of_methodNamed B.named
  have hlocks := B.notSynchronized
  have hTab : c.exceptionTable.toList = tableOf [(0, 9, 12, 13)] := vx_table (x := yM_L_rounds) B (atoms_spec (ws := (wmW yM_L_rounds cM_L_rounds 4 (some .int) [(0, 9, 12, 13)])) B.pre _ List.mem_cons_self)
  subst hsz
  have hD := hD0.self (sz := s.heap.size)
  generalize hAe : va_A [(h0, .inr (0, [.ref st, .ref no, .ref ch, .ref he, .ref de, .ref fi, v6, .ref kp, .int 0, .int 0, .int 0])), (st, .inr (8, [.int 0, .int 0, .int 0, .ref a_columns, .ref a_rows, .ref a_content, .ref a_held, .ref a_other, .ref a_named, .ref a_body, .ref a_parts, .ref a_partCount, .ref a_refRow, .ref a_refColumn, .ref a_refToRow, .ref a_torn, .ref a_record, .int 0, .int 0, .int 0])), (a_columns, .inl (dC 100, 4, .inl g_columns)), (a_rows, .inl (dC 100, 4, .inl g_rows)), (a_content, .inl (dC 101, 200, .inr (.inl g_content))), (a_held, .inl (dC 101, 200, .inr (.inl g_held))), (a_other, .inl (dC 101, 600, .inr (.inl g_other))), (a_named, .inl (dC 100, 6, .inl g_named)), (a_body, .inl (dC 100, 4, .inl g_body)), (a_parts, .inl (dC 100, 24, .inl g_parts)), (a_partCount, .inl (dC 100, 3, .inl g_partCount)), (a_refRow, .inl (dC 100, 150, .inl g_refRow)), (a_refColumn, .inl (dC 100, 150, .inl g_refColumn)), (a_refToRow, .inl (dC 100, 150, .inl g_refToRow)), (a_torn, .inl (dC 102, 150, .inl g_torn)), (a_record, .inl (dC 100, 885, .inl g_record)), (kp, .inl (dC 103, 5, .inr (.inr (.inr (.inr gk))))), (k0, .inr (8, [.int 0, .int 0, .int 0, .ref ak_columns, .ref ak_rows, .ref ak_content, .ref ak_held, .ref ak_other, .ref ak_named, .ref ak_body, .ref ak_parts, .ref ak_partCount, .ref ak_refRow, .ref ak_refColumn, .ref ak_refToRow, .ref ak_torn, .ref ak_record, .int 0, .int 0, .int 0])), (ak_columns, .inl (dC 100, 4, .inl gk_columns)), (ak_rows, .inl (dC 100, 4, .inl gk_rows)), (ak_content, .inl (dC 101, 200, .inr (.inl gk_content))), (ak_held, .inl (dC 101, 200, .inr (.inl gk_held))), (ak_other, .inl (dC 101, 600, .inr (.inl gk_other))), (ak_named, .inl (dC 100, 6, .inl gk_named)), (ak_body, .inl (dC 100, 4, .inl gk_body)), (ak_parts, .inl (dC 100, 24, .inl gk_parts)), (ak_partCount, .inl (dC 100, 3, .inl gk_partCount)), (ak_refRow, .inl (dC 100, 150, .inl gk_refRow)), (ak_refColumn, .inl (dC 100, 150, .inl gk_refColumn)), (ak_refToRow, .inl (dC 100, 150, .inl gk_refToRow)), (ak_torn, .inl (dC 102, 150, .inl gk_torn)), (ak_record, .inl (dC 100, 885, .inl gk_record)), (de, .inr (2, [.ref st, .ref he, x2, .int 1, x4, .int 0, x6, x7, x8, x9, x10, x11, x12, x13, x14, x15, x16, x17, x18])), (he, .inr (4, [.ref aw, .int 1])), (aw, .inl (dC 101, 8192, .inr (.inl gw))), (ch, .inr (1, [.ref ac_cell, .ref ac_behind, .ref ac_size, .ref ac_nextLikely, .ref ac_firstLikely, .int (nI (200 + 1))])), (ac_cell, .inl (dC 100, 512, .inl gc)), (ou, .inl (dC 101, 1, .inr (.inl f0)))] s.heap.size = A at hD hN ⊢
  have hA : ∀ q : Nat, s.heap.size ≤ q → A q := fun q h => by rw [← hAe]; exact Or.inr h
  have hS : va_S A s.heap s.heap [] := va_S.rf
  have hP : va_P (dC, dI) classes [(h0, .inr (0, [.ref st, .ref no, .ref ch, .ref he, .ref de, .ref fi, v6, .ref kp, .int 0, .int 0, .int 0])), (st, .inr (8, [.int 0, .int 0, .int 0, .ref a_columns, .ref a_rows, .ref a_content, .ref a_held, .ref a_other, .ref a_named, .ref a_body, .ref a_parts, .ref a_partCount, .ref a_refRow, .ref a_refColumn, .ref a_refToRow, .ref a_torn, .ref a_record, .int 0, .int 0, .int 0])), (a_columns, .inl (dC 100, 4, .inl g_columns)), (a_rows, .inl (dC 100, 4, .inl g_rows)), (a_content, .inl (dC 101, 200, .inr (.inl g_content))), (a_held, .inl (dC 101, 200, .inr (.inl g_held))), (a_other, .inl (dC 101, 600, .inr (.inl g_other))), (a_named, .inl (dC 100, 6, .inl g_named)), (a_body, .inl (dC 100, 4, .inl g_body)), (a_parts, .inl (dC 100, 24, .inl g_parts)), (a_partCount, .inl (dC 100, 3, .inl g_partCount)), (a_refRow, .inl (dC 100, 150, .inl g_refRow)), (a_refColumn, .inl (dC 100, 150, .inl g_refColumn)), (a_refToRow, .inl (dC 100, 150, .inl g_refToRow)), (a_torn, .inl (dC 102, 150, .inl g_torn)), (a_record, .inl (dC 100, 885, .inl g_record)), (kp, .inl (dC 103, 5, .inr (.inr (.inr (.inr gk))))), (k0, .inr (8, [.int 0, .int 0, .int 0, .ref ak_columns, .ref ak_rows, .ref ak_content, .ref ak_held, .ref ak_other, .ref ak_named, .ref ak_body, .ref ak_parts, .ref ak_partCount, .ref ak_refRow, .ref ak_refColumn, .ref ak_refToRow, .ref ak_torn, .ref ak_record, .int 0, .int 0, .int 0])), (ak_columns, .inl (dC 100, 4, .inl gk_columns)), (ak_rows, .inl (dC 100, 4, .inl gk_rows)), (ak_content, .inl (dC 101, 200, .inr (.inl gk_content))), (ak_held, .inl (dC 101, 200, .inr (.inl gk_held))), (ak_other, .inl (dC 101, 600, .inr (.inl gk_other))), (ak_named, .inl (dC 100, 6, .inl gk_named)), (ak_body, .inl (dC 100, 4, .inl gk_body)), (ak_parts, .inl (dC 100, 24, .inl gk_parts)), (ak_partCount, .inl (dC 100, 3, .inl gk_partCount)), (ak_refRow, .inl (dC 100, 150, .inl gk_refRow)), (ak_refColumn, .inl (dC 100, 150, .inl gk_refColumn)), (ak_refToRow, .inl (dC 100, 150, .inl gk_refToRow)), (ak_torn, .inl (dC 102, 150, .inl gk_torn)), (ak_record, .inl (dC 100, 885, .inl gk_record)), (de, .inr (2, [.ref st, .ref he, x2, .int 1, x4, .int 0, x6, x7, x8, x9, x10, x11, x12, x13, x14, x15, x16, x17, x18])), (he, .inr (4, [.ref aw, .int 1])), (aw, .inl (dC 101, 8192, .inr (.inl gw))), (ch, .inr (1, [.ref ac_cell, .ref ac_behind, .ref ac_size, .ref ac_nextLikely, .ref ac_firstLikely, .int (nI (200 + 1))])), (ac_cell, .inl (dC 100, 512, .inl gc)), (ou, .inl (dC 101, 1, .inr (.inl f0)))] s.heap := hP
  have hl := lv_entry ([.ref h0, .int p0, .ref ou] : List Value) (n := 4) (Nat.le_of_ble_eq_true rfl)
  rw [lg_entry_eq]
  generalize (lg_sl ([.ref h0, .int p0, .ref ou] : List Value) ++ List.replicate (4 - (lg_sl ([.ref h0, .int p0, .ref ou] : List Value)).length) Slot.unset).toArray = ls at hl ⊢
  have hl : lv_has ls 4 [(0, .ref h0), (1, .int p0), (2, .ref ou)] := hl
  refine lv_aload_n hx hb dM_L_rounds_0 rfl (lv_at hl 2 rfl) ?_
  refine lv_iconst (v := 0) hx hb dM_L_rounds_1 (by decide) ?_
  refine lv_aload_n hx hb dM_L_rounds_2 rfl (lv_at hl 0 rfl) ?_
  refine lv_iload_n hx hb dM_L_rounds_3 rfl (lv_at hl 1 rfl) ?_
  have hFc := va_free (wc := [(h0, .inr (0, [.ref st, .ref no, .ref ch, .ref he, .ref de, .ref fi, v6, .ref kp, .int 0, .int 0, .int 0])), (st, .inr (8, [.int 0, .int 0, .int 0, .ref a_columns, .ref a_rows, .ref a_content, .ref a_held, .ref a_other, .ref a_named, .ref a_body, .ref a_parts, .ref a_partCount, .ref a_refRow, .ref a_refColumn, .ref a_refToRow, .ref a_torn, .ref a_record, .int 0, .int 0, .int 0])), (a_columns, .inl (dC 100, 4, .inl g_columns)), (a_rows, .inl (dC 100, 4, .inl g_rows)), (a_content, .inl (dC 101, 200, .inr (.inl g_content))), (a_held, .inl (dC 101, 200, .inr (.inl g_held))), (a_other, .inl (dC 101, 600, .inr (.inl g_other))), (a_named, .inl (dC 100, 6, .inl g_named)), (a_body, .inl (dC 100, 4, .inl g_body)), (a_parts, .inl (dC 100, 24, .inl g_parts)), (a_partCount, .inl (dC 100, 3, .inl g_partCount)), (a_refRow, .inl (dC 100, 150, .inl g_refRow)), (a_refColumn, .inl (dC 100, 150, .inl g_refColumn)), (a_refToRow, .inl (dC 100, 150, .inl g_refToRow)), (a_torn, .inl (dC 102, 150, .inl g_torn)), (a_record, .inl (dC 100, 885, .inl g_record)), (kp, .inl (dC 103, 5, .inr (.inr (.inr (.inr gk))))), (k0, .inr (8, [.int 0, .int 0, .int 0, .ref ak_columns, .ref ak_rows, .ref ak_content, .ref ak_held, .ref ak_other, .ref ak_named, .ref ak_body, .ref ak_parts, .ref ak_partCount, .ref ak_refRow, .ref ak_refColumn, .ref ak_refToRow, .ref ak_torn, .ref ak_record, .int 0, .int 0, .int 0])), (ak_columns, .inl (dC 100, 4, .inl gk_columns)), (ak_rows, .inl (dC 100, 4, .inl gk_rows)), (ak_content, .inl (dC 101, 200, .inr (.inl gk_content))), (ak_held, .inl (dC 101, 200, .inr (.inl gk_held))), (ak_other, .inl (dC 101, 600, .inr (.inl gk_other))), (ak_named, .inl (dC 100, 6, .inl gk_named)), (ak_body, .inl (dC 100, 4, .inl gk_body)), (ak_parts, .inl (dC 100, 24, .inl gk_parts)), (ak_partCount, .inl (dC 100, 3, .inl gk_partCount)), (ak_refRow, .inl (dC 100, 150, .inl gk_refRow)), (ak_refColumn, .inl (dC 100, 150, .inl gk_refColumn)), (ak_refToRow, .inl (dC 100, 150, .inl gk_refToRow)), (ak_torn, .inl (dC 102, 150, .inl gk_torn)), (ak_record, .inl (dC 100, 885, .inl gk_record)), (de, .inr (2, [.ref st, .ref he, x2, .int 1, x4, .int 0, x6, x7, x8, x9, x10, x11, x12, x13, x14, x15, x16, x17, x18])), (he, .inr (4, [.ref aw, .int 1])), (aw, .inl (dC 101, 8192, .inr (.inl gw))), (ch, .inr (1, [.ref ac_cell, .ref ac_behind, .ref ac_size, .ref ac_nextLikely, .ref ac_firstLikely, .int (nI (200 + 1))])), (ac_cell, .inl (dC 100, 512, .inl gc))]) hD hS hA [0, 1, 2, 3, 4, 5, 6, 7, 8, 9, 10, 11, 12, 13, 14, 15, 16, 17, 18, 19, 20, 21, 22, 23, 24, 25, 26, 27, 28, 29, 30, 31, 32, 33, 34, 35, 36] rfl
  refine vx_calli (vx_runV (As := [.int p0]) (rest := [.int 0, .ref ou]) ⟨hx, hb, hml, hown, hbg⟩ (c_D_rounds l hl9 dC dI h0 p0 st no ch he de fi v6 kp a_columns a_rows a_content a_held a_other a_named a_body a_parts a_partCount a_refRow a_refColumn a_refToRow a_torn a_record g_columns g_rows g_content g_held g_other g_named g_body g_parts g_partCount g_refRow g_refColumn g_refToRow g_torn g_record gk k0 ak_columns ak_rows ak_content ak_held ak_other ak_named ak_body ak_parts ak_partCount ak_refRow ak_refColumn ak_refToRow ak_torn ak_record gk_columns gk_rows gk_content gk_held gk_other gk_named gk_body gk_parts gk_partCount gk_refRow gk_refColumn gk_refToRow gk_torn gk_record x2 x4 x6 x7 x8 x9 x10 x11 x12 x13 x14 x15 x16 x17 x18 aw gw ac_cell ac_behind ac_size ac_nextLikely ac_firstLikely gc _ (hk0) (hheld) (hrec)) (cwV 1 hbg (gd_V (fun _ h => h) wd_1216 wd_1217 wd_1218 wd_1 (gd_wm (fun _ h => h) wd_1219)) rfl rfl rfl (by decide +kernel) ⟨Nat.le_of_ble_eq_true rfl, Nat.le_of_ble_eq_true rfl⟩) (nPreV [0, 1, 2, 3, 4, 5, 6, 7, 8, 9, 10, 11, 12, 13, 14, 15, 16, 17, 18, 19, 20, 21, 22, 23, 24, 25, 26, 27, 28, 29, 30, 31, 32, 33, 34, 35, 36] hP hD hK hN hS hA (by decide) rfl 0 rfl rfl) rfl rfl hl.1 rfl (lv_room (Nat.le_of_ble_eq_true rfl)) dM_L_rounds_4 ⟨Nat.le_of_ble_eq_true rfl, Nat.le_of_ble_eq_true rfl⟩) hS (fun q _ h => hFc q h) hFc (fun q _ h => hFc q h) (fun E ce q9 u t H1 locs ht hvm hpx hBX hz1 hk1 hS hq9 hcv hcl => ?_) (fun r_1 u t H1 locs ht hvm hw hB hz1 hk1 hS => ?_)
  · --
    obtain ⟨hP, hD⟩ := va_join (wr := [(ou, .inl (dC 101, 1, .inr (.inl f0)))]) (w1 := []) hP hD [0, 1, 2, 3, 4, 5, 6, 7, 8, 9, 10, 11, 12, 13, 14, 15, 16, 17, 18, 19, 20, 21, 22, 23, 24, 25, 26, 27, 28, 29, 30, 31, 32, 33, 34, 35, 36] [37] rfl rfl (by decide) (by decide) hk1 hFc nP0 nD0
    generalize H1 = H at hP hS hq9 ⊢
    have hP : va_P (dC, dI) classes [(ou, .inl (dC 101, 1, .inr (.inl f0)))] H := hP
    have hD : va_D A [(ou, .inl (dC 101, 1, .inr (.inl f0)))] := hD
    obtain ⟨rfl, c_2⟩ := hBX
    refine vx_catch (own := "NoteDocumentLaw") (name := "java/lang/IllegalArgumentException") (E := "java/lang/IllegalArgumentException") hown [] ⟨0, 9, 12, 13⟩ [] (by rw [hTab]; rfl) (fun z hz => nomatch hz) (by decide) (by decide) (hbg _ wd_1023) (va_Nw.use rfl (hK.2.1 _ wx_1031)) hq9 hcv hcl ?_
    refine W.widen (k := 1) (n := 6) (Nat.le_of_ble_eq_true rfl) (Nat.le_of_ble_eq_true rfl) ?_
    refine lv_astore_n (lv' := [(3, .ref q9), (0, .ref h0), (1, .int p0), (2, .ref ou)]) hx hb dM_L_rounds_12 rfl hl (by decide) rfl (fun ls hl => ?_)
    refine lv_iconst (v := 1) hx hb dM_L_rounds_13 (by decide) ?_
    have hP9 := hP.pick (wc := [(ou, .inl (dC 101, 1, .inr (.inl f0)))]) [0] rfl
    have hD9 := hD.sub (ws' := [(ou, .inl (dC 101, 1, .inr (.inl f0)))]) [0] (by decide) rfl
    exact W.iret (v := 1) hx hb hr (fun t ht hW => ⟨⟨1, (f0), rfl, (Or.inr ⟨c_2, rfl, rfl⟩), ⟨(by rw [ht]; exact hP9), hD9⟩⟩, hS.F ht⟩) hS.2.2 dM_L_rounds_14
  · --
    obtain ⟨c_3, rfl⟩ := hw
    obtain ⟨hP, hD⟩ := va_join (wr := [(ou, .inl (dC 101, 1, .inr (.inl f0)))]) (w1 := []) hP hD [0, 1, 2, 3, 4, 5, 6, 7, 8, 9, 10, 11, 12, 13, 14, 15, 16, 17, 18, 19, 20, 21, 22, 23, 24, 25, 26, 27, 28, 29, 30, 31, 32, 33, 34, 35, 36] [37] rfl rfl (by decide) (by decide) hk1 hFc nP0 nD0
    generalize H1 = H at hP hS ⊢
    have hP : va_P (dC, dI) classes [(ou, .inl (dC 101, 1, .inr (.inl f0)))] H := hP
    have hD : va_D A [(ou, .inl (dC 101, 1, .inr (.inl f0)))] := hD
    refine W.widen (k := 1) (n := 6) (Nat.le_of_ble_eq_true rfl) (Nat.le_of_ble_eq_true rfl) ?_
    refine lv_i2l (v := 0) hx hb dM_L_rounds_7 (by decide) ?_
    refine va_last hx hb hK.1 hP hD hS 0 1 rfl rfl (by unfold vp_in; decide) dM_L_rounds_8 (fun H locs hP hD hS => ?_)
    have hP : va_P (dC, dI) classes [(ou, .inl (dC 101, 1, .inr (.inl (vp_updL f0 (0 : Int32).toNatClampNeg 0))))] H := hP
    have hD : va_D A [(ou, .inl (dC 101, 1, .inr (.inl (vp_updL f0 (0 : Int32).toNatClampNeg 0))))] := hD
    refine lv_goto (tgt := 15) hx hb dM_L_rounds_9 (by decide) ?_
    refine lv_iconst (v := 0) hx hb dM_L_rounds_15 (by decide) ?_
    have hP9 := hP.pick (wc := [(ou, .inl (dC 101, 1, .inr (.inl (vp_updL f0 (0 : Int32).toNatClampNeg 0))))]) [0] rfl
    have hD9 := hD.sub (ws' := [(ou, .inl (dC 101, 1, .inr (.inl (vp_updL f0 (0 : Int32).toNatClampNeg 0))))]) [0] (by decide) rfl
    exact W.iret (v := 0) hx hb hr (fun t ht hW => ⟨⟨0, (vp_updL f0 (0 : Int32).toNatClampNeg 0), rfl, (Or.inl ⟨c_3, rfl, rfl⟩), ⟨(by rw [ht]; exact hP9), hD9⟩⟩, hS.F ht⟩) hS.2.2 dM_L_rounds_16
set_option maxHeartbeats 4000000 in
set_option maxRecDepth 100000 in
theorem c_L_number (l : Launch) (hl9 : l.stackTraces = false) (dC : Nat → ClassId) (dI : Nat → Nat → Nat) (h0 : Nat) (p0 : Int64) (ou : Nat) (st : Nat) (no : Nat) (v2 : Value) (v3 : Value) (v4 : Value) (v5 : Value) (v6 : Value) (v7 : Value) (v8 : Value) (v9 : Value) (v10 : Value) (an_kind : Nat) (an_of : Nat) (an_first : Nat) (an_second : Nat) (an_third : Nat) (an_weight : Nat) (an_number : Nat) (gn_kind : Nat → Int32) (gn_of : Nat → Int32) (gn_first : Nat → Int32) (gn_second : Nat → Int32) (gn_third : Nat → Int32) (gn_weight : Nat → Int32) (gn_number : Nat → Int64) (a_columns : Nat) (a_rows : Nat) (a_content : Nat) (a_held : Nat) (a_other : Nat) (a_named : Nat) (a_body : Nat) (a_parts : Nat) (a_partCount : Nat) (a_refRow : Nat) (a_refColumn : Nat) (a_refToRow : Nat) (a_torn : Nat) (a_record : Nat) (f0 : Nat → Int64) (sz : Nat) : Met l yM_L_number (wmW yM_L_number cM_L_number 5 (some .int) [(0, 9, 12, 13), (0, 9, 16, 15)]) ({ frames := 140, cells := 1, slots := 6, locals := 2800 }) (nPc [.ref h0, .long p0, .ref ou] (dC, dI) [(h0, .inr (0, [.ref st, .ref no, v2, v3, v4, v5, v6, v7, v8, v9, v10])), (no, .inr (6, [.ref st, .ref an_kind, .ref an_of, .ref an_first, .ref an_second, .ref an_third, .ref an_weight, .ref an_number])), (an_kind, .inl (dC 100, 150, .inl gn_kind)), (an_of, .inl (dC 100, 150, .inl gn_of)), (an_first, .inl (dC 100, 150, .inl gn_first)), (an_second, .inl (dC 100, 150, .inl gn_second)), (an_third, .inl (dC 100, 150, .inl gn_third)), (an_weight, .inl (dC 100, 150, .inl gn_weight)), (an_number, .inl (dC 101, 150, .inr (.inl gn_number))), (st, .inr (8, [.int 0, .int 0, .int 0, .ref a_columns, .ref a_rows, .ref a_content, .ref a_held, .ref a_other, .ref a_named, .ref a_body, .ref a_parts, .ref a_partCount, .ref a_refRow, .ref a_refColumn, .ref a_refToRow, .ref a_torn, .ref a_record, .int 0, .int 0, .int 0])), (ou, .inl (dC 101, 1, .inr (.inl f0)))] sz) (va_Qi (fun (r : Int32) (u : Nat → Int64) => (okN p0 ∧ r = 0 ∧ u = vp_updL f0 (0 : Int32).toNatClampNeg 0) ∨ (¬ okN p0 ∧ r = 1 ∧ u = f0)) (fun (u : Nat → Int64) t => nB (dC, dI) (va_A [(h0, .inr (0, [.ref st, .ref no, v2, v3, v4, v5, v6, v7, v8, v9, v10])), (no, .inr (6, [.ref st, .ref an_kind, .ref an_of, .ref an_first, .ref an_second, .ref an_third, .ref an_weight, .ref an_number])), (an_kind, .inl (dC 100, 150, .inl gn_kind)), (an_of, .inl (dC 100, 150, .inl gn_of)), (an_first, .inl (dC 100, 150, .inl gn_first)), (an_second, .inl (dC 100, 150, .inl gn_second)), (an_third, .inl (dC 100, 150, .inl gn_third)), (an_weight, .inl (dC 100, 150, .inl gn_weight)), (an_number, .inl (dC 101, 150, .inr (.inl gn_number))), (st, .inr (8, [.int 0, .int 0, .int 0, .ref a_columns, .ref a_rows, .ref a_content, .ref a_held, .ref a_other, .ref a_named, .ref a_body, .ref a_parts, .ref a_partCount, .ref a_refRow, .ref a_refColumn, .ref a_refToRow, .ref a_torn, .ref a_record, .int 0, .int 0, .int 0])), (ou, .inl (dC 101, 1, .inr (.inl f0)))] sz) [(ou, .inl (dC 101, 1, .inr (.inl u)))] t) (va_A [(h0, .inr (0, [.ref st, .ref no, v2, v3, v4, v5, v6, v7, v8, v9, v10])), (no, .inr (6, [.ref st, .ref an_kind, .ref an_of, .ref an_first, .ref an_second, .ref an_third, .ref an_weight, .ref an_number])), (an_kind, .inl (dC 100, 150, .inl gn_kind)), (an_of, .inl (dC 100, 150, .inl gn_of)), (an_first, .inl (dC 100, 150, .inl gn_first)), (an_second, .inl (dC 100, 150, .inl gn_second)), (an_third, .inl (dC 100, 150, .inl gn_third)), (an_weight, .inl (dC 100, 150, .inl gn_weight)), (an_number, .inl (dC 101, 150, .inr (.inl gn_number))), (st, .inr (8, [.int 0, .int 0, .int 0, .ref a_columns, .ref a_rows, .ref a_content, .ref a_held, .ref a_other, .ref a_named, .ref a_body, .ref a_parts, .ref a_partCount, .ref a_refRow, .ref a_refColumn, .ref a_refToRow, .ref a_torn, .ref a_record, .int 0, .int 0, .int 0])), (ou, .inl (dC 101, 1, .inr (.inl f0)))] sz)) 1 6 (va_A [(h0, .inr (0, [.ref st, .ref no, v2, v3, v4, v5, v6, v7, v8, v9, v10])), (no, .inr (6, [.ref st, .ref an_kind, .ref an_of, .ref an_first, .ref an_second, .ref an_third, .ref an_weight, .ref an_number])), (an_kind, .inl (dC 100, 150, .inl gn_kind)), (an_of, .inl (dC 100, 150, .inl gn_of)), (an_first, .inl (dC 100, 150, .inl gn_first)), (an_second, .inl (dC 100, 150, .inl gn_second)), (an_third, .inl (dC 100, 150, .inl gn_third)), (an_weight, .inl (dC 100, 150, .inl gn_weight)), (an_number, .inl (dC 101, 150, .inr (.inl gn_number))), (st, .inr (8, [.int 0, .int 0, .int 0, .ref a_columns, .ref a_rows, .ref a_content, .ref a_held, .ref a_other, .ref a_named, .ref a_body, .ref a_parts, .ref a_partCount, .ref a_refRow, .ref a_refColumn, .ref a_refToRow, .ref a_torn, .ref a_record, .int 0, .int 0, .int 0])), (ou, .inl (dC 101, 1, .inr (.inl f0)))] sz) := by
  refine va_MetW (cc := cM_L_number) (maxL := 5) (ret := (some .int)) (by decide) rfl ?_
  intro p e s m args below meth c s₁ B hml hv
  obtain ⟨rfl, hsz, hP, hD0, hK, hN⟩ := hv
  have hx := B.exec
  have hb := B.bytes
  have hr := B.returns
  have hbg : ∀ w ∈ BIG, w.before ([.ref h0, .long p0, .ref ou] : List Value).toArray s = true := fun w h => atoms_spec (ws := (wmW yM_L_number cM_L_number 5 (some .int) [(0, 9, 12, 13), (0, 9, 16, 15)])) B.pre w (List.mem_cons_of_mem _ h)
  have hown : s.vm.findClass "NoteDocumentLaw" = some m.cls := findClass_of_methodNamed B.named
  have hlocks := B.notSynchronized
  have hTab : c.exceptionTable.toList = tableOf [(0, 9, 12, 13), (0, 9, 16, 15)] := vx_table (x := yM_L_number) B (atoms_spec (ws := (wmW yM_L_number cM_L_number 5 (some .int) [(0, 9, 12, 13), (0, 9, 16, 15)])) B.pre _ List.mem_cons_self)
  subst hsz
  have hD := hD0.self (sz := s.heap.size)
  generalize hAe : va_A [(h0, .inr (0, [.ref st, .ref no, v2, v3, v4, v5, v6, v7, v8, v9, v10])), (no, .inr (6, [.ref st, .ref an_kind, .ref an_of, .ref an_first, .ref an_second, .ref an_third, .ref an_weight, .ref an_number])), (an_kind, .inl (dC 100, 150, .inl gn_kind)), (an_of, .inl (dC 100, 150, .inl gn_of)), (an_first, .inl (dC 100, 150, .inl gn_first)), (an_second, .inl (dC 100, 150, .inl gn_second)), (an_third, .inl (dC 100, 150, .inl gn_third)), (an_weight, .inl (dC 100, 150, .inl gn_weight)), (an_number, .inl (dC 101, 150, .inr (.inl gn_number))), (st, .inr (8, [.int 0, .int 0, .int 0, .ref a_columns, .ref a_rows, .ref a_content, .ref a_held, .ref a_other, .ref a_named, .ref a_body, .ref a_parts, .ref a_partCount, .ref a_refRow, .ref a_refColumn, .ref a_refToRow, .ref a_torn, .ref a_record, .int 0, .int 0, .int 0])), (ou, .inl (dC 101, 1, .inr (.inl f0)))] s.heap.size = A at hD hN ⊢
  have hA : ∀ q : Nat, s.heap.size ≤ q → A q := fun q h => by rw [← hAe]; exact Or.inr h
  have hS : va_S A s.heap s.heap [] := va_S.rf
  have hP : va_P (dC, dI) classes [(h0, .inr (0, [.ref st, .ref no, v2, v3, v4, v5, v6, v7, v8, v9, v10])), (no, .inr (6, [.ref st, .ref an_kind, .ref an_of, .ref an_first, .ref an_second, .ref an_third, .ref an_weight, .ref an_number])), (an_kind, .inl (dC 100, 150, .inl gn_kind)), (an_of, .inl (dC 100, 150, .inl gn_of)), (an_first, .inl (dC 100, 150, .inl gn_first)), (an_second, .inl (dC 100, 150, .inl gn_second)), (an_third, .inl (dC 100, 150, .inl gn_third)), (an_weight, .inl (dC 100, 150, .inl gn_weight)), (an_number, .inl (dC 101, 150, .inr (.inl gn_number))), (st, .inr (8, [.int 0, .int 0, .int 0, .ref a_columns, .ref a_rows, .ref a_content, .ref a_held, .ref a_other, .ref a_named, .ref a_body, .ref a_parts, .ref a_partCount, .ref a_refRow, .ref a_refColumn, .ref a_refToRow, .ref a_torn, .ref a_record, .int 0, .int 0, .int 0])), (ou, .inl (dC 101, 1, .inr (.inl f0)))] s.heap := hP
  have hl := lv_entry ([.ref h0, .long p0, .ref ou] : List Value) (n := 5) (Nat.le_of_ble_eq_true rfl)
  rw [lg_entry_eq]
  generalize (lg_sl ([.ref h0, .long p0, .ref ou] : List Value) ++ List.replicate (5 - (lg_sl ([.ref h0, .long p0, .ref ou] : List Value)).length) Slot.unset).toArray = ls at hl ⊢
  have hl : lv_has ls 5 [(0, .ref h0), (1, .long p0), (3, .ref ou)] := hl
  refine lv_aload_n hx hb dM_L_number_0 rfl (lv_at hl 2 rfl) ?_
  refine lv_iconst (v := 0) hx hb dM_L_number_1 (by decide) ?_
  refine lv_aload_n hx hb dM_L_number_2 rfl (lv_at hl 0 rfl) ?_
  refine lv_lload_n hx hb dM_L_number_3 rfl (lv_at hl 1 rfl) ?_
  have hFc := va_free (wc := [(h0, .inr (0, [.ref st, .ref no, v2, v3, v4, v5, v6, v7, v8, v9, v10])), (no, .inr (6, [.ref st, .ref an_kind, .ref an_of, .ref an_first, .ref an_second, .ref an_third, .ref an_weight, .ref an_number])), (an_kind, .inl (dC 100, 150, .inl gn_kind)), (an_of, .inl (dC 100, 150, .inl gn_of)), (an_first, .inl (dC 100, 150, .inl gn_first)), (an_second, .inl (dC 100, 150, .inl gn_second)), (an_third, .inl (dC 100, 150, .inl gn_third)), (an_weight, .inl (dC 100, 150, .inl gn_weight)), (an_number, .inl (dC 101, 150, .inr (.inl gn_number))), (st, .inr (8, [.int 0, .int 0, .int 0, .ref a_columns, .ref a_rows, .ref a_content, .ref a_held, .ref a_other, .ref a_named, .ref a_body, .ref a_parts, .ref a_partCount, .ref a_refRow, .ref a_refColumn, .ref a_refToRow, .ref a_torn, .ref a_record, .int 0, .int 0, .int 0]))]) hD hS hA [0, 1, 2, 3, 4, 5, 6, 7, 8, 9] rfl
  refine vx_calli (vx_runV (As := [.long p0]) (rest := [.int 0, .ref ou]) ⟨hx, hb, hml, hown, hbg⟩ (c_D_number l hl9 dC dI h0 p0 st no v2 v3 v4 v5 v6 v7 v8 v9 v10 an_kind an_of an_first an_second an_third an_weight an_number gn_kind gn_of gn_first gn_second gn_third gn_weight gn_number a_columns a_rows a_content a_held a_other a_named a_body a_parts a_partCount a_refRow a_refColumn a_refToRow a_torn a_record _ ) (cwV 1 hbg (gd_V (fun _ h => h) wd_1235 wd_1236 wd_1237 wd_1 (gd_wm (fun _ h => h) wd_1238)) rfl rfl rfl (by decide +kernel) ⟨Nat.le_of_ble_eq_true rfl, Nat.le_of_ble_eq_true rfl⟩) (nPreV [0, 1, 2, 3, 4, 5, 6, 7, 8, 9] hP hD hK hN hS hA (by decide) rfl 0 rfl rfl) rfl rfl hl.1 rfl (lv_room (Nat.le_of_ble_eq_true rfl)) dM_L_number_4 ⟨Nat.le_of_ble_eq_true rfl, Nat.le_of_ble_eq_true rfl⟩) hS (fun q _ h => hFc q h) hFc (fun q _ h => hFc q h) (fun E ce q9 u t H1 locs ht hvm hpx hBX hz1 hk1 hS hq9 hcv hcl => ?_) (fun r_1 u t H1 locs ht hvm hw hB hz1 hk1 hS => ?_)
  · --
    obtain ⟨hP, hD⟩ := va_join (wr := [(ou, .inl (dC 101, 1, .inr (.inl f0)))]) (w1 := []) hP hD [0, 1, 2, 3, 4, 5, 6, 7, 8, 9] [10] rfl rfl (by decide) (by decide) hk1 hFc nP0 nD0
    generalize H1 = H at hP hS hq9 ⊢
    have hP : va_P (dC, dI) classes [(ou, .inl (dC 101, 1, .inr (.inl f0)))] H := hP
    have hD : va_D A [(ou, .inl (dC 101, 1, .inr (.inl f0)))] := hD
    obtain ⟨rfl, c_2⟩ := hBX
    refine vx_catch (own := "NoteDocumentLaw") (name := "java/lang/IllegalArgumentException") (E := "java/lang/IllegalArgumentException") hown [] ⟨0, 9, 12, 13⟩ [⟨0, 9, 16, 15⟩] (by rw [hTab]; rfl) (fun z hz => nomatch hz) (by decide) (by decide) (hbg _ wd_1023) (va_Nw.use rfl (hK.2.1 _ wx_1031)) hq9 hcv hcl ?_
    refine W.widen (k := 1) (n := 6) (Nat.le_of_ble_eq_true rfl) (Nat.le_of_ble_eq_true rfl) ?_
    refine lv_astore (lv' := [(4, .ref q9), (0, .ref h0), (1, .long p0), (3, .ref ou)]) hx hb dM_L_number_12 hl (by decide) rfl (fun ls hl => ?_)
    refine lv_iconst (v := 1) hx hb dM_L_number_14 (by decide) ?_
    have hP9 := hP.pick (wc := [(ou, .inl (dC 101, 1, .inr (.inl f0)))]) [0] rfl
    have hD9 := hD.sub (ws' := [(ou, .inl (dC 101, 1, .inr (.inl f0)))]) [0] (by decide) rfl
    exact W.iret (v := 1) hx hb hr (fun t ht hW => ⟨⟨1, (f0), rfl, (Or.inr ⟨c_2, rfl, rfl⟩), ⟨(by rw [ht]; exact hP9), hD9⟩⟩, hS.F ht⟩) hS.2.2 dM_L_number_15
  · --
    obtain ⟨c_3, rfl⟩ := hw
    obtain ⟨hP, hD⟩ := va_join (wr := [(ou, .inl (dC 101, 1, .inr (.inl f0)))]) (w1 := []) hP hD [0, 1, 2, 3, 4, 5, 6, 7, 8, 9] [10] rfl rfl (by decide) (by decide) hk1 hFc nP0 nD0
    generalize H1 = H at hP hS ⊢
    have hP : va_P (dC, dI) classes [(ou, .inl (dC 101, 1, .inr (.inl f0)))] H := hP
    have hD : va_D A [(ou, .inl (dC 101, 1, .inr (.inl f0)))] := hD
    refine W.widen (k := 1) (n := 6) (Nat.le_of_ble_eq_true rfl) (Nat.le_of_ble_eq_true rfl) ?_
    refine lv_i2l (v := 0) hx hb dM_L_number_7 (by decide) ?_
    refine va_last hx hb hK.1 hP hD hS 0 1 rfl rfl (by unfold vp_in; decide) dM_L_number_8 (fun H locs hP hD hS => ?_)
    have hP : va_P (dC, dI) classes [(ou, .inl (dC 101, 1, .inr (.inl (vp_updL f0 (0 : Int32).toNatClampNeg 0))))] H := hP
    have hD : va_D A [(ou, .inl (dC 101, 1, .inr (.inl (vp_updL f0 (0 : Int32).toNatClampNeg 0))))] := hD
    refine lv_goto (tgt := 20) hx hb dM_L_number_9 (by decide) ?_
    refine lv_iconst (v := 0) hx hb dM_L_number_20 (by decide) ?_
    have hP9 := hP.pick (wc := [(ou, .inl (dC 101, 1, .inr (.inl (vp_updL f0 (0 : Int32).toNatClampNeg 0))))]) [0] rfl
    have hD9 := hD.sub (ws' := [(ou, .inl (dC 101, 1, .inr (.inl (vp_updL f0 (0 : Int32).toNatClampNeg 0))))]) [0] (by decide) rfl
    exact W.iret (v := 0) hx hb hr (fun t ht hW => ⟨⟨0, (vp_updL f0 (0 : Int32).toNatClampNeg 0), rfl, (Or.inl ⟨c_3, rfl, rfl⟩), ⟨(by rw [ht]; exact hP9), hD9⟩⟩, hS.F ht⟩) hS.2.2 dM_L_number_21
set_option maxHeartbeats 4000000 in
set_option maxRecDepth 100000 in
theorem c_L_cell (l : Launch) (hl9 : l.stackTraces = false) (dC : Nat → ClassId) (dI : Nat → Nat → Nat) (h0 : Nat) (p0 : Int32) (p1 : Int32) (p2 : Int32) (p3 : Int32) (ou : Nat) (st : Nat) (v1 : Value) (v2 : Value) (v3 : Value) (v4 : Value) (v5 : Value) (v6 : Value) (v7 : Value) (v8 : Value) (v9 : Value) (v10 : Value) (w3 : Value) (w4 : Value) (w5 : Value) (w6 : Value) (w7 : Value) (w8 : Value) (w9 : Value) (w10 : Value) (w11 : Value) (w12 : Value) (w13 : Value) (w14 : Value) (w15 : Value) (w16 : Value) (w17 : Value) (w18 : Value) (w19 : Value) (f0 : Nat → Int64) (sz : Nat) : Met l yM_L_cell_1 (wmW yM_L_cell_1 cM_L_cell_1 7 (some .int) [(0, 14, 17, 21), (0, 14, 21, 15)]) ({ frames := 140, cells := 1, slots := 6, locals := 2800 }) (nPc [.ref h0, .int p0, .int p1, .int p2, .int p3, .ref ou] (dC, dI) [(h0, .inr (0, [.ref st, v1, v2, v3, v4, v5, v6, v7, v8, v9, v10])), (st, .inr (8, [.int 0, .int 0, .int 0, w3, w4, w5, w6, w7, w8, w9, w10, w11, w12, w13, w14, w15, w16, w17, w18, w19])), (ou, .inl (dC 101, 1, .inr (.inl f0)))] sz) (va_Qi (fun (r : Int32) (u : Nat → Int64) => r = 1 ∧ u = f0) (fun (u : Nat → Int64) t => nB (dC, dI) (va_A [(h0, .inr (0, [.ref st, v1, v2, v3, v4, v5, v6, v7, v8, v9, v10])), (st, .inr (8, [.int 0, .int 0, .int 0, w3, w4, w5, w6, w7, w8, w9, w10, w11, w12, w13, w14, w15, w16, w17, w18, w19])), (ou, .inl (dC 101, 1, .inr (.inl f0)))] sz) [(ou, .inl (dC 101, 1, .inr (.inl u)))] t) (va_A [(h0, .inr (0, [.ref st, v1, v2, v3, v4, v5, v6, v7, v8, v9, v10])), (st, .inr (8, [.int 0, .int 0, .int 0, w3, w4, w5, w6, w7, w8, w9, w10, w11, w12, w13, w14, w15, w16, w17, w18, w19])), (ou, .inl (dC 101, 1, .inr (.inl f0)))] sz)) 1 6 (va_A [(h0, .inr (0, [.ref st, v1, v2, v3, v4, v5, v6, v7, v8, v9, v10])), (st, .inr (8, [.int 0, .int 0, .int 0, w3, w4, w5, w6, w7, w8, w9, w10, w11, w12, w13, w14, w15, w16, w17, w18, w19])), (ou, .inl (dC 101, 1, .inr (.inl f0)))] sz) := by
  refine va_MetW (cc := cM_L_cell_1) (maxL := 7) (ret := (some .int)) (by decide) rfl ?_
  intro p e s m args below meth c s₁ B hml hv
  obtain ⟨rfl, hsz, hP, hD0, hK, hN⟩ := hv
  have hx := B.exec
  have hb := B.bytes
  have hr := B.returns
  have hbg : ∀ w ∈ BIG, w.before ([.ref h0, .int p0, .int p1, .int p2, .int p3, .ref ou] : List Value).toArray s = true := fun w h => atoms_spec (ws := (wmW yM_L_cell_1 cM_L_cell_1 7 (some .int) [(0, 14, 17, 21), (0, 14, 21, 15)])) B.pre w (List.mem_cons_of_mem _ h)
  have hown : s.vm.findClass "NoteDocumentLaw" = some m.cls := findClass_of_methodNamed B.named
  have hlocks := B.notSynchronized
  have hTab : c.exceptionTable.toList = tableOf [(0, 14, 17, 21), (0, 14, 21, 15)] := vx_table (x := yM_L_cell_1) B (atoms_spec (ws := (wmW yM_L_cell_1 cM_L_cell_1 7 (some .int) [(0, 14, 17, 21), (0, 14, 21, 15)])) B.pre _ List.mem_cons_self)
  subst hsz
  have hD := hD0.self (sz := s.heap.size)
  generalize hAe : va_A [(h0, .inr (0, [.ref st, v1, v2, v3, v4, v5, v6, v7, v8, v9, v10])), (st, .inr (8, [.int 0, .int 0, .int 0, w3, w4, w5, w6, w7, w8, w9, w10, w11, w12, w13, w14, w15, w16, w17, w18, w19])), (ou, .inl (dC 101, 1, .inr (.inl f0)))] s.heap.size = A at hD hN ⊢
  have hA : ∀ q : Nat, s.heap.size ≤ q → A q := fun q h => by rw [← hAe]; exact Or.inr h
  have hS : va_S A s.heap s.heap [] := va_S.rf
  have hP : va_P (dC, dI) classes [(h0, .inr (0, [.ref st, v1, v2, v3, v4, v5, v6, v7, v8, v9, v10])), (st, .inr (8, [.int 0, .int 0, .int 0, w3, w4, w5, w6, w7, w8, w9, w10, w11, w12, w13, w14, w15, w16, w17, w18, w19])), (ou, .inl (dC 101, 1, .inr (.inl f0)))] s.heap := hP
  have hl := lv_entry ([.ref h0, .int p0, .int p1, .int p2, .int p3, .ref ou] : List Value) (n := 7) (Nat.le_of_ble_eq_true rfl)
  rw [lg_entry_eq]
  generalize (lg_sl ([.ref h0, .int p0, .int p1, .int p2, .int p3, .ref ou] : List Value) ++ List.replicate (7 - (lg_sl ([.ref h0, .int p0, .int p1, .int p2, .int p3, .ref ou] : List Value)).length) Slot.unset).toArray = ls at hl ⊢
  have hl : lv_has ls 7 [(0, .ref h0), (1, .int p0), (2, .int p1), (3, .int p2), (4, .int p3), (5, .ref ou)] := hl
  refine lv_aload hx hb dM_L_cell_1_0 (lv_at hl 5 rfl) ?_
  refine lv_iconst (v := 0) hx hb dM_L_cell_1_2 (by decide) ?_
  refine lv_aload_n hx hb dM_L_cell_1_3 rfl (lv_at hl 0 rfl) ?_
  refine lv_iload_n hx hb dM_L_cell_1_4 rfl (lv_at hl 1 rfl) ?_
  refine lv_iload_n hx hb dM_L_cell_1_5 rfl (lv_at hl 2 rfl) ?_
  refine lv_iload_n hx hb dM_L_cell_1_6 rfl (lv_at hl 3 rfl) ?_
  refine lv_iload hx hb dM_L_cell_1_7 (lv_at hl 4 rfl) ?_
  have hFc := va_free (wc := [(h0, .inr (0, [.ref st, v1, v2, v3, v4, v5, v6, v7, v8, v9, v10])), (st, .inr (8, [.int 0, .int 0, .int 0, w3, w4, w5, w6, w7, w8, w9, w10, w11, w12, w13, w14, w15, w16, w17, w18, w19]))]) hD hS hA [0, 1] rfl
  refine vx_calli (vx_runV (As := [.int p0, .int p1, .int p2, .int p3]) (rest := [.int 0, .ref ou]) ⟨hx, hb, hml, hown, hbg⟩ (c_D_cell l hl9 dC dI h0 p0 p1 p2 p3 st v1 v2 v3 v4 v5 v6 v7 v8 v9 v10 w3 w4 w5 w6 w7 w8 w9 w10 w11 w12 w13 w14 w15 w16 w17 w18 w19 _ ) (cwV 4 hbg (gd_V (fun _ h => h) wd_1251 wd_1252 wd_1253 wd_1 (gd_wm (fun _ h => h) wd_1254)) rfl rfl rfl (by decide +kernel) ⟨Nat.le_of_ble_eq_true rfl, Nat.le_of_ble_eq_true rfl⟩) (nPreV [0, 1] hP hD hK hN hS hA (by decide) rfl 0 rfl rfl) rfl rfl hl.1 rfl (lv_room (Nat.le_of_ble_eq_true rfl)) dM_L_cell_1_9 ⟨Nat.le_of_ble_eq_true rfl, Nat.le_of_ble_eq_true rfl⟩) hS (fun q _ h => hFc q h) hFc (fun q _ h => hFc q h) (fun E ce q9 u t H1 locs ht hvm hpx hBX hz1 hk1 hS hq9 hcv hcl => ?_) (fun r_1 u t H1 locs ht hvm hw hB hz1 hk1 hS => ?_)
  · --
    obtain ⟨hP, hD⟩ := va_join (wr := [(ou, .inl (dC 101, 1, .inr (.inl f0)))]) (w1 := []) hP hD [0, 1] [2] rfl rfl (by decide) (by decide) hk1 hFc nP0 nD0
    generalize H1 = H at hP hS hq9 ⊢
    have hP : va_P (dC, dI) classes [(ou, .inl (dC 101, 1, .inr (.inl f0)))] H := hP
    have hD : va_D A [(ou, .inl (dC 101, 1, .inr (.inl f0)))] := hD
    obtain rfl := hBX
    refine vx_catch (own := "NoteDocumentLaw") (name := "java/lang/IndexOutOfBoundsException") (E := "java/lang/IndexOutOfBoundsException") hown [] ⟨0, 14, 17, 21⟩ [⟨0, 14, 21, 15⟩] (by rw [hTab]; rfl) (fun z hz => nomatch hz) (by decide) (by decide) (hbg _ wd_1117) (va_Nw.use rfl (hK.2.1 _ wx_1128)) hq9 hcv hcl ?_
    refine W.widen (k := 1) (n := 6) (Nat.le_of_ble_eq_true rfl) (Nat.le_of_ble_eq_true rfl) ?_
    refine lv_astore (lv' := [(6, .ref q9), (0, .ref h0), (1, .int p0), (2, .int p1), (3, .int p2), (4, .int p3), (5, .ref ou)]) hx hb dM_L_cell_1_17 hl (by decide) rfl (fun ls hl => ?_)
    refine lv_iconst (v := 1) hx hb dM_L_cell_1_19 (by decide) ?_
    have hP9 := hP.pick (wc := [(ou, .inl (dC 101, 1, .inr (.inl f0)))]) [0] rfl
    have hD9 := hD.sub (ws' := [(ou, .inl (dC 101, 1, .inr (.inl f0)))]) [0] (by decide) rfl
    exact W.iret (v := 1) hx hb hr (fun t ht hW => ⟨⟨1, (f0), rfl, ⟨rfl, rfl⟩, ⟨(by rw [ht]; exact hP9), hD9⟩⟩, hS.F ht⟩) hS.2.2 dM_L_cell_1_20
  · --
    exact hw.elim
set_option maxHeartbeats 4000000 in
set_option maxRecDepth 100000 in
theorem c_L_range (l : Launch) (hl9 : l.stackTraces = false) (dC : Nat → ClassId) (dI : Nat → Nat → Nat) (h0 : Nat) (p0 : Int32) (p1 : Int32) (p2 : Int32) (p3 : Int32) (p4 : Int32) (ou : Nat) (st : Nat) (v1 : Value) (v2 : Value) (v3 : Value) (v4 : Value) (v5 : Value) (v6 : Value) (v7 : Value) (v8 : Value) (v9 : Value) (v10 : Value) (w3 : Value) (w4 : Value) (w5 : Value) (w6 : Value) (w7 : Value) (w8 : Value) (w9 : Value) (w10 : Value) (w11 : Value) (w12 : Value) (w13 : Value) (w14 : Value) (w15 : Value) (w16 : Value) (w17 : Value) (w18 : Value) (w19 : Value) (f0 : Nat → Int64) (sz : Nat) : Met l yM_L_range (wmW yM_L_range cM_L_range 8 (some .int) [(0, 16, 19, 21), (0, 16, 23, 13), (0, 16, 27, 15)]) ({ frames := 140, cells := 1, slots := 6, locals := 2800 }) (nPc [.ref h0, .int p0, .int p1, .int p2, .int p3, .int p4, .ref ou] (dC, dI) [(h0, .inr (0, [.ref st, v1, v2, v3, v4, v5, v6, v7, v8, v9, v10])), (st, .inr (8, [.int 0, .int 0, .int 0, w3, w4, w5, w6, w7, w8, w9, w10, w11, w12, w13, w14, w15, w16, w17, w18, w19])), (ou, .inl (dC 101, 1, .inr (.inl f0)))] sz) (va_Qi (fun (r : Int32) (u : Nat → Int64) => r = 1 ∧ u = f0) (fun (u : Nat → Int64) t => nB (dC, dI) (va_A [(h0, .inr (0, [.ref st, v1, v2, v3, v4, v5, v6, v7, v8, v9, v10])), (st, .inr (8, [.int 0, .int 0, .int 0, w3, w4, w5, w6, w7, w8, w9, w10, w11, w12, w13, w14, w15, w16, w17, w18, w19])), (ou, .inl (dC 101, 1, .inr (.inl f0)))] sz) [(ou, .inl (dC 101, 1, .inr (.inl u)))] t) (va_A [(h0, .inr (0, [.ref st, v1, v2, v3, v4, v5, v6, v7, v8, v9, v10])), (st, .inr (8, [.int 0, .int 0, .int 0, w3, w4, w5, w6, w7, w8, w9, w10, w11, w12, w13, w14, w15, w16, w17, w18, w19])), (ou, .inl (dC 101, 1, .inr (.inl f0)))] sz)) 1 6 (va_A [(h0, .inr (0, [.ref st, v1, v2, v3, v4, v5, v6, v7, v8, v9, v10])), (st, .inr (8, [.int 0, .int 0, .int 0, w3, w4, w5, w6, w7, w8, w9, w10, w11, w12, w13, w14, w15, w16, w17, w18, w19])), (ou, .inl (dC 101, 1, .inr (.inl f0)))] sz) := by
  refine va_MetW (cc := cM_L_range) (maxL := 8) (ret := (some .int)) (by decide) rfl ?_
  intro p e s m args below meth c s₁ B hml hv
  obtain ⟨rfl, hsz, hP, hD0, hK, hN⟩ := hv
  have hx := B.exec
  have hb := B.bytes
  have hr := B.returns
  have hbg : ∀ w ∈ BIG, w.before ([.ref h0, .int p0, .int p1, .int p2, .int p3, .int p4, .ref ou] : List Value).toArray s = true := fun w h => atoms_spec (ws := (wmW yM_L_range cM_L_range 8 (some .int) [(0, 16, 19, 21), (0, 16, 23, 13), (0, 16, 27, 15)])) B.pre w (List.mem_cons_of_mem _ h)
  have hown : s.vm.findClass "NoteDocumentLaw" = some m.cls := findClass_of_methodNamed B.named
  have hlocks := B.notSynchronized
  have hTab : c.exceptionTable.toList = tableOf [(0, 16, 19, 21), (0, 16, 23, 13), (0, 16, 27, 15)] := vx_table (x := yM_L_range) B (atoms_spec (ws := (wmW yM_L_range cM_L_range 8 (some .int) [(0, 16, 19, 21), (0, 16, 23, 13), (0, 16, 27, 15)])) B.pre _ List.mem_cons_self)
  subst hsz
  have hD := hD0.self (sz := s.heap.size)
  generalize hAe : va_A [(h0, .inr (0, [.ref st, v1, v2, v3, v4, v5, v6, v7, v8, v9, v10])), (st, .inr (8, [.int 0, .int 0, .int 0, w3, w4, w5, w6, w7, w8, w9, w10, w11, w12, w13, w14, w15, w16, w17, w18, w19])), (ou, .inl (dC 101, 1, .inr (.inl f0)))] s.heap.size = A at hD hN ⊢
  have hA : ∀ q : Nat, s.heap.size ≤ q → A q := fun q h => by rw [← hAe]; exact Or.inr h
  have hS : va_S A s.heap s.heap [] := va_S.rf
  have hP : va_P (dC, dI) classes [(h0, .inr (0, [.ref st, v1, v2, v3, v4, v5, v6, v7, v8, v9, v10])), (st, .inr (8, [.int 0, .int 0, .int 0, w3, w4, w5, w6, w7, w8, w9, w10, w11, w12, w13, w14, w15, w16, w17, w18, w19])), (ou, .inl (dC 101, 1, .inr (.inl f0)))] s.heap := hP
  have hl := lv_entry ([.ref h0, .int p0, .int p1, .int p2, .int p3, .int p4, .ref ou] : List Value) (n := 8) (Nat.le_of_ble_eq_true rfl)
  rw [lg_entry_eq]
  generalize (lg_sl ([.ref h0, .int p0, .int p1, .int p2, .int p3, .int p4, .ref ou] : List Value) ++ List.replicate (8 - (lg_sl ([.ref h0, .int p0, .int p1, .int p2, .int p3, .int p4, .ref ou] : List Value)).length) Slot.unset).toArray = ls at hl ⊢
  have hl : lv_has ls 8 [(0, .ref h0), (1, .int p0), (2, .int p1), (3, .int p2), (4, .int p3), (5, .int p4), (6, .ref ou)] := hl
  refine lv_aload hx hb dM_L_range_0 (lv_at hl 6 rfl) ?_
  refine lv_iconst (v := 0) hx hb dM_L_range_2 (by decide) ?_
  refine lv_aload_n hx hb dM_L_range_3 rfl (lv_at hl 0 rfl) ?_
  refine lv_iload_n hx hb dM_L_range_4 rfl (lv_at hl 1 rfl) ?_
  refine lv_iload_n hx hb dM_L_range_5 rfl (lv_at hl 2 rfl) ?_
  refine lv_iload_n hx hb dM_L_range_6 rfl (lv_at hl 3 rfl) ?_
  refine lv_iload hx hb dM_L_range_7 (lv_at hl 4 rfl) ?_
  refine lv_iload hx hb dM_L_range_9 (lv_at hl 5 rfl) ?_
  have hFc := va_free (wc := [(h0, .inr (0, [.ref st, v1, v2, v3, v4, v5, v6, v7, v8, v9, v10])), (st, .inr (8, [.int 0, .int 0, .int 0, w3, w4, w5, w6, w7, w8, w9, w10, w11, w12, w13, w14, w15, w16, w17, w18, w19]))]) hD hS hA [0, 1] rfl
  refine vx_calli (vx_runV (As := [.int p0, .int p1, .int p2, .int p3, .int p4]) (rest := [.int 0, .ref ou]) ⟨hx, hb, hml, hown, hbg⟩ (c_D_range l hl9 dC dI h0 p0 p1 p2 p3 p4 st v1 v2 v3 v4 v5 v6 v7 v8 v9 v10 w3 w4 w5 w6 w7 w8 w9 w10 w11 w12 w13 w14 w15 w16 w17 w18 w19 _ ) (cwV 5 hbg (gd_V (fun _ h => h) wd_1262 wd_1263 wd_1264 wd_1 (gd_wm (fun _ h => h) wd_1265)) rfl rfl rfl (by decide +kernel) ⟨Nat.le_of_ble_eq_true rfl, Nat.le_of_ble_eq_true rfl⟩) (nPreV [0, 1] hP hD hK hN hS hA (by decide) rfl 0 rfl rfl) rfl rfl hl.1 rfl (lv_room (Nat.le_of_ble_eq_true rfl)) dM_L_range_11 ⟨Nat.le_of_ble_eq_true rfl, Nat.le_of_ble_eq_true rfl⟩) hS (fun q _ h => hFc q h) hFc (fun q _ h => hFc q h) (fun E ce q9 u t H1 locs ht hvm hpx hBX hz1 hk1 hS hq9 hcv hcl => ?_) (fun r_1 u t H1 locs ht hvm hw hB hz1 hk1 hS => ?_)
  · --
    obtain ⟨hP, hD⟩ := va_join (wr := [(ou, .inl (dC 101, 1, .inr (.inl f0)))]) (w1 := []) hP hD [0, 1] [2] rfl rfl (by decide) (by decide) hk1 hFc nP0 nD0
    generalize H1 = H at hP hS hq9 ⊢
    have hP : va_P (dC, dI) classes [(ou, .inl (dC 101, 1, .inr (.inl f0)))] H := hP
    have hD : va_D A [(ou, .inl (dC 101, 1, .inr (.inl f0)))] := hD
    obtain rfl := hBX
    refine vx_catch (own := "NoteDocumentLaw") (name := "java/lang/IndexOutOfBoundsException") (E := "java/lang/IndexOutOfBoundsException") hown [] ⟨0, 16, 19, 21⟩ [⟨0, 16, 23, 13⟩, ⟨0, 16, 27, 15⟩] (by rw [hTab]; rfl) (fun z hz => nomatch hz) (by decide) (by decide) (hbg _ wd_1117) (va_Nw.use rfl (hK.2.1 _ wx_1128)) hq9 hcv hcl ?_
    refine W.widen (k := 1) (n := 6) (Nat.le_of_ble_eq_true rfl) (Nat.le_of_ble_eq_true rfl) ?_
    refine lv_astore (lv' := [(7, .ref q9), (0, .ref h0), (1, .int p0), (2, .int p1), (3, .int p2), (4, .int p3), (5, .int p4), (6, .ref ou)]) hx hb dM_L_range_19 hl (by decide) rfl (fun ls hl => ?_)
    refine lv_iconst (v := 1) hx hb dM_L_range_21 (by decide) ?_
    have hP9 := hP.pick (wc := [(ou, .inl (dC 101, 1, .inr (.inl f0)))]) [0] rfl
    have hD9 := hD.sub (ws' := [(ou, .inl (dC 101, 1, .inr (.inl f0)))]) [0] (by decide) rfl
    exact W.iret (v := 1) hx hb hr (fun t ht hW => ⟨⟨1, (f0), rfl, ⟨rfl, rfl⟩, ⟨(by rw [ht]; exact hP9), hD9⟩⟩, hS.F ht⟩) hS.2.2 dM_L_range_22
  · --
    exact hw.elim
set_option maxHeartbeats 4000000 in
set_option maxRecDepth 100000 in
theorem c_L_leaf (l : Launch) (hl9 : l.stackTraces = false) (dC : Nat → ClassId) (dI : Nat → Nat → Nat) (h0 : Nat) (p0 : Int32) (p1 : Int32) (ou : Nat) (st : Nat) (no : Nat) (v2 : Value) (v3 : Value) (v4 : Value) (v5 : Value) (v6 : Value) (v7 : Value) (v8 : Value) (v9 : Value) (v10 : Value) (an_kind : Nat) (an_of : Nat) (an_first : Nat) (an_second : Nat) (an_third : Nat) (an_weight : Nat) (an_number : Nat) (gn_kind : Nat → Int32) (gn_of : Nat → Int32) (gn_first : Nat → Int32) (gn_second : Nat → Int32) (gn_third : Nat → Int32) (gn_weight : Nat → Int32) (gn_number : Nat → Int64) (a_columns : Nat) (a_rows : Nat) (a_content : Nat) (a_held : Nat) (a_other : Nat) (a_named : Nat) (a_body : Nat) (a_parts : Nat) (a_partCount : Nat) (a_refRow : Nat) (a_refColumn : Nat) (a_refToRow : Nat) (a_torn : Nat) (a_record : Nat) (f0 : Nat → Int64) (sz : Nat) : Met l yM_L_leaf (wmW yM_L_leaf cM_L_leaf 5 (some .int) [(0, 10, 13, 13), (0, 10, 17, 15)]) ({ frames := 140, cells := 1, slots := 6, locals := 2800 }) (nPc [.ref h0, .int p0, .int p1, .ref ou] (dC, dI) [(h0, .inr (0, [.ref st, .ref no, v2, v3, v4, v5, v6, v7, v8, v9, v10])), (no, .inr (6, [.ref st, .ref an_kind, .ref an_of, .ref an_first, .ref an_second, .ref an_third, .ref an_weight, .ref an_number])), (an_kind, .inl (dC 100, 150, .inl gn_kind)), (an_of, .inl (dC 100, 150, .inl gn_of)), (an_first, .inl (dC 100, 150, .inl gn_first)), (an_second, .inl (dC 100, 150, .inl gn_second)), (an_third, .inl (dC 100, 150, .inl gn_third)), (an_weight, .inl (dC 100, 150, .inl gn_weight)), (an_number, .inl (dC 101, 150, .inr (.inl gn_number))), (st, .inr (8, [.int 0, .int 0, .int 0, .ref a_columns, .ref a_rows, .ref a_content, .ref a_held, .ref a_other, .ref a_named, .ref a_body, .ref a_parts, .ref a_partCount, .ref a_refRow, .ref a_refColumn, .ref a_refToRow, .ref a_torn, .ref a_record, .int 0, .int 0, .int 0])), (ou, .inl (dC 101, 1, .inr (.inl f0)))] sz) (va_Qi (fun (r : Int32) (u : Nat → Int64) => (okLeaf p0 p1 ∧ r = 0 ∧ u = vp_updL f0 (0 : Int32).toNatClampNeg 0) ∨ (¬ okLeaf p0 p1 ∧ r = 1 ∧ u = f0)) (fun (u : Nat → Int64) t => nB (dC, dI) (va_A [(h0, .inr (0, [.ref st, .ref no, v2, v3, v4, v5, v6, v7, v8, v9, v10])), (no, .inr (6, [.ref st, .ref an_kind, .ref an_of, .ref an_first, .ref an_second, .ref an_third, .ref an_weight, .ref an_number])), (an_kind, .inl (dC 100, 150, .inl gn_kind)), (an_of, .inl (dC 100, 150, .inl gn_of)), (an_first, .inl (dC 100, 150, .inl gn_first)), (an_second, .inl (dC 100, 150, .inl gn_second)), (an_third, .inl (dC 100, 150, .inl gn_third)), (an_weight, .inl (dC 100, 150, .inl gn_weight)), (an_number, .inl (dC 101, 150, .inr (.inl gn_number))), (st, .inr (8, [.int 0, .int 0, .int 0, .ref a_columns, .ref a_rows, .ref a_content, .ref a_held, .ref a_other, .ref a_named, .ref a_body, .ref a_parts, .ref a_partCount, .ref a_refRow, .ref a_refColumn, .ref a_refToRow, .ref a_torn, .ref a_record, .int 0, .int 0, .int 0])), (ou, .inl (dC 101, 1, .inr (.inl f0)))] sz) [(ou, .inl (dC 101, 1, .inr (.inl u)))] t) (va_A [(h0, .inr (0, [.ref st, .ref no, v2, v3, v4, v5, v6, v7, v8, v9, v10])), (no, .inr (6, [.ref st, .ref an_kind, .ref an_of, .ref an_first, .ref an_second, .ref an_third, .ref an_weight, .ref an_number])), (an_kind, .inl (dC 100, 150, .inl gn_kind)), (an_of, .inl (dC 100, 150, .inl gn_of)), (an_first, .inl (dC 100, 150, .inl gn_first)), (an_second, .inl (dC 100, 150, .inl gn_second)), (an_third, .inl (dC 100, 150, .inl gn_third)), (an_weight, .inl (dC 100, 150, .inl gn_weight)), (an_number, .inl (dC 101, 150, .inr (.inl gn_number))), (st, .inr (8, [.int 0, .int 0, .int 0, .ref a_columns, .ref a_rows, .ref a_content, .ref a_held, .ref a_other, .ref a_named, .ref a_body, .ref a_parts, .ref a_partCount, .ref a_refRow, .ref a_refColumn, .ref a_refToRow, .ref a_torn, .ref a_record, .int 0, .int 0, .int 0])), (ou, .inl (dC 101, 1, .inr (.inl f0)))] sz)) 1 6 (va_A [(h0, .inr (0, [.ref st, .ref no, v2, v3, v4, v5, v6, v7, v8, v9, v10])), (no, .inr (6, [.ref st, .ref an_kind, .ref an_of, .ref an_first, .ref an_second, .ref an_third, .ref an_weight, .ref an_number])), (an_kind, .inl (dC 100, 150, .inl gn_kind)), (an_of, .inl (dC 100, 150, .inl gn_of)), (an_first, .inl (dC 100, 150, .inl gn_first)), (an_second, .inl (dC 100, 150, .inl gn_second)), (an_third, .inl (dC 100, 150, .inl gn_third)), (an_weight, .inl (dC 100, 150, .inl gn_weight)), (an_number, .inl (dC 101, 150, .inr (.inl gn_number))), (st, .inr (8, [.int 0, .int 0, .int 0, .ref a_columns, .ref a_rows, .ref a_content, .ref a_held, .ref a_other, .ref a_named, .ref a_body, .ref a_parts, .ref a_partCount, .ref a_refRow, .ref a_refColumn, .ref a_refToRow, .ref a_torn, .ref a_record, .int 0, .int 0, .int 0])), (ou, .inl (dC 101, 1, .inr (.inl f0)))] sz) := by
  refine va_MetW (cc := cM_L_leaf) (maxL := 5) (ret := (some .int)) (by decide) rfl ?_
  intro p e s m args below meth c s₁ B hml hv
  obtain ⟨rfl, hsz, hP, hD0, hK, hN⟩ := hv
  have hx := B.exec
  have hb := B.bytes
  have hr := B.returns
  have hbg : ∀ w ∈ BIG, w.before ([.ref h0, .int p0, .int p1, .ref ou] : List Value).toArray s = true := fun w h => atoms_spec (ws := (wmW yM_L_leaf cM_L_leaf 5 (some .int) [(0, 10, 13, 13), (0, 10, 17, 15)])) B.pre w (List.mem_cons_of_mem _ h)
  have hown : s.vm.findClass "NoteDocumentLaw" = some m.cls := findClass_of_methodNamed B.named
  have hlocks := B.notSynchronized
  have hTab : c.exceptionTable.toList = tableOf [(0, 10, 13, 13), (0, 10, 17, 15)] := vx_table (x := yM_L_leaf) B (atoms_spec (ws := (wmW yM_L_leaf cM_L_leaf 5 (some .int) [(0, 10, 13, 13), (0, 10, 17, 15)])) B.pre _ List.mem_cons_self)
  subst hsz
  have hD := hD0.self (sz := s.heap.size)
  generalize hAe : va_A [(h0, .inr (0, [.ref st, .ref no, v2, v3, v4, v5, v6, v7, v8, v9, v10])), (no, .inr (6, [.ref st, .ref an_kind, .ref an_of, .ref an_first, .ref an_second, .ref an_third, .ref an_weight, .ref an_number])), (an_kind, .inl (dC 100, 150, .inl gn_kind)), (an_of, .inl (dC 100, 150, .inl gn_of)), (an_first, .inl (dC 100, 150, .inl gn_first)), (an_second, .inl (dC 100, 150, .inl gn_second)), (an_third, .inl (dC 100, 150, .inl gn_third)), (an_weight, .inl (dC 100, 150, .inl gn_weight)), (an_number, .inl (dC 101, 150, .inr (.inl gn_number))), (st, .inr (8, [.int 0, .int 0, .int 0, .ref a_columns, .ref a_rows, .ref a_content, .ref a_held, .ref a_other, .ref a_named, .ref a_body, .ref a_parts, .ref a_partCount, .ref a_refRow, .ref a_refColumn, .ref a_refToRow, .ref a_torn, .ref a_record, .int 0, .int 0, .int 0])), (ou, .inl (dC 101, 1, .inr (.inl f0)))] s.heap.size = A at hD hN ⊢
  have hA : ∀ q : Nat, s.heap.size ≤ q → A q := fun q h => by rw [← hAe]; exact Or.inr h
  have hS : va_S A s.heap s.heap [] := va_S.rf
  have hP : va_P (dC, dI) classes [(h0, .inr (0, [.ref st, .ref no, v2, v3, v4, v5, v6, v7, v8, v9, v10])), (no, .inr (6, [.ref st, .ref an_kind, .ref an_of, .ref an_first, .ref an_second, .ref an_third, .ref an_weight, .ref an_number])), (an_kind, .inl (dC 100, 150, .inl gn_kind)), (an_of, .inl (dC 100, 150, .inl gn_of)), (an_first, .inl (dC 100, 150, .inl gn_first)), (an_second, .inl (dC 100, 150, .inl gn_second)), (an_third, .inl (dC 100, 150, .inl gn_third)), (an_weight, .inl (dC 100, 150, .inl gn_weight)), (an_number, .inl (dC 101, 150, .inr (.inl gn_number))), (st, .inr (8, [.int 0, .int 0, .int 0, .ref a_columns, .ref a_rows, .ref a_content, .ref a_held, .ref a_other, .ref a_named, .ref a_body, .ref a_parts, .ref a_partCount, .ref a_refRow, .ref a_refColumn, .ref a_refToRow, .ref a_torn, .ref a_record, .int 0, .int 0, .int 0])), (ou, .inl (dC 101, 1, .inr (.inl f0)))] s.heap := hP
  have hl := lv_entry ([.ref h0, .int p0, .int p1, .ref ou] : List Value) (n := 5) (Nat.le_of_ble_eq_true rfl)
  rw [lg_entry_eq]
  generalize (lg_sl ([.ref h0, .int p0, .int p1, .ref ou] : List Value) ++ List.replicate (5 - (lg_sl ([.ref h0, .int p0, .int p1, .ref ou] : List Value)).length) Slot.unset).toArray = ls at hl ⊢
  have hl : lv_has ls 5 [(0, .ref h0), (1, .int p0), (2, .int p1), (3, .ref ou)] := hl
  refine lv_aload_n hx hb dM_L_leaf_0 rfl (lv_at hl 3 rfl) ?_
  refine lv_iconst (v := 0) hx hb dM_L_leaf_1 (by decide) ?_
  refine lv_aload_n hx hb dM_L_leaf_2 rfl (lv_at hl 0 rfl) ?_
  refine lv_iload_n hx hb dM_L_leaf_3 rfl (lv_at hl 1 rfl) ?_
  refine lv_iload_n hx hb dM_L_leaf_4 rfl (lv_at hl 2 rfl) ?_
  have hFc := va_free (wc := [(h0, .inr (0, [.ref st, .ref no, v2, v3, v4, v5, v6, v7, v8, v9, v10])), (no, .inr (6, [.ref st, .ref an_kind, .ref an_of, .ref an_first, .ref an_second, .ref an_third, .ref an_weight, .ref an_number])), (an_kind, .inl (dC 100, 150, .inl gn_kind)), (an_of, .inl (dC 100, 150, .inl gn_of)), (an_first, .inl (dC 100, 150, .inl gn_first)), (an_second, .inl (dC 100, 150, .inl gn_second)), (an_third, .inl (dC 100, 150, .inl gn_third)), (an_weight, .inl (dC 100, 150, .inl gn_weight)), (an_number, .inl (dC 101, 150, .inr (.inl gn_number))), (st, .inr (8, [.int 0, .int 0, .int 0, .ref a_columns, .ref a_rows, .ref a_content, .ref a_held, .ref a_other, .ref a_named, .ref a_body, .ref a_parts, .ref a_partCount, .ref a_refRow, .ref a_refColumn, .ref a_refToRow, .ref a_torn, .ref a_record, .int 0, .int 0, .int 0]))]) hD hS hA [0, 1, 2, 3, 4, 5, 6, 7, 8, 9] rfl
  refine vx_calli (vx_runV (As := [.int p0, .int p1]) (rest := [.int 0, .ref ou]) ⟨hx, hb, hml, hown, hbg⟩ (c_D_leaf l hl9 dC dI h0 p0 p1 st no v2 v3 v4 v5 v6 v7 v8 v9 v10 an_kind an_of an_first an_second an_third an_weight an_number gn_kind gn_of gn_first gn_second gn_third gn_weight gn_number a_columns a_rows a_content a_held a_other a_named a_body a_parts a_partCount a_refRow a_refColumn a_refToRow a_torn a_record _ ) (cwV 2 hbg (gd_V (fun _ h => h) wd_1270 wd_1271 wd_1272 wd_1 (gd_wm (fun _ h => h) wd_1273)) rfl rfl rfl (by decide +kernel) ⟨Nat.le_of_ble_eq_true rfl, Nat.le_of_ble_eq_true rfl⟩) (nPreV [0, 1, 2, 3, 4, 5, 6, 7, 8, 9] hP hD hK hN hS hA (by decide) rfl 0 rfl rfl) rfl rfl hl.1 rfl (lv_room (Nat.le_of_ble_eq_true rfl)) dM_L_leaf_5 ⟨Nat.le_of_ble_eq_true rfl, Nat.le_of_ble_eq_true rfl⟩) hS (fun q _ h => hFc q h) hFc (fun q _ h => hFc q h) (fun E ce q9 u t H1 locs ht hvm hpx hBX hz1 hk1 hS hq9 hcv hcl => ?_) (fun r_1 u t H1 locs ht hvm hw hB hz1 hk1 hS => ?_)
  · --
    obtain ⟨hP, hD⟩ := va_join (wr := [(ou, .inl (dC 101, 1, .inr (.inl f0)))]) (w1 := []) hP hD [0, 1, 2, 3, 4, 5, 6, 7, 8, 9] [10] rfl rfl (by decide) (by decide) hk1 hFc nP0 nD0
    generalize H1 = H at hP hS hq9 ⊢
    have hP : va_P (dC, dI) classes [(ou, .inl (dC 101, 1, .inr (.inl f0)))] H := hP
    have hD : va_D A [(ou, .inl (dC 101, 1, .inr (.inl f0)))] := hD
    obtain ⟨rfl, c_2⟩ := hBX
    refine vx_catch (own := "NoteDocumentLaw") (name := "java/lang/IllegalArgumentException") (E := "java/lang/IllegalArgumentException") hown [] ⟨0, 10, 13, 13⟩ [⟨0, 10, 17, 15⟩] (by rw [hTab]; rfl) (fun z hz => nomatch hz) (by decide) (by decide) (hbg _ wd_1023) (va_Nw.use rfl (hK.2.1 _ wx_1031)) hq9 hcv hcl ?_
    refine W.widen (k := 1) (n := 6) (Nat.le_of_ble_eq_true rfl) (Nat.le_of_ble_eq_true rfl) ?_
    refine lv_astore (lv' := [(4, .ref q9), (0, .ref h0), (1, .int p0), (2, .int p1), (3, .ref ou)]) hx hb dM_L_leaf_13 hl (by decide) rfl (fun ls hl => ?_)
    refine lv_iconst (v := 1) hx hb dM_L_leaf_15 (by decide) ?_
    have hP9 := hP.pick (wc := [(ou, .inl (dC 101, 1, .inr (.inl f0)))]) [0] rfl
    have hD9 := hD.sub (ws' := [(ou, .inl (dC 101, 1, .inr (.inl f0)))]) [0] (by decide) rfl
    exact W.iret (v := 1) hx hb hr (fun t ht hW => ⟨⟨1, (f0), rfl, (Or.inr ⟨c_2, rfl, rfl⟩), ⟨(by rw [ht]; exact hP9), hD9⟩⟩, hS.F ht⟩) hS.2.2 dM_L_leaf_16
  · --
    obtain ⟨c_3, rfl⟩ := hw
    obtain ⟨hP, hD⟩ := va_join (wr := [(ou, .inl (dC 101, 1, .inr (.inl f0)))]) (w1 := []) hP hD [0, 1, 2, 3, 4, 5, 6, 7, 8, 9] [10] rfl rfl (by decide) (by decide) hk1 hFc nP0 nD0
    generalize H1 = H at hP hS ⊢
    have hP : va_P (dC, dI) classes [(ou, .inl (dC 101, 1, .inr (.inl f0)))] H := hP
    have hD : va_D A [(ou, .inl (dC 101, 1, .inr (.inl f0)))] := hD
    refine W.widen (k := 1) (n := 6) (Nat.le_of_ble_eq_true rfl) (Nat.le_of_ble_eq_true rfl) ?_
    refine lv_i2l (v := 0) hx hb dM_L_leaf_8 (by decide) ?_
    refine va_last hx hb hK.1 hP hD hS 0 1 rfl rfl (by unfold vp_in; decide) dM_L_leaf_9 (fun H locs hP hD hS => ?_)
    have hP : va_P (dC, dI) classes [(ou, .inl (dC 101, 1, .inr (.inl (vp_updL f0 (0 : Int32).toNatClampNeg 0))))] H := hP
    have hD : va_D A [(ou, .inl (dC 101, 1, .inr (.inl (vp_updL f0 (0 : Int32).toNatClampNeg 0))))] := hD
    refine lv_goto (tgt := 21) hx hb dM_L_leaf_10 (by decide) ?_
    refine lv_iconst (v := 0) hx hb dM_L_leaf_21 (by decide) ?_
    have hP9 := hP.pick (wc := [(ou, .inl (dC 101, 1, .inr (.inl (vp_updL f0 (0 : Int32).toNatClampNeg 0))))]) [0] rfl
    have hD9 := hD.sub (ws' := [(ou, .inl (dC 101, 1, .inr (.inl (vp_updL f0 (0 : Int32).toNatClampNeg 0))))]) [0] (by decide) rfl
    exact W.iret (v := 0) hx hb hr (fun t ht hW => ⟨⟨0, (vp_updL f0 (0 : Int32).toNatClampNeg 0), rfl, (Or.inl ⟨c_3, rfl, rfl⟩), ⟨(by rw [ht]; exact hP9), hD9⟩⟩, hS.F ht⟩) hS.2.2 dM_L_leaf_22
set_option maxHeartbeats 4000000 in
set_option maxRecDepth 100000 in
theorem c_L_node (l : Launch) (hl9 : l.stackTraces = false) (dC : Nat → ClassId) (dI : Nat → Nat → Nat) (h0 : Nat) (p0 : Int32) (p1 : Int32) (p2 : Int32) (p3 : Int32) (ou : Nat) (st : Nat) (v1 : Value) (v2 : Value) (v3 : Value) (v4 : Value) (v5 : Value) (v6 : Value) (v7 : Value) (v8 : Value) (v9 : Value) (v10 : Value) (w3 : Value) (w4 : Value) (w5 : Value) (w6 : Value) (w7 : Value) (w8 : Value) (w9 : Value) (w10 : Value) (w11 : Value) (w12 : Value) (w13 : Value) (w14 : Value) (w15 : Value) (w16 : Value) (w17 : Value) (w18 : Value) (w19 : Value) (f0 : Nat → Int64) (sz : Nat) : Met l yM_L_node (wmW yM_L_node cM_L_node 7 (some .int) [(0, 14, 17, 13), (0, 14, 21, 21), (0, 14, 25, 15)]) ({ frames := 140, cells := 1, slots := 6, locals := 2800 }) (nPc [.ref h0, .int p0, .int p1, .int p2, .int p3, .ref ou] (dC, dI) [(h0, .inr (0, [.ref st, v1, v2, v3, v4, v5, v6, v7, v8, v9, v10])), (st, .inr (8, [.int 0, .int 0, .int 0, w3, w4, w5, w6, w7, w8, w9, w10, w11, w12, w13, w14, w15, w16, w17, w18, w19])), (ou, .inl (dC 101, 1, .inr (.inl f0)))] sz) (va_Qi (fun (r : Int32) (u : Nat → Int64) => (¬ okSign p0 p1 ∧ r = 1 ∧ u = f0) ∨ (okSign p0 p1 ∧ r = 2 ∧ u = f0)) (fun (u : Nat → Int64) t => nB (dC, dI) (va_A [(h0, .inr (0, [.ref st, v1, v2, v3, v4, v5, v6, v7, v8, v9, v10])), (st, .inr (8, [.int 0, .int 0, .int 0, w3, w4, w5, w6, w7, w8, w9, w10, w11, w12, w13, w14, w15, w16, w17, w18, w19])), (ou, .inl (dC 101, 1, .inr (.inl f0)))] sz) [(ou, .inl (dC 101, 1, .inr (.inl u)))] t) (va_A [(h0, .inr (0, [.ref st, v1, v2, v3, v4, v5, v6, v7, v8, v9, v10])), (st, .inr (8, [.int 0, .int 0, .int 0, w3, w4, w5, w6, w7, w8, w9, w10, w11, w12, w13, w14, w15, w16, w17, w18, w19])), (ou, .inl (dC 101, 1, .inr (.inl f0)))] sz)) 1 6 (va_A [(h0, .inr (0, [.ref st, v1, v2, v3, v4, v5, v6, v7, v8, v9, v10])), (st, .inr (8, [.int 0, .int 0, .int 0, w3, w4, w5, w6, w7, w8, w9, w10, w11, w12, w13, w14, w15, w16, w17, w18, w19])), (ou, .inl (dC 101, 1, .inr (.inl f0)))] sz) := by
  refine va_MetW (cc := cM_L_node) (maxL := 7) (ret := (some .int)) (by decide) rfl ?_
  intro p e s m args below meth c s₁ B hml hv
  obtain ⟨rfl, hsz, hP, hD0, hK, hN⟩ := hv
  have hx := B.exec
  have hb := B.bytes
  have hr := B.returns
  have hbg : ∀ w ∈ BIG, w.before ([.ref h0, .int p0, .int p1, .int p2, .int p3, .ref ou] : List Value).toArray s = true := fun w h => atoms_spec (ws := (wmW yM_L_node cM_L_node 7 (some .int) [(0, 14, 17, 13), (0, 14, 21, 21), (0, 14, 25, 15)])) B.pre w (List.mem_cons_of_mem _ h)
  have hown : s.vm.findClass "NoteDocumentLaw" = some m.cls := findClass_of_methodNamed B.named
  have hlocks := B.notSynchronized
  have hTab : c.exceptionTable.toList = tableOf [(0, 14, 17, 13), (0, 14, 21, 21), (0, 14, 25, 15)] := vx_table (x := yM_L_node) B (atoms_spec (ws := (wmW yM_L_node cM_L_node 7 (some .int) [(0, 14, 17, 13), (0, 14, 21, 21), (0, 14, 25, 15)])) B.pre _ List.mem_cons_self)
  subst hsz
  have hD := hD0.self (sz := s.heap.size)
  generalize hAe : va_A [(h0, .inr (0, [.ref st, v1, v2, v3, v4, v5, v6, v7, v8, v9, v10])), (st, .inr (8, [.int 0, .int 0, .int 0, w3, w4, w5, w6, w7, w8, w9, w10, w11, w12, w13, w14, w15, w16, w17, w18, w19])), (ou, .inl (dC 101, 1, .inr (.inl f0)))] s.heap.size = A at hD hN ⊢
  have hA : ∀ q : Nat, s.heap.size ≤ q → A q := fun q h => by rw [← hAe]; exact Or.inr h
  have hS : va_S A s.heap s.heap [] := va_S.rf
  have hP : va_P (dC, dI) classes [(h0, .inr (0, [.ref st, v1, v2, v3, v4, v5, v6, v7, v8, v9, v10])), (st, .inr (8, [.int 0, .int 0, .int 0, w3, w4, w5, w6, w7, w8, w9, w10, w11, w12, w13, w14, w15, w16, w17, w18, w19])), (ou, .inl (dC 101, 1, .inr (.inl f0)))] s.heap := hP
  have hl := lv_entry ([.ref h0, .int p0, .int p1, .int p2, .int p3, .ref ou] : List Value) (n := 7) (Nat.le_of_ble_eq_true rfl)
  rw [lg_entry_eq]
  generalize (lg_sl ([.ref h0, .int p0, .int p1, .int p2, .int p3, .ref ou] : List Value) ++ List.replicate (7 - (lg_sl ([.ref h0, .int p0, .int p1, .int p2, .int p3, .ref ou] : List Value)).length) Slot.unset).toArray = ls at hl ⊢
  have hl : lv_has ls 7 [(0, .ref h0), (1, .int p0), (2, .int p1), (3, .int p2), (4, .int p3), (5, .ref ou)] := hl
  refine lv_aload hx hb dM_L_node_0 (lv_at hl 5 rfl) ?_
  refine lv_iconst (v := 0) hx hb dM_L_node_2 (by decide) ?_
  refine lv_aload_n hx hb dM_L_node_3 rfl (lv_at hl 0 rfl) ?_
  refine lv_iload_n hx hb dM_L_node_4 rfl (lv_at hl 1 rfl) ?_
  refine lv_iload_n hx hb dM_L_node_5 rfl (lv_at hl 2 rfl) ?_
  refine lv_iload_n hx hb dM_L_node_6 rfl (lv_at hl 3 rfl) ?_
  refine lv_iload hx hb dM_L_node_7 (lv_at hl 4 rfl) ?_
  have hFc := va_free (wc := [(h0, .inr (0, [.ref st, v1, v2, v3, v4, v5, v6, v7, v8, v9, v10])), (st, .inr (8, [.int 0, .int 0, .int 0, w3, w4, w5, w6, w7, w8, w9, w10, w11, w12, w13, w14, w15, w16, w17, w18, w19]))]) hD hS hA [0, 1] rfl
  refine vx_calli (vx_runV (As := [.int p0, .int p1, .int p2, .int p3]) (rest := [.int 0, .ref ou]) ⟨hx, hb, hml, hown, hbg⟩ (c_D_node l hl9 dC dI h0 p0 p1 p2 p3 st v1 v2 v3 v4 v5 v6 v7 v8 v9 v10 w3 w4 w5 w6 w7 w8 w9 w10 w11 w12 w13 w14 w15 w16 w17 w18 w19 _ ) (cwV 4 hbg (gd_V (fun _ h => h) wd_1282 wd_1283 wd_1284 wd_1 (gd_wm (fun _ h => h) wd_1285)) rfl rfl rfl (by decide +kernel) ⟨Nat.le_of_ble_eq_true rfl, Nat.le_of_ble_eq_true rfl⟩) (nPreV [0, 1] hP hD hK hN hS hA (by decide) rfl 0 rfl rfl) rfl rfl hl.1 rfl (lv_room (Nat.le_of_ble_eq_true rfl)) dM_L_node_9 ⟨Nat.le_of_ble_eq_true rfl, Nat.le_of_ble_eq_true rfl⟩) hS (fun q _ h => hFc q h) hFc (fun q _ h => hFc q h) (fun E ce q9 u t H1 locs ht hvm hpx hBX hz1 hk1 hS hq9 hcv hcl => ?_) (fun r_1 u t H1 locs ht hvm hw hB hz1 hk1 hS => ?_)
  · --
    obtain ⟨hP, hD⟩ := va_join (wr := [(ou, .inl (dC 101, 1, .inr (.inl f0)))]) (w1 := []) hP hD [0, 1] [2] rfl rfl (by decide) (by decide) hk1 hFc nP0 nD0
    generalize H1 = H at hP hS hq9 ⊢
    have hP : va_P (dC, dI) classes [(ou, .inl (dC 101, 1, .inr (.inl f0)))] H := hP
    have hD : va_D A [(ou, .inl (dC 101, 1, .inr (.inl f0)))] := hD
    rcases hBX with ⟨rfl, c_2⟩ | ⟨rfl, c_3⟩
    · --
      refine vx_catch (own := "NoteDocumentLaw") (name := "java/lang/IllegalArgumentException") (E := "java/lang/IllegalArgumentException") hown [] ⟨0, 14, 17, 13⟩ [⟨0, 14, 21, 21⟩, ⟨0, 14, 25, 15⟩] (by rw [hTab]; rfl) (fun z hz => nomatch hz) (by decide) (by decide) (hbg _ wd_1023) (va_Nw.use rfl (hK.2.1 _ wx_1031)) hq9 hcv hcl ?_
      refine W.widen (k := 1) (n := 6) (Nat.le_of_ble_eq_true rfl) (Nat.le_of_ble_eq_true rfl) ?_
      refine lv_astore (lv' := [(6, .ref q9), (0, .ref h0), (1, .int p0), (2, .int p1), (3, .int p2), (4, .int p3), (5, .ref ou)]) hx hb dM_L_node_17 hl (by decide) rfl (fun ls hl => ?_)
      refine lv_iconst (v := 1) hx hb dM_L_node_19 (by decide) ?_
      have hP9 := hP.pick (wc := [(ou, .inl (dC 101, 1, .inr (.inl f0)))]) [0] rfl
      have hD9 := hD.sub (ws' := [(ou, .inl (dC 101, 1, .inr (.inl f0)))]) [0] (by decide) rfl
      exact W.iret (v := 1) hx hb hr (fun t ht hW => ⟨⟨1, (f0), rfl, (Or.inl ⟨c_2, rfl, rfl⟩), ⟨(by rw [ht]; exact hP9), hD9⟩⟩, hS.F ht⟩) hS.2.2 dM_L_node_20
    · --
      refine vx_catch (own := "NoteDocumentLaw") (name := "java/lang/IndexOutOfBoundsException") (E := "java/lang/IndexOutOfBoundsException") hown [⟨0, 14, 17, 13⟩] ⟨0, 14, 21, 21⟩ [⟨0, 14, 25, 15⟩] (by rw [hTab]; rfl) (n_pcons (Or.inr ⟨by decide, "java/lang/IllegalArgumentException", (hbg _ wd_1023), hK.2.2.2.2⟩) (fun z hz => nomatch hz)) (by decide) (by decide) (hbg _ wd_1117) (va_Nw.use rfl (hK.2.1 _ wx_1128)) hq9 hcv hcl ?_
      refine W.widen (k := 1) (n := 6) (Nat.le_of_ble_eq_true rfl) (Nat.le_of_ble_eq_true rfl) ?_
      refine lv_astore (lv' := [(6, .ref q9), (0, .ref h0), (1, .int p0), (2, .int p1), (3, .int p2), (4, .int p3), (5, .ref ou)]) hx hb dM_L_node_21 hl (by decide) rfl (fun ls hl => ?_)
      refine lv_iconst (v := 2) hx hb dM_L_node_23 (by decide) ?_
      have hP9 := hP.pick (wc := [(ou, .inl (dC 101, 1, .inr (.inl f0)))]) [0] rfl
      have hD9 := hD.sub (ws' := [(ou, .inl (dC 101, 1, .inr (.inl f0)))]) [0] (by decide) rfl
      exact W.iret (v := 2) hx hb hr (fun t ht hW => ⟨⟨2, (f0), rfl, (Or.inr ⟨c_3, rfl, rfl⟩), ⟨(by rw [ht]; exact hP9), hD9⟩⟩, hS.F ht⟩) hS.2.2 dM_L_node_24
  · --
    exact hw.elim
set_option maxHeartbeats 4000000 in
set_option maxRecDepth 100000 in
theorem c_L_when (l : Launch) (hl9 : l.stackTraces = false) (dC : Nat → ClassId) (dI : Nat → Nat → Nat) (h0 : Nat) (p0 : Int32) (p1 : Int32) (p2 : Int32) (ou : Nat) (st : Nat) (v1 : Value) (v2 : Value) (v3 : Value) (v4 : Value) (v5 : Value) (v6 : Value) (v7 : Value) (v8 : Value) (v9 : Value) (v10 : Value) (w3 : Value) (w4 : Value) (w5 : Value) (w6 : Value) (w7 : Value) (w8 : Value) (w9 : Value) (w10 : Value) (w11 : Value) (w12 : Value) (w13 : Value) (w14 : Value) (w15 : Value) (w16 : Value) (w17 : Value) (w18 : Value) (w19 : Value) (f0 : Nat → Int64) (sz : Nat) : Met l yM_L_when (wmW yM_L_when cM_L_when 6 (some .int) [(0, 12, 15, 21), (0, 12, 19, 15)]) ({ frames := 140, cells := 1, slots := 6, locals := 2800 }) (nPc [.ref h0, .int p0, .int p1, .int p2, .ref ou] (dC, dI) [(h0, .inr (0, [.ref st, v1, v2, v3, v4, v5, v6, v7, v8, v9, v10])), (st, .inr (8, [.int 0, .int 0, .int 0, w3, w4, w5, w6, w7, w8, w9, w10, w11, w12, w13, w14, w15, w16, w17, w18, w19])), (ou, .inl (dC 101, 1, .inr (.inl f0)))] sz) (va_Qi (fun (r : Int32) (u : Nat → Int64) => r = 1 ∧ u = f0) (fun (u : Nat → Int64) t => nB (dC, dI) (va_A [(h0, .inr (0, [.ref st, v1, v2, v3, v4, v5, v6, v7, v8, v9, v10])), (st, .inr (8, [.int 0, .int 0, .int 0, w3, w4, w5, w6, w7, w8, w9, w10, w11, w12, w13, w14, w15, w16, w17, w18, w19])), (ou, .inl (dC 101, 1, .inr (.inl f0)))] sz) [(ou, .inl (dC 101, 1, .inr (.inl u)))] t) (va_A [(h0, .inr (0, [.ref st, v1, v2, v3, v4, v5, v6, v7, v8, v9, v10])), (st, .inr (8, [.int 0, .int 0, .int 0, w3, w4, w5, w6, w7, w8, w9, w10, w11, w12, w13, w14, w15, w16, w17, w18, w19])), (ou, .inl (dC 101, 1, .inr (.inl f0)))] sz)) 1 6 (va_A [(h0, .inr (0, [.ref st, v1, v2, v3, v4, v5, v6, v7, v8, v9, v10])), (st, .inr (8, [.int 0, .int 0, .int 0, w3, w4, w5, w6, w7, w8, w9, w10, w11, w12, w13, w14, w15, w16, w17, w18, w19])), (ou, .inl (dC 101, 1, .inr (.inl f0)))] sz) := by
  refine va_MetW (cc := cM_L_when) (maxL := 6) (ret := (some .int)) (by decide) rfl ?_
  intro p e s m args below meth c s₁ B hml hv
  obtain ⟨rfl, hsz, hP, hD0, hK, hN⟩ := hv
  have hx := B.exec
  have hb := B.bytes
  have hr := B.returns
  have hbg : ∀ w ∈ BIG, w.before ([.ref h0, .int p0, .int p1, .int p2, .ref ou] : List Value).toArray s = true := fun w h => atoms_spec (ws := (wmW yM_L_when cM_L_when 6 (some .int) [(0, 12, 15, 21), (0, 12, 19, 15)])) B.pre w (List.mem_cons_of_mem _ h)
  have hown : s.vm.findClass "NoteDocumentLaw" = some m.cls := findClass_of_methodNamed B.named
  have hlocks := B.notSynchronized
  have hTab : c.exceptionTable.toList = tableOf [(0, 12, 15, 21), (0, 12, 19, 15)] := vx_table (x := yM_L_when) B (atoms_spec (ws := (wmW yM_L_when cM_L_when 6 (some .int) [(0, 12, 15, 21), (0, 12, 19, 15)])) B.pre _ List.mem_cons_self)
  subst hsz
  have hD := hD0.self (sz := s.heap.size)
  generalize hAe : va_A [(h0, .inr (0, [.ref st, v1, v2, v3, v4, v5, v6, v7, v8, v9, v10])), (st, .inr (8, [.int 0, .int 0, .int 0, w3, w4, w5, w6, w7, w8, w9, w10, w11, w12, w13, w14, w15, w16, w17, w18, w19])), (ou, .inl (dC 101, 1, .inr (.inl f0)))] s.heap.size = A at hD hN ⊢
  have hA : ∀ q : Nat, s.heap.size ≤ q → A q := fun q h => by rw [← hAe]; exact Or.inr h
  have hS : va_S A s.heap s.heap [] := va_S.rf
  have hP : va_P (dC, dI) classes [(h0, .inr (0, [.ref st, v1, v2, v3, v4, v5, v6, v7, v8, v9, v10])), (st, .inr (8, [.int 0, .int 0, .int 0, w3, w4, w5, w6, w7, w8, w9, w10, w11, w12, w13, w14, w15, w16, w17, w18, w19])), (ou, .inl (dC 101, 1, .inr (.inl f0)))] s.heap := hP
  have hl := lv_entry ([.ref h0, .int p0, .int p1, .int p2, .ref ou] : List Value) (n := 6) (Nat.le_of_ble_eq_true rfl)
  rw [lg_entry_eq]
  generalize (lg_sl ([.ref h0, .int p0, .int p1, .int p2, .ref ou] : List Value) ++ List.replicate (6 - (lg_sl ([.ref h0, .int p0, .int p1, .int p2, .ref ou] : List Value)).length) Slot.unset).toArray = ls at hl ⊢
  have hl : lv_has ls 6 [(0, .ref h0), (1, .int p0), (2, .int p1), (3, .int p2), (4, .ref ou)] := hl
  refine lv_aload hx hb dM_L_when_0 (lv_at hl 4 rfl) ?_
  refine lv_iconst (v := 0) hx hb dM_L_when_2 (by decide) ?_
  refine lv_aload_n hx hb dM_L_when_3 rfl (lv_at hl 0 rfl) ?_
  refine lv_iload_n hx hb dM_L_when_4 rfl (lv_at hl 1 rfl) ?_
  refine lv_iload_n hx hb dM_L_when_5 rfl (lv_at hl 2 rfl) ?_
  refine lv_iload_n hx hb dM_L_when_6 rfl (lv_at hl 3 rfl) ?_
  have hFc := va_free (wc := [(h0, .inr (0, [.ref st, v1, v2, v3, v4, v5, v6, v7, v8, v9, v10])), (st, .inr (8, [.int 0, .int 0, .int 0, w3, w4, w5, w6, w7, w8, w9, w10, w11, w12, w13, w14, w15, w16, w17, w18, w19]))]) hD hS hA [0, 1] rfl
  refine vx_calli (vx_runV (As := [.int p0, .int p1, .int p2]) (rest := [.int 0, .ref ou]) ⟨hx, hb, hml, hown, hbg⟩ (c_D_when l hl9 dC dI h0 p0 p1 p2 st v1 v2 v3 v4 v5 v6 v7 v8 v9 v10 w3 w4 w5 w6 w7 w8 w9 w10 w11 w12 w13 w14 w15 w16 w17 w18 w19 _ ) (cwV 3 hbg (gd_V (fun _ h => h) wd_1299 wd_1300 wd_1301 wd_1 (gd_wm (fun _ h => h) wd_1302)) rfl rfl rfl (by decide +kernel) ⟨Nat.le_of_ble_eq_true rfl, Nat.le_of_ble_eq_true rfl⟩) (nPreV [0, 1] hP hD hK hN hS hA (by decide) rfl 0 rfl rfl) rfl rfl hl.1 rfl (lv_room (Nat.le_of_ble_eq_true rfl)) dM_L_when_7 ⟨Nat.le_of_ble_eq_true rfl, Nat.le_of_ble_eq_true rfl⟩) hS (fun q _ h => hFc q h) hFc (fun q _ h => hFc q h) (fun E ce q9 u t H1 locs ht hvm hpx hBX hz1 hk1 hS hq9 hcv hcl => ?_) (fun r_1 u t H1 locs ht hvm hw hB hz1 hk1 hS => ?_)
  · --
    obtain ⟨hP, hD⟩ := va_join (wr := [(ou, .inl (dC 101, 1, .inr (.inl f0)))]) (w1 := []) hP hD [0, 1] [2] rfl rfl (by decide) (by decide) hk1 hFc nP0 nD0
    generalize H1 = H at hP hS hq9 ⊢
    have hP : va_P (dC, dI) classes [(ou, .inl (dC 101, 1, .inr (.inl f0)))] H := hP
    have hD : va_D A [(ou, .inl (dC 101, 1, .inr (.inl f0)))] := hD
    obtain rfl := hBX
    refine vx_catch (own := "NoteDocumentLaw") (name := "java/lang/IndexOutOfBoundsException") (E := "java/lang/IndexOutOfBoundsException") hown [] ⟨0, 12, 15, 21⟩ [⟨0, 12, 19, 15⟩] (by rw [hTab]; rfl) (fun z hz => nomatch hz) (by decide) (by decide) (hbg _ wd_1117) (va_Nw.use rfl (hK.2.1 _ wx_1128)) hq9 hcv hcl ?_
    refine W.widen (k := 1) (n := 6) (Nat.le_of_ble_eq_true rfl) (Nat.le_of_ble_eq_true rfl) ?_
    refine lv_astore (lv' := [(5, .ref q9), (0, .ref h0), (1, .int p0), (2, .int p1), (3, .int p2), (4, .ref ou)]) hx hb dM_L_when_15 hl (by decide) rfl (fun ls hl => ?_)
    refine lv_iconst (v := 1) hx hb dM_L_when_17 (by decide) ?_
    have hP9 := hP.pick (wc := [(ou, .inl (dC 101, 1, .inr (.inl f0)))]) [0] rfl
    have hD9 := hD.sub (ws' := [(ou, .inl (dC 101, 1, .inr (.inl f0)))]) [0] (by decide) rfl
    exact W.iret (v := 1) hx hb hr (fun t ht hW => ⟨⟨1, (f0), rfl, ⟨rfl, rfl⟩, ⟨(by rw [ht]; exact hP9), hD9⟩⟩, hS.F ht⟩) hS.2.2 dM_L_when_18
  · --
    exact hw.elim
set_option maxHeartbeats 4000000 in
set_option maxRecDepth 100000 in
theorem c_L_name (l : Launch) (hl9 : l.stackTraces = false) (dC : Nat → ClassId) (dI : Nat → Nat → Nat) (h0 : Nat) (p0 : Int32) (p1 : Int32) (st : Nat) (no : Nat) (ch : Nat) (he : Nat) (de : Nat) (fi : Nat) (v6 : Value) (kp : Nat) (a_columns : Nat) (a_rows : Nat) (a_content : Nat) (a_held : Nat) (a_other : Nat) (a_named : Nat) (a_body : Nat) (a_parts : Nat) (a_partCount : Nat) (a_refRow : Nat) (a_refColumn : Nat) (a_refToRow : Nat) (a_torn : Nat) (a_record : Nat) (g_columns : Nat → Int32) (g_rows : Nat → Int32) (g_content : Nat → Int64) (g_held : Nat → Int64) (g_other : Nat → Int64) (g_named : Nat → Int32) (g_body : Nat → Int32) (g_parts : Nat → Int32) (g_partCount : Nat → Int32) (g_refRow : Nat → Int32) (g_refColumn : Nat → Int32) (g_refToRow : Nat → Int32) (g_torn : Nat → Int32) (g_record : Nat → Int32) (gk : Nat → Option Nat) (k0 : Nat) (ak_columns : Nat) (ak_rows : Nat) (ak_content : Nat) (ak_held : Nat) (ak_other : Nat) (ak_named : Nat) (ak_body : Nat) (ak_parts : Nat) (ak_partCount : Nat) (ak_refRow : Nat) (ak_refColumn : Nat) (ak_refToRow : Nat) (ak_torn : Nat) (ak_record : Nat) (gk_columns : Nat → Int32) (gk_rows : Nat → Int32) (gk_content : Nat → Int64) (gk_held : Nat → Int64) (gk_other : Nat → Int64) (gk_named : Nat → Int32) (gk_body : Nat → Int32) (gk_parts : Nat → Int32) (gk_partCount : Nat → Int32) (gk_refRow : Nat → Int32) (gk_refColumn : Nat → Int32) (gk_refToRow : Nat → Int32) (gk_torn : Nat → Int32) (gk_record : Nat → Int32) (x2 : Value) (x4 : Value) (x6 : Value) (x7 : Value) (x8 : Value) (x9 : Value) (x10 : Value) (x11 : Value) (x12 : Value) (x13 : Value) (x14 : Value) (x15 : Value) (x16 : Value) (x17 : Value) (x18 : Value) (sz : Nat) (hk0 : gk (0 : Int32).toNatClampNeg = some k0) : Met l yM_L_name (wmW yM_L_name cM_L_name 4 (some .int) [(0, 6, 9, 13), (0, 6, 12, 21)]) ({ frames := 140, cells := 1, slots := 6, locals := 2800 }) (nPc [.ref h0, .int p0, .int p1] (dC, dI) [(h0, .inr (0, [.ref st, .ref no, .ref ch, .ref he, .ref de, .ref fi, v6, .ref kp, .int 0, .int 0, .int 0])), (st, .inr (8, [.int 0, .int 0, .int 0, .ref a_columns, .ref a_rows, .ref a_content, .ref a_held, .ref a_other, .ref a_named, .ref a_body, .ref a_parts, .ref a_partCount, .ref a_refRow, .ref a_refColumn, .ref a_refToRow, .ref a_torn, .ref a_record, .int 0, .int 0, .int 0])), (a_columns, .inl (dC 100, 4, .inl g_columns)), (a_rows, .inl (dC 100, 4, .inl g_rows)), (a_content, .inl (dC 101, 200, .inr (.inl g_content))), (a_held, .inl (dC 101, 200, .inr (.inl g_held))), (a_other, .inl (dC 101, 600, .inr (.inl g_other))), (a_named, .inl (dC 100, 6, .inl g_named)), (a_body, .inl (dC 100, 4, .inl g_body)), (a_parts, .inl (dC 100, 24, .inl g_parts)), (a_partCount, .inl (dC 100, 3, .inl g_partCount)), (a_refRow, .inl (dC 100, 150, .inl g_refRow)), (a_refColumn, .inl (dC 100, 150, .inl g_refColumn)), (a_refToRow, .inl (dC 100, 150, .inl g_refToRow)), (a_torn, .inl (dC 102, 150, .inl g_torn)), (a_record, .inl (dC 100, 885, .inl g_record)), (kp, .inl (dC 103, 5, .inr (.inr (.inr (.inr gk))))), (k0, .inr (8, [.int 0, .int 0, .int 0, .ref ak_columns, .ref ak_rows, .ref ak_content, .ref ak_held, .ref ak_other, .ref ak_named, .ref ak_body, .ref ak_parts, .ref ak_partCount, .ref ak_refRow, .ref ak_refColumn, .ref ak_refToRow, .ref ak_torn, .ref ak_record, .int 0, .int 0, .int 0])), (ak_columns, .inl (dC 100, 4, .inl gk_columns)), (ak_rows, .inl (dC 100, 4, .inl gk_rows)), (ak_content, .inl (dC 101, 200, .inr (.inl gk_content))), (ak_held, .inl (dC 101, 200, .inr (.inl gk_held))), (ak_other, .inl (dC 101, 600, .inr (.inl gk_other))), (ak_named, .inl (dC 100, 6, .inl gk_named)), (ak_body, .inl (dC 100, 4, .inl gk_body)), (ak_parts, .inl (dC 100, 24, .inl gk_parts)), (ak_partCount, .inl (dC 100, 3, .inl gk_partCount)), (ak_refRow, .inl (dC 100, 150, .inl gk_refRow)), (ak_refColumn, .inl (dC 100, 150, .inl gk_refColumn)), (ak_refToRow, .inl (dC 100, 150, .inl gk_refToRow)), (ak_torn, .inl (dC 102, 150, .inl gk_torn)), (ak_record, .inl (dC 100, 885, .inl gk_record)), (de, .inr (2, [.ref st, .ref he, x2, .int 1, x4, .int 0, x6, x7, x8, x9, x10, x11, x12, x13, x14, x15, x16, x17, x18]))] sz) (va_Qi (fun (r : Int32) (_ : Unit) => ((okName p0 ∧ p1 = (-1)) ∧ r = 0) ∨ (¬ okName p0 ∧ r = 1) ∨ ((okName p0 ∧ ¬ p1 = (-1)) ∧ r = 2)) (fun (_ : Unit) t => True) (va_A [(h0, .inr (0, [.ref st, .ref no, .ref ch, .ref he, .ref de, .ref fi, v6, .ref kp, .int 0, .int 0, .int 0])), (st, .inr (8, [.int 0, .int 0, .int 0, .ref a_columns, .ref a_rows, .ref a_content, .ref a_held, .ref a_other, .ref a_named, .ref a_body, .ref a_parts, .ref a_partCount, .ref a_refRow, .ref a_refColumn, .ref a_refToRow, .ref a_torn, .ref a_record, .int 0, .int 0, .int 0])), (a_columns, .inl (dC 100, 4, .inl g_columns)), (a_rows, .inl (dC 100, 4, .inl g_rows)), (a_content, .inl (dC 101, 200, .inr (.inl g_content))), (a_held, .inl (dC 101, 200, .inr (.inl g_held))), (a_other, .inl (dC 101, 600, .inr (.inl g_other))), (a_named, .inl (dC 100, 6, .inl g_named)), (a_body, .inl (dC 100, 4, .inl g_body)), (a_parts, .inl (dC 100, 24, .inl g_parts)), (a_partCount, .inl (dC 100, 3, .inl g_partCount)), (a_refRow, .inl (dC 100, 150, .inl g_refRow)), (a_refColumn, .inl (dC 100, 150, .inl g_refColumn)), (a_refToRow, .inl (dC 100, 150, .inl g_refToRow)), (a_torn, .inl (dC 102, 150, .inl g_torn)), (a_record, .inl (dC 100, 885, .inl g_record)), (kp, .inl (dC 103, 5, .inr (.inr (.inr (.inr gk))))), (k0, .inr (8, [.int 0, .int 0, .int 0, .ref ak_columns, .ref ak_rows, .ref ak_content, .ref ak_held, .ref ak_other, .ref ak_named, .ref ak_body, .ref ak_parts, .ref ak_partCount, .ref ak_refRow, .ref ak_refColumn, .ref ak_refToRow, .ref ak_torn, .ref ak_record, .int 0, .int 0, .int 0])), (ak_columns, .inl (dC 100, 4, .inl gk_columns)), (ak_rows, .inl (dC 100, 4, .inl gk_rows)), (ak_content, .inl (dC 101, 200, .inr (.inl gk_content))), (ak_held, .inl (dC 101, 200, .inr (.inl gk_held))), (ak_other, .inl (dC 101, 600, .inr (.inl gk_other))), (ak_named, .inl (dC 100, 6, .inl gk_named)), (ak_body, .inl (dC 100, 4, .inl gk_body)), (ak_parts, .inl (dC 100, 24, .inl gk_parts)), (ak_partCount, .inl (dC 100, 3, .inl gk_partCount)), (ak_refRow, .inl (dC 100, 150, .inl gk_refRow)), (ak_refColumn, .inl (dC 100, 150, .inl gk_refColumn)), (ak_refToRow, .inl (dC 100, 150, .inl gk_refToRow)), (ak_torn, .inl (dC 102, 150, .inl gk_torn)), (ak_record, .inl (dC 100, 885, .inl gk_record)), (de, .inr (2, [.ref st, .ref he, x2, .int 1, x4, .int 0, x6, x7, x8, x9, x10, x11, x12, x13, x14, x15, x16, x17, x18]))] sz)) 1 6 (va_A [(h0, .inr (0, [.ref st, .ref no, .ref ch, .ref he, .ref de, .ref fi, v6, .ref kp, .int 0, .int 0, .int 0])), (st, .inr (8, [.int 0, .int 0, .int 0, .ref a_columns, .ref a_rows, .ref a_content, .ref a_held, .ref a_other, .ref a_named, .ref a_body, .ref a_parts, .ref a_partCount, .ref a_refRow, .ref a_refColumn, .ref a_refToRow, .ref a_torn, .ref a_record, .int 0, .int 0, .int 0])), (a_columns, .inl (dC 100, 4, .inl g_columns)), (a_rows, .inl (dC 100, 4, .inl g_rows)), (a_content, .inl (dC 101, 200, .inr (.inl g_content))), (a_held, .inl (dC 101, 200, .inr (.inl g_held))), (a_other, .inl (dC 101, 600, .inr (.inl g_other))), (a_named, .inl (dC 100, 6, .inl g_named)), (a_body, .inl (dC 100, 4, .inl g_body)), (a_parts, .inl (dC 100, 24, .inl g_parts)), (a_partCount, .inl (dC 100, 3, .inl g_partCount)), (a_refRow, .inl (dC 100, 150, .inl g_refRow)), (a_refColumn, .inl (dC 100, 150, .inl g_refColumn)), (a_refToRow, .inl (dC 100, 150, .inl g_refToRow)), (a_torn, .inl (dC 102, 150, .inl g_torn)), (a_record, .inl (dC 100, 885, .inl g_record)), (kp, .inl (dC 103, 5, .inr (.inr (.inr (.inr gk))))), (k0, .inr (8, [.int 0, .int 0, .int 0, .ref ak_columns, .ref ak_rows, .ref ak_content, .ref ak_held, .ref ak_other, .ref ak_named, .ref ak_body, .ref ak_parts, .ref ak_partCount, .ref ak_refRow, .ref ak_refColumn, .ref ak_refToRow, .ref ak_torn, .ref ak_record, .int 0, .int 0, .int 0])), (ak_columns, .inl (dC 100, 4, .inl gk_columns)), (ak_rows, .inl (dC 100, 4, .inl gk_rows)), (ak_content, .inl (dC 101, 200, .inr (.inl gk_content))), (ak_held, .inl (dC 101, 200, .inr (.inl gk_held))), (ak_other, .inl (dC 101, 600, .inr (.inl gk_other))), (ak_named, .inl (dC 100, 6, .inl gk_named)), (ak_body, .inl (dC 100, 4, .inl gk_body)), (ak_parts, .inl (dC 100, 24, .inl gk_parts)), (ak_partCount, .inl (dC 100, 3, .inl gk_partCount)), (ak_refRow, .inl (dC 100, 150, .inl gk_refRow)), (ak_refColumn, .inl (dC 100, 150, .inl gk_refColumn)), (ak_refToRow, .inl (dC 100, 150, .inl gk_refToRow)), (ak_torn, .inl (dC 102, 150, .inl gk_torn)), (ak_record, .inl (dC 100, 885, .inl gk_record)), (de, .inr (2, [.ref st, .ref he, x2, .int 1, x4, .int 0, x6, x7, x8, x9, x10, x11, x12, x13, x14, x15, x16, x17, x18]))] sz) := by
  refine va_MetW (cc := cM_L_name) (maxL := 4) (ret := (some .int)) (by decide) rfl ?_
  intro p e s m args below meth c s₁ B hml hv
  obtain ⟨rfl, hsz, hP, hD0, hK, hN⟩ := hv
  have hx := B.exec
  have hb := B.bytes
  have hr := B.returns
  have hbg : ∀ w ∈ BIG, w.before ([.ref h0, .int p0, .int p1] : List Value).toArray s = true := fun w h => atoms_spec (ws := (wmW yM_L_name cM_L_name 4 (some .int) [(0, 6, 9, 13), (0, 6, 12, 21)])) B.pre w (List.mem_cons_of_mem _ h)
  have hown : s.vm.findClass "NoteDocumentLaw" = some m.cls := findClass_of_methodNamed B.named
  have hlocks := B.notSynchronized
  have hTab : c.exceptionTable.toList = tableOf [(0, 6, 9, 13), (0, 6, 12, 21)] := vx_table (x := yM_L_name) B (atoms_spec (ws := (wmW yM_L_name cM_L_name 4 (some .int) [(0, 6, 9, 13), (0, 6, 12, 21)])) B.pre _ List.mem_cons_self)
  subst hsz
  have hD := hD0.self (sz := s.heap.size)
  generalize hAe : va_A [(h0, .inr (0, [.ref st, .ref no, .ref ch, .ref he, .ref de, .ref fi, v6, .ref kp, .int 0, .int 0, .int 0])), (st, .inr (8, [.int 0, .int 0, .int 0, .ref a_columns, .ref a_rows, .ref a_content, .ref a_held, .ref a_other, .ref a_named, .ref a_body, .ref a_parts, .ref a_partCount, .ref a_refRow, .ref a_refColumn, .ref a_refToRow, .ref a_torn, .ref a_record, .int 0, .int 0, .int 0])), (a_columns, .inl (dC 100, 4, .inl g_columns)), (a_rows, .inl (dC 100, 4, .inl g_rows)), (a_content, .inl (dC 101, 200, .inr (.inl g_content))), (a_held, .inl (dC 101, 200, .inr (.inl g_held))), (a_other, .inl (dC 101, 600, .inr (.inl g_other))), (a_named, .inl (dC 100, 6, .inl g_named)), (a_body, .inl (dC 100, 4, .inl g_body)), (a_parts, .inl (dC 100, 24, .inl g_parts)), (a_partCount, .inl (dC 100, 3, .inl g_partCount)), (a_refRow, .inl (dC 100, 150, .inl g_refRow)), (a_refColumn, .inl (dC 100, 150, .inl g_refColumn)), (a_refToRow, .inl (dC 100, 150, .inl g_refToRow)), (a_torn, .inl (dC 102, 150, .inl g_torn)), (a_record, .inl (dC 100, 885, .inl g_record)), (kp, .inl (dC 103, 5, .inr (.inr (.inr (.inr gk))))), (k0, .inr (8, [.int 0, .int 0, .int 0, .ref ak_columns, .ref ak_rows, .ref ak_content, .ref ak_held, .ref ak_other, .ref ak_named, .ref ak_body, .ref ak_parts, .ref ak_partCount, .ref ak_refRow, .ref ak_refColumn, .ref ak_refToRow, .ref ak_torn, .ref ak_record, .int 0, .int 0, .int 0])), (ak_columns, .inl (dC 100, 4, .inl gk_columns)), (ak_rows, .inl (dC 100, 4, .inl gk_rows)), (ak_content, .inl (dC 101, 200, .inr (.inl gk_content))), (ak_held, .inl (dC 101, 200, .inr (.inl gk_held))), (ak_other, .inl (dC 101, 600, .inr (.inl gk_other))), (ak_named, .inl (dC 100, 6, .inl gk_named)), (ak_body, .inl (dC 100, 4, .inl gk_body)), (ak_parts, .inl (dC 100, 24, .inl gk_parts)), (ak_partCount, .inl (dC 100, 3, .inl gk_partCount)), (ak_refRow, .inl (dC 100, 150, .inl gk_refRow)), (ak_refColumn, .inl (dC 100, 150, .inl gk_refColumn)), (ak_refToRow, .inl (dC 100, 150, .inl gk_refToRow)), (ak_torn, .inl (dC 102, 150, .inl gk_torn)), (ak_record, .inl (dC 100, 885, .inl gk_record)), (de, .inr (2, [.ref st, .ref he, x2, .int 1, x4, .int 0, x6, x7, x8, x9, x10, x11, x12, x13, x14, x15, x16, x17, x18]))] s.heap.size = A at hD hN ⊢
  have hA : ∀ q : Nat, s.heap.size ≤ q → A q := fun q h => by rw [← hAe]; exact Or.inr h
  have hS : va_S A s.heap s.heap [] := va_S.rf
  have hP : va_P (dC, dI) classes [(h0, .inr (0, [.ref st, .ref no, .ref ch, .ref he, .ref de, .ref fi, v6, .ref kp, .int 0, .int 0, .int 0])), (st, .inr (8, [.int 0, .int 0, .int 0, .ref a_columns, .ref a_rows, .ref a_content, .ref a_held, .ref a_other, .ref a_named, .ref a_body, .ref a_parts, .ref a_partCount, .ref a_refRow, .ref a_refColumn, .ref a_refToRow, .ref a_torn, .ref a_record, .int 0, .int 0, .int 0])), (a_columns, .inl (dC 100, 4, .inl g_columns)), (a_rows, .inl (dC 100, 4, .inl g_rows)), (a_content, .inl (dC 101, 200, .inr (.inl g_content))), (a_held, .inl (dC 101, 200, .inr (.inl g_held))), (a_other, .inl (dC 101, 600, .inr (.inl g_other))), (a_named, .inl (dC 100, 6, .inl g_named)), (a_body, .inl (dC 100, 4, .inl g_body)), (a_parts, .inl (dC 100, 24, .inl g_parts)), (a_partCount, .inl (dC 100, 3, .inl g_partCount)), (a_refRow, .inl (dC 100, 150, .inl g_refRow)), (a_refColumn, .inl (dC 100, 150, .inl g_refColumn)), (a_refToRow, .inl (dC 100, 150, .inl g_refToRow)), (a_torn, .inl (dC 102, 150, .inl g_torn)), (a_record, .inl (dC 100, 885, .inl g_record)), (kp, .inl (dC 103, 5, .inr (.inr (.inr (.inr gk))))), (k0, .inr (8, [.int 0, .int 0, .int 0, .ref ak_columns, .ref ak_rows, .ref ak_content, .ref ak_held, .ref ak_other, .ref ak_named, .ref ak_body, .ref ak_parts, .ref ak_partCount, .ref ak_refRow, .ref ak_refColumn, .ref ak_refToRow, .ref ak_torn, .ref ak_record, .int 0, .int 0, .int 0])), (ak_columns, .inl (dC 100, 4, .inl gk_columns)), (ak_rows, .inl (dC 100, 4, .inl gk_rows)), (ak_content, .inl (dC 101, 200, .inr (.inl gk_content))), (ak_held, .inl (dC 101, 200, .inr (.inl gk_held))), (ak_other, .inl (dC 101, 600, .inr (.inl gk_other))), (ak_named, .inl (dC 100, 6, .inl gk_named)), (ak_body, .inl (dC 100, 4, .inl gk_body)), (ak_parts, .inl (dC 100, 24, .inl gk_parts)), (ak_partCount, .inl (dC 100, 3, .inl gk_partCount)), (ak_refRow, .inl (dC 100, 150, .inl gk_refRow)), (ak_refColumn, .inl (dC 100, 150, .inl gk_refColumn)), (ak_refToRow, .inl (dC 100, 150, .inl gk_refToRow)), (ak_torn, .inl (dC 102, 150, .inl gk_torn)), (ak_record, .inl (dC 100, 885, .inl gk_record)), (de, .inr (2, [.ref st, .ref he, x2, .int 1, x4, .int 0, x6, x7, x8, x9, x10, x11, x12, x13, x14, x15, x16, x17, x18]))] s.heap := hP
  have hl := lv_entry ([.ref h0, .int p0, .int p1] : List Value) (n := 4) (Nat.le_of_ble_eq_true rfl)
  rw [lg_entry_eq]
  generalize (lg_sl ([.ref h0, .int p0, .int p1] : List Value) ++ List.replicate (4 - (lg_sl ([.ref h0, .int p0, .int p1] : List Value)).length) Slot.unset).toArray = ls at hl ⊢
  have hl : lv_has ls 4 [(0, .ref h0), (1, .int p0), (2, .int p1)] := hl
  refine lv_aload_n hx hb dM_L_name_0 rfl (lv_at hl 0 rfl) ?_
  refine lv_iload_n hx hb dM_L_name_1 rfl (lv_at hl 1 rfl) ?_
  refine lv_iload_n hx hb dM_L_name_2 rfl (lv_at hl 2 rfl) ?_
  have hFc := va_free (wc := [(h0, .inr (0, [.ref st, .ref no, .ref ch, .ref he, .ref de, .ref fi, v6, .ref kp, .int 0, .int 0, .int 0])), (st, .inr (8, [.int 0, .int 0, .int 0, .ref a_columns, .ref a_rows, .ref a_content, .ref a_held, .ref a_other, .ref a_named, .ref a_body, .ref a_parts, .ref a_partCount, .ref a_refRow, .ref a_refColumn, .ref a_refToRow, .ref a_torn, .ref a_record, .int 0, .int 0, .int 0])), (a_columns, .inl (dC 100, 4, .inl g_columns)), (a_rows, .inl (dC 100, 4, .inl g_rows)), (a_content, .inl (dC 101, 200, .inr (.inl g_content))), (a_held, .inl (dC 101, 200, .inr (.inl g_held))), (a_other, .inl (dC 101, 600, .inr (.inl g_other))), (a_named, .inl (dC 100, 6, .inl g_named)), (a_body, .inl (dC 100, 4, .inl g_body)), (a_parts, .inl (dC 100, 24, .inl g_parts)), (a_partCount, .inl (dC 100, 3, .inl g_partCount)), (a_refRow, .inl (dC 100, 150, .inl g_refRow)), (a_refColumn, .inl (dC 100, 150, .inl g_refColumn)), (a_refToRow, .inl (dC 100, 150, .inl g_refToRow)), (a_torn, .inl (dC 102, 150, .inl g_torn)), (a_record, .inl (dC 100, 885, .inl g_record)), (kp, .inl (dC 103, 5, .inr (.inr (.inr (.inr gk))))), (k0, .inr (8, [.int 0, .int 0, .int 0, .ref ak_columns, .ref ak_rows, .ref ak_content, .ref ak_held, .ref ak_other, .ref ak_named, .ref ak_body, .ref ak_parts, .ref ak_partCount, .ref ak_refRow, .ref ak_refColumn, .ref ak_refToRow, .ref ak_torn, .ref ak_record, .int 0, .int 0, .int 0])), (ak_columns, .inl (dC 100, 4, .inl gk_columns)), (ak_rows, .inl (dC 100, 4, .inl gk_rows)), (ak_content, .inl (dC 101, 200, .inr (.inl gk_content))), (ak_held, .inl (dC 101, 200, .inr (.inl gk_held))), (ak_other, .inl (dC 101, 600, .inr (.inl gk_other))), (ak_named, .inl (dC 100, 6, .inl gk_named)), (ak_body, .inl (dC 100, 4, .inl gk_body)), (ak_parts, .inl (dC 100, 24, .inl gk_parts)), (ak_partCount, .inl (dC 100, 3, .inl gk_partCount)), (ak_refRow, .inl (dC 100, 150, .inl gk_refRow)), (ak_refColumn, .inl (dC 100, 150, .inl gk_refColumn)), (ak_refToRow, .inl (dC 100, 150, .inl gk_refToRow)), (ak_torn, .inl (dC 102, 150, .inl gk_torn)), (ak_record, .inl (dC 100, 885, .inl gk_record)), (de, .inr (2, [.ref st, .ref he, x2, .int 1, x4, .int 0, x6, x7, x8, x9, x10, x11, x12, x13, x14, x15, x16, x17, x18]))]) hD hS hA [0, 1, 2, 3, 4, 5, 6, 7, 8, 9, 10, 11, 12, 13, 14, 15, 16, 17, 18, 19, 20, 21, 22, 23, 24, 25, 26, 27, 28, 29, 30, 31, 32] rfl
  refine vx_callv (vx_runV (As := [.int p0, .int p1]) (rest := []) ⟨hx, hb, hml, hown, hbg⟩ (c_D_name l hl9 dC dI h0 p0 p1 st no ch he de fi v6 kp a_columns a_rows a_content a_held a_other a_named a_body a_parts a_partCount a_refRow a_refColumn a_refToRow a_torn a_record g_columns g_rows g_content g_held g_other g_named g_body g_parts g_partCount g_refRow g_refColumn g_refToRow g_torn g_record gk k0 ak_columns ak_rows ak_content ak_held ak_other ak_named ak_body ak_parts ak_partCount ak_refRow ak_refColumn ak_refToRow ak_torn ak_record gk_columns gk_rows gk_content gk_held gk_other gk_named gk_body gk_parts gk_partCount gk_refRow gk_refColumn gk_refToRow gk_torn gk_record x2 x4 x6 x7 x8 x9 x10 x11 x12 x13 x14 x15 x16 x17 x18 _ (hk0)) (cwV 2 hbg (gd_V (fun _ h => h) wd_1306 wd_1307 wd_1308 wd_1 (gd_wm (fun _ h => h) wd_1309)) rfl rfl rfl (by decide +kernel) ⟨Nat.le_of_ble_eq_true rfl, Nat.le_of_ble_eq_true rfl⟩) (nPreV [0, 1, 2, 3, 4, 5, 6, 7, 8, 9, 10, 11, 12, 13, 14, 15, 16, 17, 18, 19, 20, 21, 22, 23, 24, 25, 26, 27, 28, 29, 30, 31, 32] hP hD hK hN hS hA (by decide) rfl 0 rfl rfl) rfl rfl hl.1 rfl (lv_room (Nat.le_of_ble_eq_true rfl)) dM_L_name_3 ⟨Nat.le_of_ble_eq_true rfl, Nat.le_of_ble_eq_true rfl⟩) hS (fun q _ h => hFc q h) hFc (fun q _ h => hFc q h) (fun E ce q9 u t H1 locs ht hvm hpx hBX hz1 hk1 hS hq9 hcv hcl => ?_) (fun u t H1 locs ht hvm hw hB hz1 hk1 hS => ?_)
  · --
    obtain ⟨hP, hD⟩ := va_join (wr := []) (w1 := []) hP hD [0, 1, 2, 3, 4, 5, 6, 7, 8, 9, 10, 11, 12, 13, 14, 15, 16, 17, 18, 19, 20, 21, 22, 23, 24, 25, 26, 27, 28, 29, 30, 31, 32] [] rfl rfl (by decide) (by decide) hk1 hFc nP0 nD0
    generalize H1 = H at hP hS hq9 ⊢
    have hP : va_P (dC, dI) classes [] H := hP
    have hD : va_D A [] := hD
    rcases hBX with ⟨rfl, c_2⟩ | ⟨rfl, c_3⟩
    · --
      refine vx_catch (own := "NoteDocumentLaw") (name := "java/lang/IllegalArgumentException") (E := "java/lang/IllegalArgumentException") hown [] ⟨0, 6, 9, 13⟩ [⟨0, 6, 12, 21⟩] (by rw [hTab]; rfl) (fun z hz => nomatch hz) (by decide) (by decide) (hbg _ wd_1023) (va_Nw.use rfl (hK.2.1 _ wx_1031)) hq9 hcv hcl ?_
      refine W.widen (k := 1) (n := 6) (Nat.le_of_ble_eq_true rfl) (Nat.le_of_ble_eq_true rfl) ?_
      refine lv_astore_n (lv' := [(3, .ref q9), (0, .ref h0), (1, .int p0), (2, .int p1)]) hx hb dM_L_name_9 rfl hl (by decide) rfl (fun ls hl => ?_)
      refine lv_iconst (v := 1) hx hb dM_L_name_10 (by decide) ?_
      exact W.iret (v := 1) hx hb hr (fun t ht hW => ⟨⟨1, (), rfl, (Or.inr (Or.inl ⟨c_2, rfl⟩)), trivial⟩, hS.F ht⟩) hS.2.2 dM_L_name_11
    · --
      refine vx_catch (own := "NoteDocumentLaw") (name := "java/lang/IndexOutOfBoundsException") (E := "java/lang/IndexOutOfBoundsException") hown [⟨0, 6, 9, 13⟩] ⟨0, 6, 12, 21⟩ [] (by rw [hTab]; rfl) (n_pcons (Or.inr ⟨by decide, "java/lang/IllegalArgumentException", (hbg _ wd_1023), hK.2.2.2.2⟩) (fun z hz => nomatch hz)) (by decide) (by decide) (hbg _ wd_1117) (va_Nw.use rfl (hK.2.1 _ wx_1128)) hq9 hcv hcl ?_
      refine W.widen (k := 1) (n := 6) (Nat.le_of_ble_eq_true rfl) (Nat.le_of_ble_eq_true rfl) ?_
      refine lv_astore_n (lv' := [(3, .ref q9), (0, .ref h0), (1, .int p0), (2, .int p1)]) hx hb dM_L_name_12 rfl hl (by decide) rfl (fun ls hl => ?_)
      refine lv_iconst (v := 2) hx hb dM_L_name_13 (by decide) ?_
      exact W.iret (v := 2) hx hb hr (fun t ht hW => ⟨⟨2, (), rfl, (Or.inr (Or.inr ⟨c_3, rfl⟩)), trivial⟩, hS.F ht⟩) hS.2.2 dM_L_name_14
  · --
    have c_4 : okName p0 ∧ p1 = (-1) := hw
    obtain ⟨hP, hD⟩ := va_join (wr := []) (w1 := []) hP hD [0, 1, 2, 3, 4, 5, 6, 7, 8, 9, 10, 11, 12, 13, 14, 15, 16, 17, 18, 19, 20, 21, 22, 23, 24, 25, 26, 27, 28, 29, 30, 31, 32] [] rfl rfl (by decide) (by decide) hk1 hFc nP0 nD0
    generalize H1 = H at hP hS ⊢
    have hP : va_P (dC, dI) classes [] H := hP
    have hD : va_D A [] := hD
    refine W.widen (k := 1) (n := 6) (Nat.le_of_ble_eq_true rfl) (Nat.le_of_ble_eq_true rfl) ?_
    refine lv_goto (tgt := 15) hx hb dM_L_name_6 (by decide) ?_
    refine lv_iconst (v := 0) hx hb dM_L_name_15 (by decide) ?_
    exact W.iret (v := 0) hx hb hr (fun t ht hW => ⟨⟨0, (), rfl, (Or.inl ⟨c_4, rfl⟩), trivial⟩, hS.F ht⟩) hS.2.2 dM_L_name_16
set_option maxHeartbeats 4000000 in
set_option maxRecDepth 100000 in
theorem c_L_define (l : Launch) (hl9 : l.stackTraces = false) (dC : Nat → ClassId) (dI : Nat → Nat → Nat) (h0 : Nat) (p0 : Int32) (p1 : Int32) (st : Nat) (no : Nat) (ch : Nat) (he : Nat) (de : Nat) (fi : Nat) (v6 : Value) (kp : Nat) (a_columns : Nat) (a_rows : Nat) (a_content : Nat) (a_held : Nat) (a_other : Nat) (a_named : Nat) (a_body : Nat) (a_parts : Nat) (a_partCount : Nat) (a_refRow : Nat) (a_refColumn : Nat) (a_refToRow : Nat) (a_torn : Nat) (a_record : Nat) (g_columns : Nat → Int32) (g_rows : Nat → Int32) (g_content : Nat → Int64) (g_held : Nat → Int64) (g_other : Nat → Int64) (g_named : Nat → Int32) (g_body : Nat → Int32) (g_parts : Nat → Int32) (g_partCount : Nat → Int32) (g_refRow : Nat → Int32) (g_refColumn : Nat → Int32) (g_refToRow : Nat → Int32) (g_torn : Nat → Int32) (g_record : Nat → Int32) (gk : Nat → Option Nat) (k0 : Nat) (ak_columns : Nat) (ak_rows : Nat) (ak_content : Nat) (ak_held : Nat) (ak_other : Nat) (ak_named : Nat) (ak_body : Nat) (ak_parts : Nat) (ak_partCount : Nat) (ak_refRow : Nat) (ak_refColumn : Nat) (ak_refToRow : Nat) (ak_torn : Nat) (ak_record : Nat) (gk_columns : Nat → Int32) (gk_rows : Nat → Int32) (gk_content : Nat → Int64) (gk_held : Nat → Int64) (gk_other : Nat → Int64) (gk_named : Nat → Int32) (gk_body : Nat → Int32) (gk_parts : Nat → Int32) (gk_partCount : Nat → Int32) (gk_refRow : Nat → Int32) (gk_refColumn : Nat → Int32) (gk_refToRow : Nat → Int32) (gk_torn : Nat → Int32) (gk_record : Nat → Int32) (x2 : Value) (x4 : Value) (x6 : Value) (x7 : Value) (x8 : Value) (x9 : Value) (x10 : Value) (x11 : Value) (x12 : Value) (x13 : Value) (x14 : Value) (x15 : Value) (x16 : Value) (x17 : Value) (x18 : Value) (sz : Nat) (hk0 : gk (0 : Int32).toNatClampNeg = some k0) : Met l yM_L_define (wmW yM_L_define cM_L_define 4 (some .int) [(0, 6, 9, 13), (0, 6, 12, 21)]) ({ frames := 140, cells := 1, slots := 6, locals := 2800 }) (nPc [.ref h0, .int p0, .int p1] (dC, dI) [(h0, .inr (0, [.ref st, .ref no, .ref ch, .ref he, .ref de, .ref fi, v6, .ref kp, .int 0, .int 0, .int 0])), (st, .inr (8, [.int 0, .int 0, .int 0, .ref a_columns, .ref a_rows, .ref a_content, .ref a_held, .ref a_other, .ref a_named, .ref a_body, .ref a_parts, .ref a_partCount, .ref a_refRow, .ref a_refColumn, .ref a_refToRow, .ref a_torn, .ref a_record, .int 0, .int 0, .int 0])), (a_columns, .inl (dC 100, 4, .inl g_columns)), (a_rows, .inl (dC 100, 4, .inl g_rows)), (a_content, .inl (dC 101, 200, .inr (.inl g_content))), (a_held, .inl (dC 101, 200, .inr (.inl g_held))), (a_other, .inl (dC 101, 600, .inr (.inl g_other))), (a_named, .inl (dC 100, 6, .inl g_named)), (a_body, .inl (dC 100, 4, .inl g_body)), (a_parts, .inl (dC 100, 24, .inl g_parts)), (a_partCount, .inl (dC 100, 3, .inl g_partCount)), (a_refRow, .inl (dC 100, 150, .inl g_refRow)), (a_refColumn, .inl (dC 100, 150, .inl g_refColumn)), (a_refToRow, .inl (dC 100, 150, .inl g_refToRow)), (a_torn, .inl (dC 102, 150, .inl g_torn)), (a_record, .inl (dC 100, 885, .inl g_record)), (kp, .inl (dC 103, 5, .inr (.inr (.inr (.inr gk))))), (k0, .inr (8, [.int 0, .int 0, .int 0, .ref ak_columns, .ref ak_rows, .ref ak_content, .ref ak_held, .ref ak_other, .ref ak_named, .ref ak_body, .ref ak_parts, .ref ak_partCount, .ref ak_refRow, .ref ak_refColumn, .ref ak_refToRow, .ref ak_torn, .ref ak_record, .int 0, .int 0, .int 0])), (ak_columns, .inl (dC 100, 4, .inl gk_columns)), (ak_rows, .inl (dC 100, 4, .inl gk_rows)), (ak_content, .inl (dC 101, 200, .inr (.inl gk_content))), (ak_held, .inl (dC 101, 200, .inr (.inl gk_held))), (ak_other, .inl (dC 101, 600, .inr (.inl gk_other))), (ak_named, .inl (dC 100, 6, .inl gk_named)), (ak_body, .inl (dC 100, 4, .inl gk_body)), (ak_parts, .inl (dC 100, 24, .inl gk_parts)), (ak_partCount, .inl (dC 100, 3, .inl gk_partCount)), (ak_refRow, .inl (dC 100, 150, .inl gk_refRow)), (ak_refColumn, .inl (dC 100, 150, .inl gk_refColumn)), (ak_refToRow, .inl (dC 100, 150, .inl gk_refToRow)), (ak_torn, .inl (dC 102, 150, .inl gk_torn)), (ak_record, .inl (dC 100, 885, .inl gk_record)), (de, .inr (2, [.ref st, .ref he, x2, .int 1, x4, .int 0, x6, x7, x8, x9, x10, x11, x12, x13, x14, x15, x16, x17, x18]))] sz) (va_Qi (fun (r : Int32) (_ : Unit) => ((okFun p0 ∧ p1 = (-1)) ∧ r = 0) ∨ (¬ okFun p0 ∧ r = 1) ∨ ((okFun p0 ∧ ¬ p1 = (-1)) ∧ r = 2)) (fun (_ : Unit) t => True) (va_A [(h0, .inr (0, [.ref st, .ref no, .ref ch, .ref he, .ref de, .ref fi, v6, .ref kp, .int 0, .int 0, .int 0])), (st, .inr (8, [.int 0, .int 0, .int 0, .ref a_columns, .ref a_rows, .ref a_content, .ref a_held, .ref a_other, .ref a_named, .ref a_body, .ref a_parts, .ref a_partCount, .ref a_refRow, .ref a_refColumn, .ref a_refToRow, .ref a_torn, .ref a_record, .int 0, .int 0, .int 0])), (a_columns, .inl (dC 100, 4, .inl g_columns)), (a_rows, .inl (dC 100, 4, .inl g_rows)), (a_content, .inl (dC 101, 200, .inr (.inl g_content))), (a_held, .inl (dC 101, 200, .inr (.inl g_held))), (a_other, .inl (dC 101, 600, .inr (.inl g_other))), (a_named, .inl (dC 100, 6, .inl g_named)), (a_body, .inl (dC 100, 4, .inl g_body)), (a_parts, .inl (dC 100, 24, .inl g_parts)), (a_partCount, .inl (dC 100, 3, .inl g_partCount)), (a_refRow, .inl (dC 100, 150, .inl g_refRow)), (a_refColumn, .inl (dC 100, 150, .inl g_refColumn)), (a_refToRow, .inl (dC 100, 150, .inl g_refToRow)), (a_torn, .inl (dC 102, 150, .inl g_torn)), (a_record, .inl (dC 100, 885, .inl g_record)), (kp, .inl (dC 103, 5, .inr (.inr (.inr (.inr gk))))), (k0, .inr (8, [.int 0, .int 0, .int 0, .ref ak_columns, .ref ak_rows, .ref ak_content, .ref ak_held, .ref ak_other, .ref ak_named, .ref ak_body, .ref ak_parts, .ref ak_partCount, .ref ak_refRow, .ref ak_refColumn, .ref ak_refToRow, .ref ak_torn, .ref ak_record, .int 0, .int 0, .int 0])), (ak_columns, .inl (dC 100, 4, .inl gk_columns)), (ak_rows, .inl (dC 100, 4, .inl gk_rows)), (ak_content, .inl (dC 101, 200, .inr (.inl gk_content))), (ak_held, .inl (dC 101, 200, .inr (.inl gk_held))), (ak_other, .inl (dC 101, 600, .inr (.inl gk_other))), (ak_named, .inl (dC 100, 6, .inl gk_named)), (ak_body, .inl (dC 100, 4, .inl gk_body)), (ak_parts, .inl (dC 100, 24, .inl gk_parts)), (ak_partCount, .inl (dC 100, 3, .inl gk_partCount)), (ak_refRow, .inl (dC 100, 150, .inl gk_refRow)), (ak_refColumn, .inl (dC 100, 150, .inl gk_refColumn)), (ak_refToRow, .inl (dC 100, 150, .inl gk_refToRow)), (ak_torn, .inl (dC 102, 150, .inl gk_torn)), (ak_record, .inl (dC 100, 885, .inl gk_record)), (de, .inr (2, [.ref st, .ref he, x2, .int 1, x4, .int 0, x6, x7, x8, x9, x10, x11, x12, x13, x14, x15, x16, x17, x18]))] sz)) 1 6 (va_A [(h0, .inr (0, [.ref st, .ref no, .ref ch, .ref he, .ref de, .ref fi, v6, .ref kp, .int 0, .int 0, .int 0])), (st, .inr (8, [.int 0, .int 0, .int 0, .ref a_columns, .ref a_rows, .ref a_content, .ref a_held, .ref a_other, .ref a_named, .ref a_body, .ref a_parts, .ref a_partCount, .ref a_refRow, .ref a_refColumn, .ref a_refToRow, .ref a_torn, .ref a_record, .int 0, .int 0, .int 0])), (a_columns, .inl (dC 100, 4, .inl g_columns)), (a_rows, .inl (dC 100, 4, .inl g_rows)), (a_content, .inl (dC 101, 200, .inr (.inl g_content))), (a_held, .inl (dC 101, 200, .inr (.inl g_held))), (a_other, .inl (dC 101, 600, .inr (.inl g_other))), (a_named, .inl (dC 100, 6, .inl g_named)), (a_body, .inl (dC 100, 4, .inl g_body)), (a_parts, .inl (dC 100, 24, .inl g_parts)), (a_partCount, .inl (dC 100, 3, .inl g_partCount)), (a_refRow, .inl (dC 100, 150, .inl g_refRow)), (a_refColumn, .inl (dC 100, 150, .inl g_refColumn)), (a_refToRow, .inl (dC 100, 150, .inl g_refToRow)), (a_torn, .inl (dC 102, 150, .inl g_torn)), (a_record, .inl (dC 100, 885, .inl g_record)), (kp, .inl (dC 103, 5, .inr (.inr (.inr (.inr gk))))), (k0, .inr (8, [.int 0, .int 0, .int 0, .ref ak_columns, .ref ak_rows, .ref ak_content, .ref ak_held, .ref ak_other, .ref ak_named, .ref ak_body, .ref ak_parts, .ref ak_partCount, .ref ak_refRow, .ref ak_refColumn, .ref ak_refToRow, .ref ak_torn, .ref ak_record, .int 0, .int 0, .int 0])), (ak_columns, .inl (dC 100, 4, .inl gk_columns)), (ak_rows, .inl (dC 100, 4, .inl gk_rows)), (ak_content, .inl (dC 101, 200, .inr (.inl gk_content))), (ak_held, .inl (dC 101, 200, .inr (.inl gk_held))), (ak_other, .inl (dC 101, 600, .inr (.inl gk_other))), (ak_named, .inl (dC 100, 6, .inl gk_named)), (ak_body, .inl (dC 100, 4, .inl gk_body)), (ak_parts, .inl (dC 100, 24, .inl gk_parts)), (ak_partCount, .inl (dC 100, 3, .inl gk_partCount)), (ak_refRow, .inl (dC 100, 150, .inl gk_refRow)), (ak_refColumn, .inl (dC 100, 150, .inl gk_refColumn)), (ak_refToRow, .inl (dC 100, 150, .inl gk_refToRow)), (ak_torn, .inl (dC 102, 150, .inl gk_torn)), (ak_record, .inl (dC 100, 885, .inl gk_record)), (de, .inr (2, [.ref st, .ref he, x2, .int 1, x4, .int 0, x6, x7, x8, x9, x10, x11, x12, x13, x14, x15, x16, x17, x18]))] sz) := by
  refine va_MetW (cc := cM_L_define) (maxL := 4) (ret := (some .int)) (by decide) rfl ?_
  intro p e s m args below meth c s₁ B hml hv
  obtain ⟨rfl, hsz, hP, hD0, hK, hN⟩ := hv
  have hx := B.exec
  have hb := B.bytes
  have hr := B.returns
  have hbg : ∀ w ∈ BIG, w.before ([.ref h0, .int p0, .int p1] : List Value).toArray s = true := fun w h => atoms_spec (ws := (wmW yM_L_define cM_L_define 4 (some .int) [(0, 6, 9, 13), (0, 6, 12, 21)])) B.pre w (List.mem_cons_of_mem _ h)
  have hown : s.vm.findClass "NoteDocumentLaw" = some m.cls := findClass_of_methodNamed B.named
  have hlocks := B.notSynchronized
  have hTab : c.exceptionTable.toList = tableOf [(0, 6, 9, 13), (0, 6, 12, 21)] := vx_table (x := yM_L_define) B (atoms_spec (ws := (wmW yM_L_define cM_L_define 4 (some .int) [(0, 6, 9, 13), (0, 6, 12, 21)])) B.pre _ List.mem_cons_self)
  subst hsz
  have hD := hD0.self (sz := s.heap.size)
  generalize hAe : va_A [(h0, .inr (0, [.ref st, .ref no, .ref ch, .ref he, .ref de, .ref fi, v6, .ref kp, .int 0, .int 0, .int 0])), (st, .inr (8, [.int 0, .int 0, .int 0, .ref a_columns, .ref a_rows, .ref a_content, .ref a_held, .ref a_other, .ref a_named, .ref a_body, .ref a_parts, .ref a_partCount, .ref a_refRow, .ref a_refColumn, .ref a_refToRow, .ref a_torn, .ref a_record, .int 0, .int 0, .int 0])), (a_columns, .inl (dC 100, 4, .inl g_columns)), (a_rows, .inl (dC 100, 4, .inl g_rows)), (a_content, .inl (dC 101, 200, .inr (.inl g_content))), (a_held, .inl (dC 101, 200, .inr (.inl g_held))), (a_other, .inl (dC 101, 600, .inr (.inl g_other))), (a_named, .inl (dC 100, 6, .inl g_named)), (a_body, .inl (dC 100, 4, .inl g_body)), (a_parts, .inl (dC 100, 24, .inl g_parts)), (a_partCount, .inl (dC 100, 3, .inl g_partCount)), (a_refRow, .inl (dC 100, 150, .inl g_refRow)), (a_refColumn, .inl (dC 100, 150, .inl g_refColumn)), (a_refToRow, .inl (dC 100, 150, .inl g_refToRow)), (a_torn, .inl (dC 102, 150, .inl g_torn)), (a_record, .inl (dC 100, 885, .inl g_record)), (kp, .inl (dC 103, 5, .inr (.inr (.inr (.inr gk))))), (k0, .inr (8, [.int 0, .int 0, .int 0, .ref ak_columns, .ref ak_rows, .ref ak_content, .ref ak_held, .ref ak_other, .ref ak_named, .ref ak_body, .ref ak_parts, .ref ak_partCount, .ref ak_refRow, .ref ak_refColumn, .ref ak_refToRow, .ref ak_torn, .ref ak_record, .int 0, .int 0, .int 0])), (ak_columns, .inl (dC 100, 4, .inl gk_columns)), (ak_rows, .inl (dC 100, 4, .inl gk_rows)), (ak_content, .inl (dC 101, 200, .inr (.inl gk_content))), (ak_held, .inl (dC 101, 200, .inr (.inl gk_held))), (ak_other, .inl (dC 101, 600, .inr (.inl gk_other))), (ak_named, .inl (dC 100, 6, .inl gk_named)), (ak_body, .inl (dC 100, 4, .inl gk_body)), (ak_parts, .inl (dC 100, 24, .inl gk_parts)), (ak_partCount, .inl (dC 100, 3, .inl gk_partCount)), (ak_refRow, .inl (dC 100, 150, .inl gk_refRow)), (ak_refColumn, .inl (dC 100, 150, .inl gk_refColumn)), (ak_refToRow, .inl (dC 100, 150, .inl gk_refToRow)), (ak_torn, .inl (dC 102, 150, .inl gk_torn)), (ak_record, .inl (dC 100, 885, .inl gk_record)), (de, .inr (2, [.ref st, .ref he, x2, .int 1, x4, .int 0, x6, x7, x8, x9, x10, x11, x12, x13, x14, x15, x16, x17, x18]))] s.heap.size = A at hD hN ⊢
  have hA : ∀ q : Nat, s.heap.size ≤ q → A q := fun q h => by rw [← hAe]; exact Or.inr h
  have hS : va_S A s.heap s.heap [] := va_S.rf
  have hP : va_P (dC, dI) classes [(h0, .inr (0, [.ref st, .ref no, .ref ch, .ref he, .ref de, .ref fi, v6, .ref kp, .int 0, .int 0, .int 0])), (st, .inr (8, [.int 0, .int 0, .int 0, .ref a_columns, .ref a_rows, .ref a_content, .ref a_held, .ref a_other, .ref a_named, .ref a_body, .ref a_parts, .ref a_partCount, .ref a_refRow, .ref a_refColumn, .ref a_refToRow, .ref a_torn, .ref a_record, .int 0, .int 0, .int 0])), (a_columns, .inl (dC 100, 4, .inl g_columns)), (a_rows, .inl (dC 100, 4, .inl g_rows)), (a_content, .inl (dC 101, 200, .inr (.inl g_content))), (a_held, .inl (dC 101, 200, .inr (.inl g_held))), (a_other, .inl (dC 101, 600, .inr (.inl g_other))), (a_named, .inl (dC 100, 6, .inl g_named)), (a_body, .inl (dC 100, 4, .inl g_body)), (a_parts, .inl (dC 100, 24, .inl g_parts)), (a_partCount, .inl (dC 100, 3, .inl g_partCount)), (a_refRow, .inl (dC 100, 150, .inl g_refRow)), (a_refColumn, .inl (dC 100, 150, .inl g_refColumn)), (a_refToRow, .inl (dC 100, 150, .inl g_refToRow)), (a_torn, .inl (dC 102, 150, .inl g_torn)), (a_record, .inl (dC 100, 885, .inl g_record)), (kp, .inl (dC 103, 5, .inr (.inr (.inr (.inr gk))))), (k0, .inr (8, [.int 0, .int 0, .int 0, .ref ak_columns, .ref ak_rows, .ref ak_content, .ref ak_held, .ref ak_other, .ref ak_named, .ref ak_body, .ref ak_parts, .ref ak_partCount, .ref ak_refRow, .ref ak_refColumn, .ref ak_refToRow, .ref ak_torn, .ref ak_record, .int 0, .int 0, .int 0])), (ak_columns, .inl (dC 100, 4, .inl gk_columns)), (ak_rows, .inl (dC 100, 4, .inl gk_rows)), (ak_content, .inl (dC 101, 200, .inr (.inl gk_content))), (ak_held, .inl (dC 101, 200, .inr (.inl gk_held))), (ak_other, .inl (dC 101, 600, .inr (.inl gk_other))), (ak_named, .inl (dC 100, 6, .inl gk_named)), (ak_body, .inl (dC 100, 4, .inl gk_body)), (ak_parts, .inl (dC 100, 24, .inl gk_parts)), (ak_partCount, .inl (dC 100, 3, .inl gk_partCount)), (ak_refRow, .inl (dC 100, 150, .inl gk_refRow)), (ak_refColumn, .inl (dC 100, 150, .inl gk_refColumn)), (ak_refToRow, .inl (dC 100, 150, .inl gk_refToRow)), (ak_torn, .inl (dC 102, 150, .inl gk_torn)), (ak_record, .inl (dC 100, 885, .inl gk_record)), (de, .inr (2, [.ref st, .ref he, x2, .int 1, x4, .int 0, x6, x7, x8, x9, x10, x11, x12, x13, x14, x15, x16, x17, x18]))] s.heap := hP
  have hl := lv_entry ([.ref h0, .int p0, .int p1] : List Value) (n := 4) (Nat.le_of_ble_eq_true rfl)
  rw [lg_entry_eq]
  generalize (lg_sl ([.ref h0, .int p0, .int p1] : List Value) ++ List.replicate (4 - (lg_sl ([.ref h0, .int p0, .int p1] : List Value)).length) Slot.unset).toArray = ls at hl ⊢
  have hl : lv_has ls 4 [(0, .ref h0), (1, .int p0), (2, .int p1)] := hl
  refine lv_aload_n hx hb dM_L_define_0 rfl (lv_at hl 0 rfl) ?_
  refine lv_iload_n hx hb dM_L_define_1 rfl (lv_at hl 1 rfl) ?_
  refine lv_iload_n hx hb dM_L_define_2 rfl (lv_at hl 2 rfl) ?_
  have hFc := va_free (wc := [(h0, .inr (0, [.ref st, .ref no, .ref ch, .ref he, .ref de, .ref fi, v6, .ref kp, .int 0, .int 0, .int 0])), (st, .inr (8, [.int 0, .int 0, .int 0, .ref a_columns, .ref a_rows, .ref a_content, .ref a_held, .ref a_other, .ref a_named, .ref a_body, .ref a_parts, .ref a_partCount, .ref a_refRow, .ref a_refColumn, .ref a_refToRow, .ref a_torn, .ref a_record, .int 0, .int 0, .int 0])), (a_columns, .inl (dC 100, 4, .inl g_columns)), (a_rows, .inl (dC 100, 4, .inl g_rows)), (a_content, .inl (dC 101, 200, .inr (.inl g_content))), (a_held, .inl (dC 101, 200, .inr (.inl g_held))), (a_other, .inl (dC 101, 600, .inr (.inl g_other))), (a_named, .inl (dC 100, 6, .inl g_named)), (a_body, .inl (dC 100, 4, .inl g_body)), (a_parts, .inl (dC 100, 24, .inl g_parts)), (a_partCount, .inl (dC 100, 3, .inl g_partCount)), (a_refRow, .inl (dC 100, 150, .inl g_refRow)), (a_refColumn, .inl (dC 100, 150, .inl g_refColumn)), (a_refToRow, .inl (dC 100, 150, .inl g_refToRow)), (a_torn, .inl (dC 102, 150, .inl g_torn)), (a_record, .inl (dC 100, 885, .inl g_record)), (kp, .inl (dC 103, 5, .inr (.inr (.inr (.inr gk))))), (k0, .inr (8, [.int 0, .int 0, .int 0, .ref ak_columns, .ref ak_rows, .ref ak_content, .ref ak_held, .ref ak_other, .ref ak_named, .ref ak_body, .ref ak_parts, .ref ak_partCount, .ref ak_refRow, .ref ak_refColumn, .ref ak_refToRow, .ref ak_torn, .ref ak_record, .int 0, .int 0, .int 0])), (ak_columns, .inl (dC 100, 4, .inl gk_columns)), (ak_rows, .inl (dC 100, 4, .inl gk_rows)), (ak_content, .inl (dC 101, 200, .inr (.inl gk_content))), (ak_held, .inl (dC 101, 200, .inr (.inl gk_held))), (ak_other, .inl (dC 101, 600, .inr (.inl gk_other))), (ak_named, .inl (dC 100, 6, .inl gk_named)), (ak_body, .inl (dC 100, 4, .inl gk_body)), (ak_parts, .inl (dC 100, 24, .inl gk_parts)), (ak_partCount, .inl (dC 100, 3, .inl gk_partCount)), (ak_refRow, .inl (dC 100, 150, .inl gk_refRow)), (ak_refColumn, .inl (dC 100, 150, .inl gk_refColumn)), (ak_refToRow, .inl (dC 100, 150, .inl gk_refToRow)), (ak_torn, .inl (dC 102, 150, .inl gk_torn)), (ak_record, .inl (dC 100, 885, .inl gk_record)), (de, .inr (2, [.ref st, .ref he, x2, .int 1, x4, .int 0, x6, x7, x8, x9, x10, x11, x12, x13, x14, x15, x16, x17, x18]))]) hD hS hA [0, 1, 2, 3, 4, 5, 6, 7, 8, 9, 10, 11, 12, 13, 14, 15, 16, 17, 18, 19, 20, 21, 22, 23, 24, 25, 26, 27, 28, 29, 30, 31, 32] rfl
  refine vx_callv (vx_runV (As := [.int p0, .int p1]) (rest := []) ⟨hx, hb, hml, hown, hbg⟩ (c_D_define l hl9 dC dI h0 p0 p1 st no ch he de fi v6 kp a_columns a_rows a_content a_held a_other a_named a_body a_parts a_partCount a_refRow a_refColumn a_refToRow a_torn a_record g_columns g_rows g_content g_held g_other g_named g_body g_parts g_partCount g_refRow g_refColumn g_refToRow g_torn g_record gk k0 ak_columns ak_rows ak_content ak_held ak_other ak_named ak_body ak_parts ak_partCount ak_refRow ak_refColumn ak_refToRow ak_torn ak_record gk_columns gk_rows gk_content gk_held gk_other gk_named gk_body gk_parts gk_partCount gk_refRow gk_refColumn gk_refToRow gk_torn gk_record x2 x4 x6 x7 x8 x9 x10 x11 x12 x13 x14 x15 x16 x17 x18 _ (hk0)) (cwV 2 hbg (gd_V (fun _ h => h) wd_1314 wd_1315 wd_1316 wd_1 (gd_wm (fun _ h => h) wd_1317)) rfl rfl rfl (by decide +kernel) ⟨Nat.le_of_ble_eq_true rfl, Nat.le_of_ble_eq_true rfl⟩) (nPreV [0, 1, 2, 3, 4, 5, 6, 7, 8, 9, 10, 11, 12, 13, 14, 15, 16, 17, 18, 19, 20, 21, 22, 23, 24, 25, 26, 27, 28, 29, 30, 31, 32] hP hD hK hN hS hA (by decide) rfl 0 rfl rfl) rfl rfl hl.1 rfl (lv_room (Nat.le_of_ble_eq_true rfl)) dM_L_define_3 ⟨Nat.le_of_ble_eq_true rfl, Nat.le_of_ble_eq_true rfl⟩) hS (fun q _ h => hFc q h) hFc (fun q _ h => hFc q h) (fun E ce q9 u t H1 locs ht hvm hpx hBX hz1 hk1 hS hq9 hcv hcl => ?_) (fun u t H1 locs ht hvm hw hB hz1 hk1 hS => ?_)
  · --
    obtain ⟨hP, hD⟩ := va_join (wr := []) (w1 := []) hP hD [0, 1, 2, 3, 4, 5, 6, 7, 8, 9, 10, 11, 12, 13, 14, 15, 16, 17, 18, 19, 20, 21, 22, 23, 24, 25, 26, 27, 28, 29, 30, 31, 32] [] rfl rfl (by decide) (by decide) hk1 hFc nP0 nD0
    generalize H1 = H at hP hS hq9 ⊢
    have hP : va_P (dC, dI) classes [] H := hP
    have hD : va_D A [] := hD
    rcases hBX with ⟨rfl, c_2⟩ | ⟨rfl, c_3⟩
    · --
      refine vx_catch (own := "NoteDocumentLaw") (name := "java/lang/IllegalArgumentException") (E := "java/lang/IllegalArgumentException") hown [] ⟨0, 6, 9, 13⟩ [⟨0, 6, 12, 21⟩] (by rw [hTab]; rfl) (fun z hz => nomatch hz) (by decide) (by decide) (hbg _ wd_1023) (va_Nw.use rfl (hK.2.1 _ wx_1031)) hq9 hcv hcl ?_
      refine W.widen (k := 1) (n := 6) (Nat.le_of_ble_eq_true rfl) (Nat.le_of_ble_eq_true rfl) ?_
      refine lv_astore_n (lv' := [(3, .ref q9), (0, .ref h0), (1, .int p0), (2, .int p1)]) hx hb dM_L_define_9 rfl hl (by decide) rfl (fun ls hl => ?_)
      refine lv_iconst (v := 1) hx hb dM_L_define_10 (by decide) ?_
      exact W.iret (v := 1) hx hb hr (fun t ht hW => ⟨⟨1, (), rfl, (Or.inr (Or.inl ⟨c_2, rfl⟩)), trivial⟩, hS.F ht⟩) hS.2.2 dM_L_define_11
    · --
      refine vx_catch (own := "NoteDocumentLaw") (name := "java/lang/IndexOutOfBoundsException") (E := "java/lang/IndexOutOfBoundsException") hown [⟨0, 6, 9, 13⟩] ⟨0, 6, 12, 21⟩ [] (by rw [hTab]; rfl) (n_pcons (Or.inr ⟨by decide, "java/lang/IllegalArgumentException", (hbg _ wd_1023), hK.2.2.2.2⟩) (fun z hz => nomatch hz)) (by decide) (by decide) (hbg _ wd_1117) (va_Nw.use rfl (hK.2.1 _ wx_1128)) hq9 hcv hcl ?_
      refine W.widen (k := 1) (n := 6) (Nat.le_of_ble_eq_true rfl) (Nat.le_of_ble_eq_true rfl) ?_
      refine lv_astore_n (lv' := [(3, .ref q9), (0, .ref h0), (1, .int p0), (2, .int p1)]) hx hb dM_L_define_12 rfl hl (by decide) rfl (fun ls hl => ?_)
      refine lv_iconst (v := 2) hx hb dM_L_define_13 (by decide) ?_
      exact W.iret (v := 2) hx hb hr (fun t ht hW => ⟨⟨2, (), rfl, (Or.inr (Or.inr ⟨c_3, rfl⟩)), trivial⟩, hS.F ht⟩) hS.2.2 dM_L_define_14
  · --
    have c_4 : okFun p0 ∧ p1 = (-1) := hw
    obtain ⟨hP, hD⟩ := va_join (wr := []) (w1 := []) hP hD [0, 1, 2, 3, 4, 5, 6, 7, 8, 9, 10, 11, 12, 13, 14, 15, 16, 17, 18, 19, 20, 21, 22, 23, 24, 25, 26, 27, 28, 29, 30, 31, 32] [] rfl rfl (by decide) (by decide) hk1 hFc nP0 nD0
    generalize H1 = H at hP hS ⊢
    have hP : va_P (dC, dI) classes [] H := hP
    have hD : va_D A [] := hD
    refine W.widen (k := 1) (n := 6) (Nat.le_of_ble_eq_true rfl) (Nat.le_of_ble_eq_true rfl) ?_
    refine lv_goto (tgt := 15) hx hb dM_L_define_6 (by decide) ?_
    refine lv_iconst (v := 0) hx hb dM_L_define_15 (by decide) ?_
    exact W.iret (v := 0) hx hb hr (fun t ht hW => ⟨⟨0, (), rfl, (Or.inl ⟨c_4, rfl⟩), trivial⟩, hS.F ht⟩) hS.2.2 dM_L_define_16
set_option maxHeartbeats 4000000 in
set_option maxRecDepth 100000 in
theorem c_L_note (l : Launch) (hl9 : l.stackTraces = false) (dC : Nat → ClassId) (dI : Nat → Nat → Nat) (h0 : Nat) (ou : Nat) (st : Nat) (v1 : Value) (v2 : Value) (v3 : Value) (v4 : Value) (v5 : Value) (v6 : Value) (v7 : Value) (v8 : Value) (v9 : Value) (v10 : Value) (w3 : Value) (w4 : Value) (w5 : Value) (w6 : Value) (w7 : Value) (w8 : Value) (w9 : Value) (w10 : Value) (w11 : Value) (w12 : Value) (w13 : Value) (w14 : Value) (w15 : Value) (w16 : Value) (w17 : Value) (w18 : Value) (w19 : Value) (f0 : Nat → Int64) (sz : Nat) : Met l yM_L_note (wmW yM_L_note cM_L_note 3 (some .int) [(0, 8, 11, 15)]) ({ frames := 140, cells := 0, slots := 0, locals := 2800 }) (nPc [.ref h0, .ref ou] (dC, dI) [(h0, .inr (0, [.ref st, v1, v2, v3, v4, v5, v6, v7, v8, v9, v10])), (st, .inr (8, [.int 0, .int 0, .int 0, w3, w4, w5, w6, w7, w8, w9, w10, w11, w12, w13, w14, w15, w16, w17, w18, w19])), (ou, .inl (dC 101, 1, .inr (.inl f0)))] sz) (va_Qi (fun (r : Int32) (u : Nat → Int64) => r = 0 ∧ u = vp_updL f0 (0 : Int32).toNatClampNeg 0) (fun (u : Nat → Int64) t => nB (dC, dI) (va_A [(h0, .inr (0, [.ref st, v1, v2, v3, v4, v5, v6, v7, v8, v9, v10])), (st, .inr (8, [.int 0, .int 0, .int 0, w3, w4, w5, w6, w7, w8, w9, w10, w11, w12, w13, w14, w15, w16, w17, w18, w19])), (ou, .inl (dC 101, 1, .inr (.inl f0)))] sz) [(ou, .inl (dC 101, 1, .inr (.inl u)))] t) (va_A [(h0, .inr (0, [.ref st, v1, v2, v3, v4, v5, v6, v7, v8, v9, v10])), (st, .inr (8, [.int 0, .int 0, .int 0, w3, w4, w5, w6, w7, w8, w9, w10, w11, w12, w13, w14, w15, w16, w17, w18, w19])), (ou, .inl (dC 101, 1, .inr (.inl f0)))] sz)) 0 0 (va_A [(h0, .inr (0, [.ref st, v1, v2, v3, v4, v5, v6, v7, v8, v9, v10])), (st, .inr (8, [.int 0, .int 0, .int 0, w3, w4, w5, w6, w7, w8, w9, w10, w11, w12, w13, w14, w15, w16, w17, w18, w19])), (ou, .inl (dC 101, 1, .inr (.inl f0)))] sz) := by
  refine va_MetW (cc := cM_L_note) (maxL := 3) (ret := (some .int)) (by decide) rfl ?_
  intro p e s m args below meth c s₁ B hml hv
  obtain ⟨rfl, hsz, hP, hD0, hK, hN⟩ := hv
  have hx := B.exec
  have hb := B.bytes
  have hr := B.returns
  have hbg : ∀ w ∈ BIG, w.before ([.ref h0, .ref ou] : List Value).toArray s = true := fun w h => atoms_spec (ws := (wmW yM_L_note cM_L_note 3 (some .int) [(0, 8, 11, 15)])) B.pre w (List.mem_cons_of_mem _ h)
  have hown : s.vm.findClass "NoteDocumentLaw" = some m.cls := findClass_of_methodNamed B.named
  have hlocks := B.notSynchronized
  have hTab : c.exceptionTable.toList = tableOf [(0, 8, 11, 15)] := vx_table (x := yM_L_note) B (atoms_spec (ws := (wmW yM_L_note cM_L_note 3 (some .int) [(0, 8, 11, 15)])) B.pre _ List.mem_cons_self)
  subst hsz
  have hD := hD0.self (sz := s.heap.size)
  generalize hAe : va_A [(h0, .inr (0, [.ref st, v1, v2, v3, v4, v5, v6, v7, v8, v9, v10])), (st, .inr (8, [.int 0, .int 0, .int 0, w3, w4, w5, w6, w7, w8, w9, w10, w11, w12, w13, w14, w15, w16, w17, w18, w19])), (ou, .inl (dC 101, 1, .inr (.inl f0)))] s.heap.size = A at hD hN ⊢
  have hA : ∀ q : Nat, s.heap.size ≤ q → A q := fun q h => by rw [← hAe]; exact Or.inr h
  have hS : va_S A s.heap s.heap [] := va_S.rf
  have hP : va_P (dC, dI) classes [(h0, .inr (0, [.ref st, v1, v2, v3, v4, v5, v6, v7, v8, v9, v10])), (st, .inr (8, [.int 0, .int 0, .int 0, w3, w4, w5, w6, w7, w8, w9, w10, w11, w12, w13, w14, w15, w16, w17, w18, w19])), (ou, .inl (dC 101, 1, .inr (.inl f0)))] s.heap := hP
  have hl := lv_entry ([.ref h0, .ref ou] : List Value) (n := 3) (Nat.le_of_ble_eq_true rfl)
  rw [lg_entry_eq]
  generalize (lg_sl ([.ref h0, .ref ou] : List Value) ++ List.replicate (3 - (lg_sl ([.ref h0, .ref ou] : List Value)).length) Slot.unset).toArray = ls at hl ⊢
  have hl : lv_has ls 3 [(0, .ref h0), (1, .ref ou)] := hl
  refine lv_aload_n hx hb dM_L_note_0 rfl (lv_at hl 1 rfl) ?_
  refine lv_iconst (v := 0) hx hb dM_L_note_1 (by decide) ?_
  refine lv_aload_n hx hb dM_L_note_2 rfl (lv_at hl 0 rfl) ?_
  have hFc := va_free (wc := [(h0, .inr (0, [.ref st, v1, v2, v3, v4, v5, v6, v7, v8, v9, v10])), (st, .inr (8, [.int 0, .int 0, .int 0, w3, w4, w5, w6, w7, w8, w9, w10, w11, w12, w13, w14, w15, w16, w17, w18, w19]))]) hD hS hA [0, 1] rfl
  refine va_calli (va_runV (As := []) (rest := [.int 0, .ref ou]) ⟨hx, hb, hml, hown, hbg⟩ (c_D_note l dC dI h0 st v1 v2 v3 v4 v5 v6 v7 v8 v9 v10 w3 w4 w5 w6 w7 w8 w9 w10 w11 w12 w13 w14 w15 w16 w17 w18 w19 _ ) (cwV 0 hbg (gd_V (fun _ h => h) wd_1322 wd_1323 wd_1324 wd_1 (gd_wm (fun _ h => h) wd_1325)) rfl rfl rfl (by decide +kernel) ⟨Nat.le_of_ble_eq_true rfl, Nat.le_of_ble_eq_true rfl⟩) (nPreV [0, 1] hP hD hK hN hS hA (by decide) rfl 0 rfl rfl) rfl rfl hl.1 rfl (lv_room (Nat.le_of_ble_eq_true rfl)) dM_L_note_3 ⟨Nat.le_of_ble_eq_true rfl, Nat.le_of_ble_eq_true rfl⟩) hS (fun q _ h => hFc q h) hFc (fun r_1 u t H1 locs ht hvm hw hB hz1 hk1 hS => ?_)
  obtain rfl := hw
  obtain ⟨hP, hD⟩ := va_join (wr := [(ou, .inl (dC 101, 1, .inr (.inl f0)))]) (w1 := []) hP hD [0, 1] [2] rfl rfl (by decide) (by decide) hk1 hFc nP0 nD0
  generalize H1 = H at hP hS ⊢
  have hP : va_P (dC, dI) classes [(ou, .inl (dC 101, 1, .inr (.inl f0)))] H := hP
  have hD : va_D A [(ou, .inl (dC 101, 1, .inr (.inl f0)))] := hD
  refine W.widen (k := 0) (n := 0) (Nat.le_of_ble_eq_true rfl) (Nat.le_of_ble_eq_true rfl) ?_
  refine lv_i2l (v := 0) hx hb dM_L_note_6 (by decide) ?_
  refine va_last hx hb hK.1 hP hD hS 0 1 rfl rfl (by unfold vp_in; decide) dM_L_note_7 (fun H locs hP hD hS => ?_)
  have hP : va_P (dC, dI) classes [(ou, .inl (dC 101, 1, .inr (.inl (vp_updL f0 (0 : Int32).toNatClampNeg 0))))] H := hP
  have hD : va_D A [(ou, .inl (dC 101, 1, .inr (.inl (vp_updL f0 (0 : Int32).toNatClampNeg 0))))] := hD
  refine lv_goto (tgt := 14) hx hb dM_L_note_8 (by decide) ?_
  refine lv_iconst (v := 0) hx hb dM_L_note_14 (by decide) ?_
  have hP9 := hP.pick (wc := [(ou, .inl (dC 101, 1, .inr (.inl (vp_updL f0 (0 : Int32).toNatClampNeg 0))))]) [0] rfl
  have hD9 := hD.sub (ws' := [(ou, .inl (dC 101, 1, .inr (.inl (vp_updL f0 (0 : Int32).toNatClampNeg 0))))]) [0] (by decide) rfl
  exact W.iret (v := 0) hx hb hr (fun t ht hW => ⟨⟨0, (vp_updL f0 (0 : Int32).toNatClampNeg 0), rfl, ⟨rfl, rfl⟩, ⟨(by rw [ht]; exact hP9), hD9⟩⟩, hS.F ht⟩) hS.2.2 dM_L_note_15
set_option maxHeartbeats 4000000 in
set_option maxRecDepth 100000 in
theorem c_L_say (l : Launch) (hl9 : l.stackTraces = false) (dC : Nat → ClassId) (dI : Nat → Nat → Nat) (h0 : Nat) (p0 : Int32) (p1 : Int32) (ou : Nat) (st : Nat) (v1 : Value) (v2 : Value) (v3 : Value) (v4 : Value) (v5 : Value) (v6 : Value) (v7 : Value) (v8 : Value) (v9 : Value) (v10 : Value) (w3 : Value) (w4 : Value) (w5 : Value) (w6 : Value) (w7 : Value) (w8 : Value) (w9 : Value) (w10 : Value) (w11 : Value) (w12 : Value) (w13 : Value) (w14 : Value) (w15 : Value) (w16 : Value) (w17 : Value) (w18 : Value) (w19 : Value) (f0 : Nat → Int64) (sz : Nat) : Met l yM_L_say (wmW yM_L_say cM_L_say 5 (some .int) [(0, 10, 13, 21), (0, 10, 17, 13), (0, 10, 21, 15)]) ({ frames := 140, cells := 1, slots := 6, locals := 2800 }) (nPc [.ref h0, .int p0, .int p1, .ref ou] (dC, dI) [(h0, .inr (0, [.ref st, v1, v2, v3, v4, v5, v6, v7, v8, v9, v10])), (st, .inr (8, [.int 0, .int 0, .int 0, w3, w4, w5, w6, w7, w8, w9, w10, w11, w12, w13, w14, w15, w16, w17, w18, w19])), (ou, .inl (dC 101, 1, .inr (.inl f0)))] sz) (va_Qi (fun (r : Int32) (u : Nat → Int64) => r = 1 ∧ u = f0) (fun (u : Nat → Int64) t => nB (dC, dI) (va_A [(h0, .inr (0, [.ref st, v1, v2, v3, v4, v5, v6, v7, v8, v9, v10])), (st, .inr (8, [.int 0, .int 0, .int 0, w3, w4, w5, w6, w7, w8, w9, w10, w11, w12, w13, w14, w15, w16, w17, w18, w19])), (ou, .inl (dC 101, 1, .inr (.inl f0)))] sz) [(ou, .inl (dC 101, 1, .inr (.inl u)))] t) (va_A [(h0, .inr (0, [.ref st, v1, v2, v3, v4, v5, v6, v7, v8, v9, v10])), (st, .inr (8, [.int 0, .int 0, .int 0, w3, w4, w5, w6, w7, w8, w9, w10, w11, w12, w13, w14, w15, w16, w17, w18, w19])), (ou, .inl (dC 101, 1, .inr (.inl f0)))] sz)) 1 6 (va_A [(h0, .inr (0, [.ref st, v1, v2, v3, v4, v5, v6, v7, v8, v9, v10])), (st, .inr (8, [.int 0, .int 0, .int 0, w3, w4, w5, w6, w7, w8, w9, w10, w11, w12, w13, w14, w15, w16, w17, w18, w19])), (ou, .inl (dC 101, 1, .inr (.inl f0)))] sz) := by
  refine va_MetW (cc := cM_L_say) (maxL := 5) (ret := (some .int)) (by decide) rfl ?_
  intro p e s m args below meth c s₁ B hml hv
  obtain ⟨rfl, hsz, hP, hD0, hK, hN⟩ := hv
  have hx := B.exec
  have hb := B.bytes
  have hr := B.returns
  have hbg : ∀ w ∈ BIG, w.before ([.ref h0, .int p0, .int p1, .ref ou] : List Value).toArray s = true := fun w h => atoms_spec (ws := (wmW yM_L_say cM_L_say 5 (some .int) [(0, 10, 13, 21), (0, 10, 17, 13), (0, 10, 21, 15)])) B.pre w (List.mem_cons_of_mem _ h)
  have hown : s.vm.findClass "NoteDocumentLaw" = some m.cls := findClass_of_methodNamed B.named
  have hlocks := B.notSynchronized
  have hTab : c.exceptionTable.toList = tableOf [(0, 10, 13, 21), (0, 10, 17, 13), (0, 10, 21, 15)] := vx_table (x := yM_L_say) B (atoms_spec (ws := (wmW yM_L_say cM_L_say 5 (some .int) [(0, 10, 13, 21), (0, 10, 17, 13), (0, 10, 21, 15)])) B.pre _ List.mem_cons_self)
  subst hsz
  have hD := hD0.self (sz := s.heap.size)
  generalize hAe : va_A [(h0, .inr (0, [.ref st, v1, v2, v3, v4, v5, v6, v7, v8, v9, v10])), (st, .inr (8, [.int 0, .int 0, .int 0, w3, w4, w5, w6, w7, w8, w9, w10, w11, w12, w13, w14, w15, w16, w17, w18, w19])), (ou, .inl (dC 101, 1, .inr (.inl f0)))] s.heap.size = A at hD hN ⊢
  have hA : ∀ q : Nat, s.heap.size ≤ q → A q := fun q h => by rw [← hAe]; exact Or.inr h
  have hS : va_S A s.heap s.heap [] := va_S.rf
  have hP : va_P (dC, dI) classes [(h0, .inr (0, [.ref st, v1, v2, v3, v4, v5, v6, v7, v8, v9, v10])), (st, .inr (8, [.int 0, .int 0, .int 0, w3, w4, w5, w6, w7, w8, w9, w10, w11, w12, w13, w14, w15, w16, w17, w18, w19])), (ou, .inl (dC 101, 1, .inr (.inl f0)))] s.heap := hP
  have hl := lv_entry ([.ref h0, .int p0, .int p1, .ref ou] : List Value) (n := 5) (Nat.le_of_ble_eq_true rfl)
  rw [lg_entry_eq]
  generalize (lg_sl ([.ref h0, .int p0, .int p1, .ref ou] : List Value) ++ List.replicate (5 - (lg_sl ([.ref h0, .int p0, .int p1, .ref ou] : List Value)).length) Slot.unset).toArray = ls at hl ⊢
  have hl : lv_has ls 5 [(0, .ref h0), (1, .int p0), (2, .int p1), (3, .ref ou)] := hl
  refine lv_aload_n hx hb dM_L_say_0 rfl (lv_at hl 3 rfl) ?_
  refine lv_iconst (v := 0) hx hb dM_L_say_1 (by decide) ?_
  refine lv_aload_n hx hb dM_L_say_2 rfl (lv_at hl 0 rfl) ?_
  refine lv_iload_n hx hb dM_L_say_3 rfl (lv_at hl 1 rfl) ?_
  refine lv_iload_n hx hb dM_L_say_4 rfl (lv_at hl 2 rfl) ?_
  have hFc := va_free (wc := [(h0, .inr (0, [.ref st, v1, v2, v3, v4, v5, v6, v7, v8, v9, v10])), (st, .inr (8, [.int 0, .int 0, .int 0, w3, w4, w5, w6, w7, w8, w9, w10, w11, w12, w13, w14, w15, w16, w17, w18, w19]))]) hD hS hA [0, 1] rfl
  refine vx_calli (vx_runV (As := [.int p0, .int p1]) (rest := [.int 0, .ref ou]) ⟨hx, hb, hml, hown, hbg⟩ (c_D_say l hl9 dC dI h0 p0 p1 st v1 v2 v3 v4 v5 v6 v7 v8 v9 v10 w3 w4 w5 w6 w7 w8 w9 w10 w11 w12 w13 w14 w15 w16 w17 w18 w19 _ ) (cwV 2 hbg (gd_V (fun _ h => h) wd_1330 wd_1331 wd_1332 wd_1 (gd_wm (fun _ h => h) wd_1333)) rfl rfl rfl (by decide +kernel) ⟨Nat.le_of_ble_eq_true rfl, Nat.le_of_ble_eq_true rfl⟩) (nPreV [0, 1] hP hD hK hN hS hA (by decide) rfl 0 rfl rfl) rfl rfl hl.1 rfl (lv_room (Nat.le_of_ble_eq_true rfl)) dM_L_say_5 ⟨Nat.le_of_ble_eq_true rfl, Nat.le_of_ble_eq_true rfl⟩) hS (fun q _ h => hFc q h) hFc (fun q _ h => hFc q h) (fun E ce q9 u t H1 locs ht hvm hpx hBX hz1 hk1 hS hq9 hcv hcl => ?_) (fun r_1 u t H1 locs ht hvm hw hB hz1 hk1 hS => ?_)
  · --
    obtain ⟨hP, hD⟩ := va_join (wr := [(ou, .inl (dC 101, 1, .inr (.inl f0)))]) (w1 := []) hP hD [0, 1] [2] rfl rfl (by decide) (by decide) hk1 hFc nP0 nD0
    generalize H1 = H at hP hS hq9 ⊢
    have hP : va_P (dC, dI) classes [(ou, .inl (dC 101, 1, .inr (.inl f0)))] H := hP
    have hD : va_D A [(ou, .inl (dC 101, 1, .inr (.inl f0)))] := hD
    obtain rfl := hBX
    refine vx_catch (own := "NoteDocumentLaw") (name := "java/lang/IndexOutOfBoundsException") (E := "java/lang/IndexOutOfBoundsException") hown [] ⟨0, 10, 13, 21⟩ [⟨0, 10, 17, 13⟩, ⟨0, 10, 21, 15⟩] (by rw [hTab]; rfl) (fun z hz => nomatch hz) (by decide) (by decide) (hbg _ wd_1117) (va_Nw.use rfl (hK.2.1 _ wx_1128)) hq9 hcv hcl ?_
    refine W.widen (k := 1) (n := 6) (Nat.le_of_ble_eq_true rfl) (Nat.le_of_ble_eq_true rfl) ?_
    refine lv_astore (lv' := [(4, .ref q9), (0, .ref h0), (1, .int p0), (2, .int p1), (3, .ref ou)]) hx hb dM_L_say_13 hl (by decide) rfl (fun ls hl => ?_)
    refine lv_iconst (v := 1) hx hb dM_L_say_15 (by decide) ?_
    have hP9 := hP.pick (wc := [(ou, .inl (dC 101, 1, .inr (.inl f0)))]) [0] rfl
    have hD9 := hD.sub (ws' := [(ou, .inl (dC 101, 1, .inr (.inl f0)))]) [0] (by decide) rfl
    exact W.iret (v := 1) hx hb hr (fun t ht hW => ⟨⟨1, (f0), rfl, ⟨rfl, rfl⟩, ⟨(by rw [ht]; exact hP9), hD9⟩⟩, hS.F ht⟩) hS.2.2 dM_L_say_16
  · --
    exact hw.elim
set_option maxHeartbeats 4000000 in
set_option maxRecDepth 100000 in
theorem c_L_show (l : Launch) (hl9 : l.stackTraces = false) (dC : Nat → ClassId) (dI : Nat → Nat → Nat) (h0 : Nat) (p0 : Int32) (p1 : Int32) (p2 : Int32) (p3 : Int32) (p4 : Int32) (ou : Nat) (st : Nat) (v1 : Value) (v2 : Value) (v3 : Value) (v4 : Value) (v5 : Value) (v6 : Value) (v7 : Value) (v8 : Value) (v9 : Value) (v10 : Value) (w3 : Value) (w4 : Value) (w5 : Value) (w6 : Value) (w7 : Value) (w8 : Value) (w9 : Value) (w10 : Value) (w11 : Value) (w12 : Value) (w13 : Value) (w14 : Value) (w15 : Value) (w16 : Value) (w17 : Value) (w18 : Value) (w19 : Value) (f0 : Nat → Int64) (sz : Nat) : Met l yM_L_show (wmW yM_L_show cM_L_show 8 (some .int) [(0, 16, 19, 21), (0, 16, 23, 13), (0, 16, 27, 15)]) ({ frames := 140, cells := 1, slots := 6, locals := 2800 }) (nPc [.ref h0, .int p0, .int p1, .int p2, .int p3, .int p4, .ref ou] (dC, dI) [(h0, .inr (0, [.ref st, v1, v2, v3, v4, v5, v6, v7, v8, v9, v10])), (st, .inr (8, [.int 0, .int 0, .int 0, w3, w4, w5, w6, w7, w8, w9, w10, w11, w12, w13, w14, w15, w16, w17, w18, w19])), (ou, .inl (dC 101, 1, .inr (.inl f0)))] sz) (va_Qi (fun (r : Int32) (u : Nat → Int64) => r = 1 ∧ u = f0) (fun (u : Nat → Int64) t => nB (dC, dI) (va_A [(h0, .inr (0, [.ref st, v1, v2, v3, v4, v5, v6, v7, v8, v9, v10])), (st, .inr (8, [.int 0, .int 0, .int 0, w3, w4, w5, w6, w7, w8, w9, w10, w11, w12, w13, w14, w15, w16, w17, w18, w19])), (ou, .inl (dC 101, 1, .inr (.inl f0)))] sz) [(ou, .inl (dC 101, 1, .inr (.inl u)))] t) (va_A [(h0, .inr (0, [.ref st, v1, v2, v3, v4, v5, v6, v7, v8, v9, v10])), (st, .inr (8, [.int 0, .int 0, .int 0, w3, w4, w5, w6, w7, w8, w9, w10, w11, w12, w13, w14, w15, w16, w17, w18, w19])), (ou, .inl (dC 101, 1, .inr (.inl f0)))] sz)) 1 6 (va_A [(h0, .inr (0, [.ref st, v1, v2, v3, v4, v5, v6, v7, v8, v9, v10])), (st, .inr (8, [.int 0, .int 0, .int 0, w3, w4, w5, w6, w7, w8, w9, w10, w11, w12, w13, w14, w15, w16, w17, w18, w19])), (ou, .inl (dC 101, 1, .inr (.inl f0)))] sz) := by
  refine va_MetW (cc := cM_L_show) (maxL := 8) (ret := (some .int)) (by decide) rfl ?_
  intro p e s m args below meth c s₁ B hml hv
  obtain ⟨rfl, hsz, hP, hD0, hK, hN⟩ := hv
  have hx := B.exec
  have hb := B.bytes
  have hr := B.returns
  have hbg : ∀ w ∈ BIG, w.before ([.ref h0, .int p0, .int p1, .int p2, .int p3, .int p4, .ref ou] : List Value).toArray s = true := fun w h => atoms_spec (ws := (wmW yM_L_show cM_L_show 8 (some .int) [(0, 16, 19, 21), (0, 16, 23, 13), (0, 16, 27, 15)])) B.pre w (List.mem_cons_of_mem _ h)
  have hown : s.vm.findClass "NoteDocumentLaw" = some m.cls := findClass_of_methodNamed B.named
  have hlocks := B.notSynchronized
  have hTab : c.exceptionTable.toList = tableOf [(0, 16, 19, 21), (0, 16, 23, 13), (0, 16, 27, 15)] := vx_table (x := yM_L_show) B (atoms_spec (ws := (wmW yM_L_show cM_L_show 8 (some .int) [(0, 16, 19, 21), (0, 16, 23, 13), (0, 16, 27, 15)])) B.pre _ List.mem_cons_self)
  subst hsz
  have hD := hD0.self (sz := s.heap.size)
  generalize hAe : va_A [(h0, .inr (0, [.ref st, v1, v2, v3, v4, v5, v6, v7, v8, v9, v10])), (st, .inr (8, [.int 0, .int 0, .int 0, w3, w4, w5, w6, w7, w8, w9, w10, w11, w12, w13, w14, w15, w16, w17, w18, w19])), (ou, .inl (dC 101, 1, .inr (.inl f0)))] s.heap.size = A at hD hN ⊢
  have hA : ∀ q : Nat, s.heap.size ≤ q → A q := fun q h => by rw [← hAe]; exact Or.inr h
  have hS : va_S A s.heap s.heap [] := va_S.rf
  have hP : va_P (dC, dI) classes [(h0, .inr (0, [.ref st, v1, v2, v3, v4, v5, v6, v7, v8, v9, v10])), (st, .inr (8, [.int 0, .int 0, .int 0, w3, w4, w5, w6, w7, w8, w9, w10, w11, w12, w13, w14, w15, w16, w17, w18, w19])), (ou, .inl (dC 101, 1, .inr (.inl f0)))] s.heap := hP
  have hl := lv_entry ([.ref h0, .int p0, .int p1, .int p2, .int p3, .int p4, .ref ou] : List Value) (n := 8) (Nat.le_of_ble_eq_true rfl)
  rw [lg_entry_eq]
  generalize (lg_sl ([.ref h0, .int p0, .int p1, .int p2, .int p3, .int p4, .ref ou] : List Value) ++ List.replicate (8 - (lg_sl ([.ref h0, .int p0, .int p1, .int p2, .int p3, .int p4, .ref ou] : List Value)).length) Slot.unset).toArray = ls at hl ⊢
  have hl : lv_has ls 8 [(0, .ref h0), (1, .int p0), (2, .int p1), (3, .int p2), (4, .int p3), (5, .int p4), (6, .ref ou)] := hl
  refine lv_aload hx hb dM_L_show_0 (lv_at hl 6 rfl) ?_
  refine lv_iconst (v := 0) hx hb dM_L_show_2 (by decide) ?_
  refine lv_aload_n hx hb dM_L_show_3 rfl (lv_at hl 0 rfl) ?_
  refine lv_iload_n hx hb dM_L_show_4 rfl (lv_at hl 1 rfl) ?_
  refine lv_iload_n hx hb dM_L_show_5 rfl (lv_at hl 2 rfl) ?_
  refine lv_iload_n hx hb dM_L_show_6 rfl (lv_at hl 3 rfl) ?_
  refine lv_iload hx hb dM_L_show_7 (lv_at hl 4 rfl) ?_
  refine lv_iload hx hb dM_L_show_9 (lv_at hl 5 rfl) ?_
  have hFc := va_free (wc := [(h0, .inr (0, [.ref st, v1, v2, v3, v4, v5, v6, v7, v8, v9, v10])), (st, .inr (8, [.int 0, .int 0, .int 0, w3, w4, w5, w6, w7, w8, w9, w10, w11, w12, w13, w14, w15, w16, w17, w18, w19]))]) hD hS hA [0, 1] rfl
  refine vx_calli (vx_runV (As := [.int p0, .int p1, .int p2, .int p3, .int p4]) (rest := [.int 0, .ref ou]) ⟨hx, hb, hml, hown, hbg⟩ (c_D_show l hl9 dC dI h0 p0 p1 p2 p3 p4 st v1 v2 v3 v4 v5 v6 v7 v8 v9 v10 w3 w4 w5 w6 w7 w8 w9 w10 w11 w12 w13 w14 w15 w16 w17 w18 w19 _ ) (cwV 5 hbg (gd_V (fun _ h => h) wd_1352 wd_1353 wd_1354 wd_1 (gd_wm (fun _ h => h) wd_1355)) rfl rfl rfl (by decide +kernel) ⟨Nat.le_of_ble_eq_true rfl, Nat.le_of_ble_eq_true rfl⟩) (nPreV [0, 1] hP hD hK hN hS hA (by decide) rfl 0 rfl rfl) rfl rfl hl.1 rfl (lv_room (Nat.le_of_ble_eq_true rfl)) dM_L_show_11 ⟨Nat.le_of_ble_eq_true rfl, Nat.le_of_ble_eq_true rfl⟩) hS (fun q _ h => hFc q h) hFc (fun q _ h => hFc q h) (fun E ce q9 u t H1 locs ht hvm hpx hBX hz1 hk1 hS hq9 hcv hcl => ?_) (fun r_1 u t H1 locs ht hvm hw hB hz1 hk1 hS => ?_)
  · --
    obtain ⟨hP, hD⟩ := va_join (wr := [(ou, .inl (dC 101, 1, .inr (.inl f0)))]) (w1 := []) hP hD [0, 1] [2] rfl rfl (by decide) (by decide) hk1 hFc nP0 nD0
    generalize H1 = H at hP hS hq9 ⊢
    have hP : va_P (dC, dI) classes [(ou, .inl (dC 101, 1, .inr (.inl f0)))] H := hP
    have hD : va_D A [(ou, .inl (dC 101, 1, .inr (.inl f0)))] := hD
    obtain rfl := hBX
    refine vx_catch (own := "NoteDocumentLaw") (name := "java/lang/IndexOutOfBoundsException") (E := "java/lang/IndexOutOfBoundsException") hown [] ⟨0, 16, 19, 21⟩ [⟨0, 16, 23, 13⟩, ⟨0, 16, 27, 15⟩] (by rw [hTab]; rfl) (fun z hz => nomatch hz) (by decide) (by decide) (hbg _ wd_1117) (va_Nw.use rfl (hK.2.1 _ wx_1128)) hq9 hcv hcl ?_
    refine W.widen (k := 1) (n := 6) (Nat.le_of_ble_eq_true rfl) (Nat.le_of_ble_eq_true rfl) ?_
    refine lv_astore (lv' := [(7, .ref q9), (0, .ref h0), (1, .int p0), (2, .int p1), (3, .int p2), (4, .int p3), (5, .int p4), (6, .ref ou)]) hx hb dM_L_show_19 hl (by decide) rfl (fun ls hl => ?_)
    refine lv_iconst (v := 1) hx hb dM_L_show_21 (by decide) ?_
    have hP9 := hP.pick (wc := [(ou, .inl (dC 101, 1, .inr (.inl f0)))]) [0] rfl
    have hD9 := hD.sub (ws' := [(ou, .inl (dC 101, 1, .inr (.inl f0)))]) [0] (by decide) rfl
    exact W.iret (v := 1) hx hb hr (fun t ht hW => ⟨⟨1, (f0), rfl, ⟨rfl, rfl⟩, ⟨(by rw [ht]; exact hP9), hD9⟩⟩, hS.F ht⟩) hS.2.2 dM_L_show_22
  · --
    exact hw.elim
set_option maxHeartbeats 4000000 in
set_option maxRecDepth 100000 in
theorem c_L_tick (l : Launch) (hl9 : l.stackTraces = false) (dC : Nat → ClassId) (dI : Nat → Nat → Nat) (h0 : Nat) (p0 : Int32) (p1 : Int32) (ou : Nat) (st : Nat) (no : Nat) (ch : Nat) (he : Nat) (de : Nat) (fi : Nat) (v6 : Value) (kp : Nat) (a_columns : Nat) (a_rows : Nat) (a_content : Nat) (a_held : Nat) (a_other : Nat) (a_named : Nat) (a_body : Nat) (a_parts : Nat) (a_partCount : Nat) (a_refRow : Nat) (a_refColumn : Nat) (a_refToRow : Nat) (a_torn : Nat) (a_record : Nat) (g_columns : Nat → Int32) (g_rows : Nat → Int32) (g_content : Nat → Int64) (g_held : Nat → Int64) (g_other : Nat → Int64) (g_named : Nat → Int32) (g_body : Nat → Int32) (g_parts : Nat → Int32) (g_partCount : Nat → Int32) (g_refRow : Nat → Int32) (g_refColumn : Nat → Int32) (g_refToRow : Nat → Int32) (g_torn : Nat → Int32) (g_record : Nat → Int32) (gk : Nat → Option Nat) (k0 : Nat) (ak_columns : Nat) (ak_rows : Nat) (ak_content : Nat) (ak_held : Nat) (ak_other : Nat) (ak_named : Nat) (ak_body : Nat) (ak_parts : Nat) (ak_partCount : Nat) (ak_refRow : Nat) (ak_refColumn : Nat) (ak_refToRow : Nat) (ak_torn : Nat) (ak_record : Nat) (gk_columns : Nat → Int32) (gk_rows : Nat → Int32) (gk_content : Nat → Int64) (gk_held : Nat → Int64) (gk_other : Nat → Int64) (gk_named : Nat → Int32) (gk_body : Nat → Int32) (gk_parts : Nat → Int32) (gk_partCount : Nat → Int32) (gk_refRow : Nat → Int32) (gk_refColumn : Nat → Int32) (gk_refToRow : Nat → Int32) (gk_torn : Nat → Int32) (gk_record : Nat → Int32) (x2 : Value) (x4 : Value) (x6 : Value) (x7 : Value) (x8 : Value) (x9 : Value) (x10 : Value) (x11 : Value) (x12 : Value) (x13 : Value) (x14 : Value) (x15 : Value) (x16 : Value) (x17 : Value) (x18 : Value) (f0 : Nat → Int64) (sz : Nat) (hk0 : gk (0 : Int32).toNatClampNeg = some k0) : Met l yM_L_tick (wmW yM_L_tick cM_L_tick 5 (some .int) [(0, 10, 13, 13), (0, 10, 17, 15)]) ({ frames := 140, cells := 1, slots := 6, locals := 2800 }) (nPc [.ref h0, .int p0, .int p1, .ref ou] (dC, dI) [(h0, .inr (0, [.ref st, .ref no, .ref ch, .ref he, .ref de, .ref fi, v6, .ref kp, .int 0, .int 0, .int 0])), (st, .inr (8, [.int 0, .int 0, .int 0, .ref a_columns, .ref a_rows, .ref a_content, .ref a_held, .ref a_other, .ref a_named, .ref a_body, .ref a_parts, .ref a_partCount, .ref a_refRow, .ref a_refColumn, .ref a_refToRow, .ref a_torn, .ref a_record, .int 0, .int 0, .int 0])), (a_columns, .inl (dC 100, 4, .inl g_columns)), (a_rows, .inl (dC 100, 4, .inl g_rows)), (a_content, .inl (dC 101, 200, .inr (.inl g_content))), (a_held, .inl (dC 101, 200, .inr (.inl g_held))), (a_other, .inl (dC 101, 600, .inr (.inl g_other))), (a_named, .inl (dC 100, 6, .inl g_named)), (a_body, .inl (dC 100, 4, .inl g_body)), (a_parts, .inl (dC 100, 24, .inl g_parts)), (a_partCount, .inl (dC 100, 3, .inl g_partCount)), (a_refRow, .inl (dC 100, 150, .inl g_refRow)), (a_refColumn, .inl (dC 100, 150, .inl g_refColumn)), (a_refToRow, .inl (dC 100, 150, .inl g_refToRow)), (a_torn, .inl (dC 102, 150, .inl g_torn)), (a_record, .inl (dC 100, 885, .inl g_record)), (kp, .inl (dC 103, 5, .inr (.inr (.inr (.inr gk))))), (k0, .inr (8, [.int 0, .int 0, .int 0, .ref ak_columns, .ref ak_rows, .ref ak_content, .ref ak_held, .ref ak_other, .ref ak_named, .ref ak_body, .ref ak_parts, .ref ak_partCount, .ref ak_refRow, .ref ak_refColumn, .ref ak_refToRow, .ref ak_torn, .ref ak_record, .int 0, .int 0, .int 0])), (ak_columns, .inl (dC 100, 4, .inl gk_columns)), (ak_rows, .inl (dC 100, 4, .inl gk_rows)), (ak_content, .inl (dC 101, 200, .inr (.inl gk_content))), (ak_held, .inl (dC 101, 200, .inr (.inl gk_held))), (ak_other, .inl (dC 101, 600, .inr (.inl gk_other))), (ak_named, .inl (dC 100, 6, .inl gk_named)), (ak_body, .inl (dC 100, 4, .inl gk_body)), (ak_parts, .inl (dC 100, 24, .inl gk_parts)), (ak_partCount, .inl (dC 100, 3, .inl gk_partCount)), (ak_refRow, .inl (dC 100, 150, .inl gk_refRow)), (ak_refColumn, .inl (dC 100, 150, .inl gk_refColumn)), (ak_refToRow, .inl (dC 100, 150, .inl gk_refToRow)), (ak_torn, .inl (dC 102, 150, .inl gk_torn)), (ak_record, .inl (dC 100, 885, .inl gk_record)), (de, .inr (2, [.ref st, .ref he, x2, .int 1, x4, .int 0, x6, x7, x8, x9, x10, x11, x12, x13, x14, x15, x16, x17, x18])), (ou, .inl (dC 101, 1, .inr (.inl f0)))] sz) (va_Qi (fun (r : Int32) (u : Nat → Int64) => (okTick p0 p1 ∧ r = 0 ∧ u = vp_updL f0 (0 : Int32).toNatClampNeg 1) ∨ (¬ okTick p0 p1 ∧ r = 1 ∧ u = f0)) (fun (u : Nat → Int64) t => nB (dC, dI) (va_A [(h0, .inr (0, [.ref st, .ref no, .ref ch, .ref he, .ref de, .ref fi, v6, .ref kp, .int 0, .int 0, .int 0])), (st, .inr (8, [.int 0, .int 0, .int 0, .ref a_columns, .ref a_rows, .ref a_content, .ref a_held, .ref a_other, .ref a_named, .ref a_body, .ref a_parts, .ref a_partCount, .ref a_refRow, .ref a_refColumn, .ref a_refToRow, .ref a_torn, .ref a_record, .int 0, .int 0, .int 0])), (a_columns, .inl (dC 100, 4, .inl g_columns)), (a_rows, .inl (dC 100, 4, .inl g_rows)), (a_content, .inl (dC 101, 200, .inr (.inl g_content))), (a_held, .inl (dC 101, 200, .inr (.inl g_held))), (a_other, .inl (dC 101, 600, .inr (.inl g_other))), (a_named, .inl (dC 100, 6, .inl g_named)), (a_body, .inl (dC 100, 4, .inl g_body)), (a_parts, .inl (dC 100, 24, .inl g_parts)), (a_partCount, .inl (dC 100, 3, .inl g_partCount)), (a_refRow, .inl (dC 100, 150, .inl g_refRow)), (a_refColumn, .inl (dC 100, 150, .inl g_refColumn)), (a_refToRow, .inl (dC 100, 150, .inl g_refToRow)), (a_torn, .inl (dC 102, 150, .inl g_torn)), (a_record, .inl (dC 100, 885, .inl g_record)), (kp, .inl (dC 103, 5, .inr (.inr (.inr (.inr gk))))), (k0, .inr (8, [.int 0, .int 0, .int 0, .ref ak_columns, .ref ak_rows, .ref ak_content, .ref ak_held, .ref ak_other, .ref ak_named, .ref ak_body, .ref ak_parts, .ref ak_partCount, .ref ak_refRow, .ref ak_refColumn, .ref ak_refToRow, .ref ak_torn, .ref ak_record, .int 0, .int 0, .int 0])), (ak_columns, .inl (dC 100, 4, .inl gk_columns)), (ak_rows, .inl (dC 100, 4, .inl gk_rows)), (ak_content, .inl (dC 101, 200, .inr (.inl gk_content))), (ak_held, .inl (dC 101, 200, .inr (.inl gk_held))), (ak_other, .inl (dC 101, 600, .inr (.inl gk_other))), (ak_named, .inl (dC 100, 6, .inl gk_named)), (ak_body, .inl (dC 100, 4, .inl gk_body)), (ak_parts, .inl (dC 100, 24, .inl gk_parts)), (ak_partCount, .inl (dC 100, 3, .inl gk_partCount)), (ak_refRow, .inl (dC 100, 150, .inl gk_refRow)), (ak_refColumn, .inl (dC 100, 150, .inl gk_refColumn)), (ak_refToRow, .inl (dC 100, 150, .inl gk_refToRow)), (ak_torn, .inl (dC 102, 150, .inl gk_torn)), (ak_record, .inl (dC 100, 885, .inl gk_record)), (de, .inr (2, [.ref st, .ref he, x2, .int 1, x4, .int 0, x6, x7, x8, x9, x10, x11, x12, x13, x14, x15, x16, x17, x18])), (ou, .inl (dC 101, 1, .inr (.inl f0)))] sz) [(ou, .inl (dC 101, 1, .inr (.inl u)))] t) (va_A [(h0, .inr (0, [.ref st, .ref no, .ref ch, .ref he, .ref de, .ref fi, v6, .ref kp, .int 0, .int 0, .int 0])), (st, .inr (8, [.int 0, .int 0, .int 0, .ref a_columns, .ref a_rows, .ref a_content, .ref a_held, .ref a_other, .ref a_named, .ref a_body, .ref a_parts, .ref a_partCount, .ref a_refRow, .ref a_refColumn, .ref a_refToRow, .ref a_torn, .ref a_record, .int 0, .int 0, .int 0])), (a_columns, .inl (dC 100, 4, .inl g_columns)), (a_rows, .inl (dC 100, 4, .inl g_rows)), (a_content, .inl (dC 101, 200, .inr (.inl g_content))), (a_held, .inl (dC 101, 200, .inr (.inl g_held))), (a_other, .inl (dC 101, 600, .inr (.inl g_other))), (a_named, .inl (dC 100, 6, .inl g_named)), (a_body, .inl (dC 100, 4, .inl g_body)), (a_parts, .inl (dC 100, 24, .inl g_parts)), (a_partCount, .inl (dC 100, 3, .inl g_partCount)), (a_refRow, .inl (dC 100, 150, .inl g_refRow)), (a_refColumn, .inl (dC 100, 150, .inl g_refColumn)), (a_refToRow, .inl (dC 100, 150, .inl g_refToRow)), (a_torn, .inl (dC 102, 150, .inl g_torn)), (a_record, .inl (dC 100, 885, .inl g_record)), (kp, .inl (dC 103, 5, .inr (.inr (.inr (.inr gk))))), (k0, .inr (8, [.int 0, .int 0, .int 0, .ref ak_columns, .ref ak_rows, .ref ak_content, .ref ak_held, .ref ak_other, .ref ak_named, .ref ak_body, .ref ak_parts, .ref ak_partCount, .ref ak_refRow, .ref ak_refColumn, .ref ak_refToRow, .ref ak_torn, .ref ak_record, .int 0, .int 0, .int 0])), (ak_columns, .inl (dC 100, 4, .inl gk_columns)), (ak_rows, .inl (dC 100, 4, .inl gk_rows)), (ak_content, .inl (dC 101, 200, .inr (.inl gk_content))), (ak_held, .inl (dC 101, 200, .inr (.inl gk_held))), (ak_other, .inl (dC 101, 600, .inr (.inl gk_other))), (ak_named, .inl (dC 100, 6, .inl gk_named)), (ak_body, .inl (dC 100, 4, .inl gk_body)), (ak_parts, .inl (dC 100, 24, .inl gk_parts)), (ak_partCount, .inl (dC 100, 3, .inl gk_partCount)), (ak_refRow, .inl (dC 100, 150, .inl gk_refRow)), (ak_refColumn, .inl (dC 100, 150, .inl gk_refColumn)), (ak_refToRow, .inl (dC 100, 150, .inl gk_refToRow)), (ak_torn, .inl (dC 102, 150, .inl gk_torn)), (ak_record, .inl (dC 100, 885, .inl gk_record)), (de, .inr (2, [.ref st, .ref he, x2, .int 1, x4, .int 0, x6, x7, x8, x9, x10, x11, x12, x13, x14, x15, x16, x17, x18])), (ou, .inl (dC 101, 1, .inr (.inl f0)))] sz)) 1 6 (va_A [(h0, .inr (0, [.ref st, .ref no, .ref ch, .ref he, .ref de, .ref fi, v6, .ref kp, .int 0, .int 0, .int 0])), (st, .inr (8, [.int 0, .int 0, .int 0, .ref a_columns, .ref a_rows, .ref a_content, .ref a_held, .ref a_other, .ref a_named, .ref a_body, .ref a_parts, .ref a_partCount, .ref a_refRow, .ref a_refColumn, .ref a_refToRow, .ref a_torn, .ref a_record, .int 0, .int 0, .int 0])), (a_columns, .inl (dC 100, 4, .inl g_columns)), (a_rows, .inl (dC 100, 4, .inl g_rows)), (a_content, .inl (dC 101, 200, .inr (.inl g_content))), (a_held, .inl (dC 101, 200, .inr (.inl g_held))), (a_other, .inl (dC 101, 600, .inr (.inl g_other))), (a_named, .inl (dC 100, 6, .inl g_named)), (a_body, .inl (dC 100, 4, .inl g_body)), (a_parts, .inl (dC 100, 24, .inl g_parts)), (a_partCount, .inl (dC 100, 3, .inl g_partCount)), (a_refRow, .inl (dC 100, 150, .inl g_refRow)), (a_refColumn, .inl (dC 100, 150, .inl g_refColumn)), (a_refToRow, .inl (dC 100, 150, .inl g_refToRow)), (a_torn, .inl (dC 102, 150, .inl g_torn)), (a_record, .inl (dC 100, 885, .inl g_record)), (kp, .inl (dC 103, 5, .inr (.inr (.inr (.inr gk))))), (k0, .inr (8, [.int 0, .int 0, .int 0, .ref ak_columns, .ref ak_rows, .ref ak_content, .ref ak_held, .ref ak_other, .ref ak_named, .ref ak_body, .ref ak_parts, .ref ak_partCount, .ref ak_refRow, .ref ak_refColumn, .ref ak_refToRow, .ref ak_torn, .ref ak_record, .int 0, .int 0, .int 0])), (ak_columns, .inl (dC 100, 4, .inl gk_columns)), (ak_rows, .inl (dC 100, 4, .inl gk_rows)), (ak_content, .inl (dC 101, 200, .inr (.inl gk_content))), (ak_held, .inl (dC 101, 200, .inr (.inl gk_held))), (ak_other, .inl (dC 101, 600, .inr (.inl gk_other))), (ak_named, .inl (dC 100, 6, .inl gk_named)), (ak_body, .inl (dC 100, 4, .inl gk_body)), (ak_parts, .inl (dC 100, 24, .inl gk_parts)), (ak_partCount, .inl (dC 100, 3, .inl gk_partCount)), (ak_refRow, .inl (dC 100, 150, .inl gk_refRow)), (ak_refColumn, .inl (dC 100, 150, .inl gk_refColumn)), (ak_refToRow, .inl (dC 100, 150, .inl gk_refToRow)), (ak_torn, .inl (dC 102, 150, .inl gk_torn)), (ak_record, .inl (dC 100, 885, .inl gk_record)), (de, .inr (2, [.ref st, .ref he, x2, .int 1, x4, .int 0, x6, x7, x8, x9, x10, x11, x12, x13, x14, x15, x16, x17, x18])), (ou, .inl (dC 101, 1, .inr (.inl f0)))] sz) := by
  refine va_MetW (cc := cM_L_tick) (maxL := 5) (ret := (some .int)) (by decide) rfl ?_
  intro p e s m args below meth c s₁ B hml hv
  obtain ⟨rfl, hsz, hP, hD0, hK, hN⟩ := hv
  have hx := B.exec
  have hb := B.bytes
  have hr := B.returns
  have hbg : ∀ w ∈ BIG, w.before ([.ref h0, .int p0, .int p1, .ref ou] : List Value).toArray s = true := fun w h => atoms_spec (ws := (wmW yM_L_tick cM_L_tick 5 (some .int) [(0, 10, 13, 13), (0, 10, 17, 15)])) B.pre w (List.mem_cons_of_mem _ h)
  have hown : s.vm.findClass "NoteDocumentLaw" = some m.cls := findClass_of_methodNamed B.named
  have hlocks := B.notSynchronized
  have hTab : c.exceptionTable.toList = tableOf [(0, 10, 13, 13), (0, 10, 17, 15)] := vx_table (x := yM_L_tick) B (atoms_spec (ws := (wmW yM_L_tick cM_L_tick 5 (some .int) [(0, 10, 13, 13), (0, 10, 17, 15)])) B.pre _ List.mem_cons_self)
  subst hsz
  have hD := hD0.self (sz := s.heap.size)
  generalize hAe : va_A [(h0, .inr (0, [.ref st, .ref no, .ref ch, .ref he, .ref de, .ref fi, v6, .ref kp, .int 0, .int 0, .int 0])), (st, .inr (8, [.int 0, .int 0, .int 0, .ref a_columns, .ref a_rows, .ref a_content, .ref a_held, .ref a_other, .ref a_named, .ref a_body, .ref a_parts, .ref a_partCount, .ref a_refRow, .ref a_refColumn, .ref a_refToRow, .ref a_torn, .ref a_record, .int 0, .int 0, .int 0])), (a_columns, .inl (dC 100, 4, .inl g_columns)), (a_rows, .inl (dC 100, 4, .inl g_rows)), (a_content, .inl (dC 101, 200, .inr (.inl g_content))), (a_held, .inl (dC 101, 200, .inr (.inl g_held))), (a_other, .inl (dC 101, 600, .inr (.inl g_other))), (a_named, .inl (dC 100, 6, .inl g_named)), (a_body, .inl (dC 100, 4, .inl g_body)), (a_parts, .inl (dC 100, 24, .inl g_parts)), (a_partCount, .inl (dC 100, 3, .inl g_partCount)), (a_refRow, .inl (dC 100, 150, .inl g_refRow)), (a_refColumn, .inl (dC 100, 150, .inl g_refColumn)), (a_refToRow, .inl (dC 100, 150, .inl g_refToRow)), (a_torn, .inl (dC 102, 150, .inl g_torn)), (a_record, .inl (dC 100, 885, .inl g_record)), (kp, .inl (dC 103, 5, .inr (.inr (.inr (.inr gk))))), (k0, .inr (8, [.int 0, .int 0, .int 0, .ref ak_columns, .ref ak_rows, .ref ak_content, .ref ak_held, .ref ak_other, .ref ak_named, .ref ak_body, .ref ak_parts, .ref ak_partCount, .ref ak_refRow, .ref ak_refColumn, .ref ak_refToRow, .ref ak_torn, .ref ak_record, .int 0, .int 0, .int 0])), (ak_columns, .inl (dC 100, 4, .inl gk_columns)), (ak_rows, .inl (dC 100, 4, .inl gk_rows)), (ak_content, .inl (dC 101, 200, .inr (.inl gk_content))), (ak_held, .inl (dC 101, 200, .inr (.inl gk_held))), (ak_other, .inl (dC 101, 600, .inr (.inl gk_other))), (ak_named, .inl (dC 100, 6, .inl gk_named)), (ak_body, .inl (dC 100, 4, .inl gk_body)), (ak_parts, .inl (dC 100, 24, .inl gk_parts)), (ak_partCount, .inl (dC 100, 3, .inl gk_partCount)), (ak_refRow, .inl (dC 100, 150, .inl gk_refRow)), (ak_refColumn, .inl (dC 100, 150, .inl gk_refColumn)), (ak_refToRow, .inl (dC 100, 150, .inl gk_refToRow)), (ak_torn, .inl (dC 102, 150, .inl gk_torn)), (ak_record, .inl (dC 100, 885, .inl gk_record)), (de, .inr (2, [.ref st, .ref he, x2, .int 1, x4, .int 0, x6, x7, x8, x9, x10, x11, x12, x13, x14, x15, x16, x17, x18])), (ou, .inl (dC 101, 1, .inr (.inl f0)))] s.heap.size = A at hD hN ⊢
  have hA : ∀ q : Nat, s.heap.size ≤ q → A q := fun q h => by rw [← hAe]; exact Or.inr h
  have hS : va_S A s.heap s.heap [] := va_S.rf
  have hP : va_P (dC, dI) classes [(h0, .inr (0, [.ref st, .ref no, .ref ch, .ref he, .ref de, .ref fi, v6, .ref kp, .int 0, .int 0, .int 0])), (st, .inr (8, [.int 0, .int 0, .int 0, .ref a_columns, .ref a_rows, .ref a_content, .ref a_held, .ref a_other, .ref a_named, .ref a_body, .ref a_parts, .ref a_partCount, .ref a_refRow, .ref a_refColumn, .ref a_refToRow, .ref a_torn, .ref a_record, .int 0, .int 0, .int 0])), (a_columns, .inl (dC 100, 4, .inl g_columns)), (a_rows, .inl (dC 100, 4, .inl g_rows)), (a_content, .inl (dC 101, 200, .inr (.inl g_content))), (a_held, .inl (dC 101, 200, .inr (.inl g_held))), (a_other, .inl (dC 101, 600, .inr (.inl g_other))), (a_named, .inl (dC 100, 6, .inl g_named)), (a_body, .inl (dC 100, 4, .inl g_body)), (a_parts, .inl (dC 100, 24, .inl g_parts)), (a_partCount, .inl (dC 100, 3, .inl g_partCount)), (a_refRow, .inl (dC 100, 150, .inl g_refRow)), (a_refColumn, .inl (dC 100, 150, .inl g_refColumn)), (a_refToRow, .inl (dC 100, 150, .inl g_refToRow)), (a_torn, .inl (dC 102, 150, .inl g_torn)), (a_record, .inl (dC 100, 885, .inl g_record)), (kp, .inl (dC 103, 5, .inr (.inr (.inr (.inr gk))))), (k0, .inr (8, [.int 0, .int 0, .int 0, .ref ak_columns, .ref ak_rows, .ref ak_content, .ref ak_held, .ref ak_other, .ref ak_named, .ref ak_body, .ref ak_parts, .ref ak_partCount, .ref ak_refRow, .ref ak_refColumn, .ref ak_refToRow, .ref ak_torn, .ref ak_record, .int 0, .int 0, .int 0])), (ak_columns, .inl (dC 100, 4, .inl gk_columns)), (ak_rows, .inl (dC 100, 4, .inl gk_rows)), (ak_content, .inl (dC 101, 200, .inr (.inl gk_content))), (ak_held, .inl (dC 101, 200, .inr (.inl gk_held))), (ak_other, .inl (dC 101, 600, .inr (.inl gk_other))), (ak_named, .inl (dC 100, 6, .inl gk_named)), (ak_body, .inl (dC 100, 4, .inl gk_body)), (ak_parts, .inl (dC 100, 24, .inl gk_parts)), (ak_partCount, .inl (dC 100, 3, .inl gk_partCount)), (ak_refRow, .inl (dC 100, 150, .inl gk_refRow)), (ak_refColumn, .inl (dC 100, 150, .inl gk_refColumn)), (ak_refToRow, .inl (dC 100, 150, .inl gk_refToRow)), (ak_torn, .inl (dC 102, 150, .inl gk_torn)), (ak_record, .inl (dC 100, 885, .inl gk_record)), (de, .inr (2, [.ref st, .ref he, x2, .int 1, x4, .int 0, x6, x7, x8, x9, x10, x11, x12, x13, x14, x15, x16, x17, x18])), (ou, .inl (dC 101, 1, .inr (.inl f0)))] s.heap := hP
  have hl := lv_entry ([.ref h0, .int p0, .int p1, .ref ou] : List Value) (n := 5) (Nat.le_of_ble_eq_true rfl)
  rw [lg_entry_eq]
  generalize (lg_sl ([.ref h0, .int p0, .int p1, .ref ou] : List Value) ++ List.replicate (5 - (lg_sl ([.ref h0, .int p0, .int p1, .ref ou] : List Value)).length) Slot.unset).toArray = ls at hl ⊢
  have hl : lv_has ls 5 [(0, .ref h0), (1, .int p0), (2, .int p1), (3, .ref ou)] := hl
  refine lv_aload_n hx hb dM_L_tick_0 rfl (lv_at hl 3 rfl) ?_
  refine lv_iconst (v := 0) hx hb dM_L_tick_1 (by decide) ?_
  refine lv_aload_n hx hb dM_L_tick_2 rfl (lv_at hl 0 rfl) ?_
  refine lv_iload_n hx hb dM_L_tick_3 rfl (lv_at hl 1 rfl) ?_
  refine lv_iload_n hx hb dM_L_tick_4 rfl (lv_at hl 2 rfl) ?_
  have hFc := va_free (wc := [(h0, .inr (0, [.ref st, .ref no, .ref ch, .ref he, .ref de, .ref fi, v6, .ref kp, .int 0, .int 0, .int 0])), (st, .inr (8, [.int 0, .int 0, .int 0, .ref a_columns, .ref a_rows, .ref a_content, .ref a_held, .ref a_other, .ref a_named, .ref a_body, .ref a_parts, .ref a_partCount, .ref a_refRow, .ref a_refColumn, .ref a_refToRow, .ref a_torn, .ref a_record, .int 0, .int 0, .int 0])), (a_columns, .inl (dC 100, 4, .inl g_columns)), (a_rows, .inl (dC 100, 4, .inl g_rows)), (a_content, .inl (dC 101, 200, .inr (.inl g_content))), (a_held, .inl (dC 101, 200, .inr (.inl g_held))), (a_other, .inl (dC 101, 600, .inr (.inl g_other))), (a_named, .inl (dC 100, 6, .inl g_named)), (a_body, .inl (dC 100, 4, .inl g_body)), (a_parts, .inl (dC 100, 24, .inl g_parts)), (a_partCount, .inl (dC 100, 3, .inl g_partCount)), (a_refRow, .inl (dC 100, 150, .inl g_refRow)), (a_refColumn, .inl (dC 100, 150, .inl g_refColumn)), (a_refToRow, .inl (dC 100, 150, .inl g_refToRow)), (a_torn, .inl (dC 102, 150, .inl g_torn)), (a_record, .inl (dC 100, 885, .inl g_record)), (kp, .inl (dC 103, 5, .inr (.inr (.inr (.inr gk))))), (k0, .inr (8, [.int 0, .int 0, .int 0, .ref ak_columns, .ref ak_rows, .ref ak_content, .ref ak_held, .ref ak_other, .ref ak_named, .ref ak_body, .ref ak_parts, .ref ak_partCount, .ref ak_refRow, .ref ak_refColumn, .ref ak_refToRow, .ref ak_torn, .ref ak_record, .int 0, .int 0, .int 0])), (ak_columns, .inl (dC 100, 4, .inl gk_columns)), (ak_rows, .inl (dC 100, 4, .inl gk_rows)), (ak_content, .inl (dC 101, 200, .inr (.inl gk_content))), (ak_held, .inl (dC 101, 200, .inr (.inl gk_held))), (ak_other, .inl (dC 101, 600, .inr (.inl gk_other))), (ak_named, .inl (dC 100, 6, .inl gk_named)), (ak_body, .inl (dC 100, 4, .inl gk_body)), (ak_parts, .inl (dC 100, 24, .inl gk_parts)), (ak_partCount, .inl (dC 100, 3, .inl gk_partCount)), (ak_refRow, .inl (dC 100, 150, .inl gk_refRow)), (ak_refColumn, .inl (dC 100, 150, .inl gk_refColumn)), (ak_refToRow, .inl (dC 100, 150, .inl gk_refToRow)), (ak_torn, .inl (dC 102, 150, .inl gk_torn)), (ak_record, .inl (dC 100, 885, .inl gk_record)), (de, .inr (2, [.ref st, .ref he, x2, .int 1, x4, .int 0, x6, x7, x8, x9, x10, x11, x12, x13, x14, x15, x16, x17, x18]))]) hD hS hA [0, 1, 2, 3, 4, 5, 6, 7, 8, 9, 10, 11, 12, 13, 14, 15, 16, 17, 18, 19, 20, 21, 22, 23, 24, 25, 26, 27, 28, 29, 30, 31, 32] rfl
  refine vx_calli (vx_runV (As := [.int p0, .int p1]) (rest := [.int 0, .ref ou]) ⟨hx, hb, hml, hown, hbg⟩ (c_D_tick l hl9 dC dI h0 p0 p1 st no ch he de fi v6 kp a_columns a_rows a_content a_held a_other a_named a_body a_parts a_partCount a_refRow a_refColumn a_refToRow a_torn a_record g_columns g_rows g_content g_held g_other g_named g_body g_parts g_partCount g_refRow g_refColumn g_refToRow g_torn g_record gk k0 ak_columns ak_rows ak_content ak_held ak_other ak_named ak_body ak_parts ak_partCount ak_refRow ak_refColumn ak_refToRow ak_torn ak_record gk_columns gk_rows gk_content gk_held gk_other gk_named gk_body gk_parts gk_partCount gk_refRow gk_refColumn gk_refToRow gk_torn gk_record x2 x4 x6 x7 x8 x9 x10 x11 x12 x13 x14 x15 x16 x17 x18 _ (hk0)) (cwV 2 hbg (gd_V (fun _ h => h) wd_1360 wd_1361 wd_1362 wd_1 (gd_wm (fun _ h => h) wd_1363)) rfl rfl rfl (by decide +kernel) ⟨Nat.le_of_ble_eq_true rfl, Nat.le_of_ble_eq_true rfl⟩) (nPreV [0, 1, 2, 3, 4, 5, 6, 7, 8, 9, 10, 11, 12, 13, 14, 15, 16, 17, 18, 19, 20, 21, 22, 23, 24, 25, 26, 27, 28, 29, 30, 31, 32] hP hD hK hN hS hA (by decide) rfl 0 rfl rfl) rfl rfl hl.1 rfl (lv_room (Nat.le_of_ble_eq_true rfl)) dM_L_tick_5 ⟨Nat.le_of_ble_eq_true rfl, Nat.le_of_ble_eq_true rfl⟩) hS (fun q _ h => hFc q h) hFc (fun q _ h => hFc q h) (fun E ce q9 u t H1 locs ht hvm hpx hBX hz1 hk1 hS hq9 hcv hcl => ?_) (fun r_1 u t H1 locs ht hvm hw hB hz1 hk1 hS => ?_)
  · --
    obtain ⟨hP, hD⟩ := va_join (wr := [(ou, .inl (dC 101, 1, .inr (.inl f0)))]) (w1 := []) hP hD [0, 1, 2, 3, 4, 5, 6, 7, 8, 9, 10, 11, 12, 13, 14, 15, 16, 17, 18, 19, 20, 21, 22, 23, 24, 25, 26, 27, 28, 29, 30, 31, 32] [33] rfl rfl (by decide) (by decide) hk1 hFc nP0 nD0
    generalize H1 = H at hP hS hq9 ⊢
    have hP : va_P (dC, dI) classes [(ou, .inl (dC 101, 1, .inr (.inl f0)))] H := hP
    have hD : va_D A [(ou, .inl (dC 101, 1, .inr (.inl f0)))] := hD
    obtain ⟨rfl, c_2⟩ := hBX
    refine vx_catch (own := "NoteDocumentLaw") (name := "java/lang/IllegalArgumentException") (E := "java/lang/IllegalArgumentException") hown [] ⟨0, 10, 13, 13⟩ [⟨0, 10, 17, 15⟩] (by rw [hTab]; rfl) (fun z hz => nomatch hz) (by decide) (by decide) (hbg _ wd_1023) (va_Nw.use rfl (hK.2.1 _ wx_1031)) hq9 hcv hcl ?_
    refine W.widen (k := 1) (n := 6) (Nat.le_of_ble_eq_true rfl) (Nat.le_of_ble_eq_true rfl) ?_
    refine lv_astore (lv' := [(4, .ref q9), (0, .ref h0), (1, .int p0), (2, .int p1), (3, .ref ou)]) hx hb dM_L_tick_13 hl (by decide) rfl (fun ls hl => ?_)
    refine lv_iconst (v := 1) hx hb dM_L_tick_15 (by decide) ?_
    have hP9 := hP.pick (wc := [(ou, .inl (dC 101, 1, .inr (.inl f0)))]) [0] rfl
    have hD9 := hD.sub (ws' := [(ou, .inl (dC 101, 1, .inr (.inl f0)))]) [0] (by decide) rfl
    exact W.iret (v := 1) hx hb hr (fun t ht hW => ⟨⟨1, (f0), rfl, (Or.inr ⟨c_2, rfl, rfl⟩), ⟨(by rw [ht]; exact hP9), hD9⟩⟩, hS.F ht⟩) hS.2.2 dM_L_tick_16
  · --
    obtain ⟨c_3, rfl⟩ := hw
    obtain ⟨hP, hD⟩ := va_join (wr := [(ou, .inl (dC 101, 1, .inr (.inl f0)))]) (w1 := []) hP hD [0, 1, 2, 3, 4, 5, 6, 7, 8, 9, 10, 11, 12, 13, 14, 15, 16, 17, 18, 19, 20, 21, 22, 23, 24, 25, 26, 27, 28, 29, 30, 31, 32] [33] rfl rfl (by decide) (by decide) hk1 hFc nP0 nD0
    generalize H1 = H at hP hS ⊢
    have hP : va_P (dC, dI) classes [(ou, .inl (dC 101, 1, .inr (.inl f0)))] H := hP
    have hD : va_D A [(ou, .inl (dC 101, 1, .inr (.inl f0)))] := hD
    refine W.widen (k := 1) (n := 6) (Nat.le_of_ble_eq_true rfl) (Nat.le_of_ble_eq_true rfl) ?_
    refine lv_i2l (v := 1) hx hb dM_L_tick_8 (by decide) ?_
    refine va_last hx hb hK.1 hP hD hS 0 1 rfl rfl (by unfold vp_in; decide) dM_L_tick_9 (fun H locs hP hD hS => ?_)
    have hP : va_P (dC, dI) classes [(ou, .inl (dC 101, 1, .inr (.inl (vp_updL f0 (0 : Int32).toNatClampNeg 1))))] H := hP
    have hD : va_D A [(ou, .inl (dC 101, 1, .inr (.inl (vp_updL f0 (0 : Int32).toNatClampNeg 1))))] := hD
    refine lv_goto (tgt := 21) hx hb dM_L_tick_10 (by decide) ?_
    refine lv_iconst (v := 0) hx hb dM_L_tick_21 (by decide) ?_
    have hP9 := hP.pick (wc := [(ou, .inl (dC 101, 1, .inr (.inl (vp_updL f0 (0 : Int32).toNatClampNeg 1))))]) [0] rfl
    have hD9 := hD.sub (ws' := [(ou, .inl (dC 101, 1, .inr (.inl (vp_updL f0 (0 : Int32).toNatClampNeg 1))))]) [0] (by decide) rfl
    exact W.iret (v := 0) hx hb hr (fun t ht hW => ⟨⟨0, (vp_updL f0 (0 : Int32).toNatClampNeg 1), rfl, (Or.inl ⟨c_3, rfl, rfl⟩), ⟨(by rw [ht]; exact hP9), hD9⟩⟩, hS.F ht⟩) hS.2.2 dM_L_tick_22
set_option maxHeartbeats 4000000 in
set_option maxRecDepth 100000 in
theorem c_L_setWay (l : Launch) (hl9 : l.stackTraces = false) (dC : Nat → ClassId) (dI : Nat → Nat → Nat) (h0 : Nat) (p0 : Int32) (ou : Nat) (st : Nat) (no : Nat) (ch : Nat) (he : Nat) (de : Nat) (fi : Nat) (v6 : Value) (kp : Nat) (aw : Nat) (gw : Nat → Int64) (ac_cell : Nat) (ac_behind : Nat) (ac_size : Nat) (ac_nextLikely : Nat) (ac_firstLikely : Nat) (gc : Nat → Int32) (a_columns : Nat) (a_rows : Nat) (a_content : Nat) (a_held : Nat) (a_other : Nat) (a_named : Nat) (a_body : Nat) (a_parts : Nat) (a_partCount : Nat) (a_refRow : Nat) (a_refColumn : Nat) (a_refToRow : Nat) (a_torn : Nat) (a_record : Nat) (g_content : Nat → Int64) (f0 : Nat → Int64) (sz : Nat) (hcont : ∀ j, j < 200 → g_content j = 1125899906842624) : Met l yM_L_setWay (wmW yM_L_setWay cM_L_setWay 4 (some .int) [(0, 9, 12, 13)]) ({ frames := 140, cells := 1, slots := 6, locals := 2800 }) (nPc [.ref h0, .int p0, .ref ou] (dC, dI) [(h0, .inr (0, [.ref st, .ref no, .ref ch, .ref he, .ref de, .ref fi, v6, .ref kp, .int 0, .int 0, .int 0])), (he, .inr (4, [.ref aw, .int 1])), (aw, .inl (dC 101, 8192, .inr (.inl gw))), (ch, .inr (1, [.ref ac_cell, .ref ac_behind, .ref ac_size, .ref ac_nextLikely, .ref ac_firstLikely, .int (nI (200 + 1))])), (ac_cell, .inl (dC 100, 512, .inl gc)), (st, .inr (8, [.int 0, .int 0, .int 0, .ref a_columns, .ref a_rows, .ref a_content, .ref a_held, .ref a_other, .ref a_named, .ref a_body, .ref a_parts, .ref a_partCount, .ref a_refRow, .ref a_refColumn, .ref a_refToRow, .ref a_torn, .ref a_record, .int 0, .int 0, .int 0])), (a_content, .inl (dC 101, 200, .inr (.inl g_content))), (ou, .inl (dC 101, 1, .inr (.inl f0)))] sz) (va_Qi (fun (r : Int32) (u : Nat → Int64) => (okWay p0 ∧ r = 0 ∧ u = vp_updL f0 (0 : Int32).toNatClampNeg 0) ∨ (¬ okWay p0 ∧ r = 1 ∧ u = f0)) (fun (u : Nat → Int64) t => nB (dC, dI) (va_A [(h0, .inr (0, [.ref st, .ref no, .ref ch, .ref he, .ref de, .ref fi, v6, .ref kp, .int 0, .int 0, .int 0])), (he, .inr (4, [.ref aw, .int 1])), (aw, .inl (dC 101, 8192, .inr (.inl gw))), (ch, .inr (1, [.ref ac_cell, .ref ac_behind, .ref ac_size, .ref ac_nextLikely, .ref ac_firstLikely, .int (nI (200 + 1))])), (ac_cell, .inl (dC 100, 512, .inl gc)), (st, .inr (8, [.int 0, .int 0, .int 0, .ref a_columns, .ref a_rows, .ref a_content, .ref a_held, .ref a_other, .ref a_named, .ref a_body, .ref a_parts, .ref a_partCount, .ref a_refRow, .ref a_refColumn, .ref a_refToRow, .ref a_torn, .ref a_record, .int 0, .int 0, .int 0])), (a_content, .inl (dC 101, 200, .inr (.inl g_content))), (ou, .inl (dC 101, 1, .inr (.inl f0)))] sz) [(ou, .inl (dC 101, 1, .inr (.inl u)))] t) (va_A [(h0, .inr (0, [.ref st, .ref no, .ref ch, .ref he, .ref de, .ref fi, v6, .ref kp, .int 0, .int 0, .int 0])), (he, .inr (4, [.ref aw, .int 1])), (aw, .inl (dC 101, 8192, .inr (.inl gw))), (ch, .inr (1, [.ref ac_cell, .ref ac_behind, .ref ac_size, .ref ac_nextLikely, .ref ac_firstLikely, .int (nI (200 + 1))])), (ac_cell, .inl (dC 100, 512, .inl gc)), (st, .inr (8, [.int 0, .int 0, .int 0, .ref a_columns, .ref a_rows, .ref a_content, .ref a_held, .ref a_other, .ref a_named, .ref a_body, .ref a_parts, .ref a_partCount, .ref a_refRow, .ref a_refColumn, .ref a_refToRow, .ref a_torn, .ref a_record, .int 0, .int 0, .int 0])), (a_content, .inl (dC 101, 200, .inr (.inl g_content))), (ou, .inl (dC 101, 1, .inr (.inl f0)))] sz)) 1 6 (va_A [(h0, .inr (0, [.ref st, .ref no, .ref ch, .ref he, .ref de, .ref fi, v6, .ref kp, .int 0, .int 0, .int 0])), (he, .inr (4, [.ref aw, .int 1])), (aw, .inl (dC 101, 8192, .inr (.inl gw))), (ch, .inr (1, [.ref ac_cell, .ref ac_behind, .ref ac_size, .ref ac_nextLikely, .ref ac_firstLikely, .int (nI (200 + 1))])), (ac_cell, .inl (dC 100, 512, .inl gc)), (st, .inr (8, [.int 0, .int 0, .int 0, .ref a_columns, .ref a_rows, .ref a_content, .ref a_held, .ref a_other, .ref a_named, .ref a_body, .ref a_parts, .ref a_partCount, .ref a_refRow, .ref a_refColumn, .ref a_refToRow, .ref a_torn, .ref a_record, .int 0, .int 0, .int 0])), (a_content, .inl (dC 101, 200, .inr (.inl g_content))), (ou, .inl (dC 101, 1, .inr (.inl f0)))] sz) := by
  refine va_MetW (cc := cM_L_setWay) (maxL := 4) (ret := (some .int)) (by decide) rfl ?_
  intro p e s m args below meth c s₁ B hml hv
  obtain ⟨rfl, hsz, hP, hD0, hK, hN⟩ := hv
  have hx := B.exec
  have hb := B.bytes
  have hr := B.returns
  have hbg : ∀ w ∈ BIG, w.before ([.ref h0, .int p0, .ref ou] : List Value).toArray s = true := fun w h => atoms_spec (ws := (wmW yM_L_setWay cM_L_setWay 4 (some .int) [(0, 9, 12, 13)])) B.pre w (List.mem_cons_of_mem _ h)
  have hown : s.vm.findClass "NoteDocumentLaw" = some m.cls := findClass_of_methodNamed B.named
  have hlocks := B.notSynchronized
  have hTab : c.exceptionTable.toList = tableOf [(0, 9, 12, 13)] := vx_table (x := yM_L_setWay) B (atoms_spec (ws := (wmW yM_L_setWay cM_L_setWay 4 (some .int) [(0, 9, 12, 13)])) B.pre _ List.mem_cons_self)
  subst hsz
  have hD := hD0.self (sz := s.heap.size)
  generalize hAe : va_A [(h0, .inr (0, [.ref st, .ref no, .ref ch, .ref he, .ref de, .ref fi, v6, .ref kp, .int 0, .int 0, .int 0])), (he, .inr (4, [.ref aw, .int 1])), (aw, .inl (dC 101, 8192, .inr (.inl gw))), (ch, .inr (1, [.ref ac_cell, .ref ac_behind, .ref ac_size, .ref ac_nextLikely, .ref ac_firstLikely, .int (nI (200 + 1))])), (ac_cell, .inl (dC 100, 512, .inl gc)), (st, .inr (8, [.int 0, .int 0, .int 0, .ref a_columns, .ref a_rows, .ref a_content, .ref a_held, .ref a_other, .ref a_named, .ref a_body, .ref a_parts, .ref a_partCount, .ref a_refRow, .ref a_refColumn, .ref a_refToRow, .ref a_torn, .ref a_record, .int 0, .int 0, .int 0])), (a_content, .inl (dC 101, 200, .inr (.inl g_content))), (ou, .inl (dC 101, 1, .inr (.inl f0)))] s.heap.size = A at hD hN ⊢
  have hA : ∀ q : Nat, s.heap.size ≤ q → A q := fun q h => by rw [← hAe]; exact Or.inr h
  have hS : va_S A s.heap s.heap [] := va_S.rf
  have hP : va_P (dC, dI) classes [(h0, .inr (0, [.ref st, .ref no, .ref ch, .ref he, .ref de, .ref fi, v6, .ref kp, .int 0, .int 0, .int 0])), (he, .inr (4, [.ref aw, .int 1])), (aw, .inl (dC 101, 8192, .inr (.inl gw))), (ch, .inr (1, [.ref ac_cell, .ref ac_behind, .ref ac_size, .ref ac_nextLikely, .ref ac_firstLikely, .int (nI (200 + 1))])), (ac_cell, .inl (dC 100, 512, .inl gc)), (st, .inr (8, [.int 0, .int 0, .int 0, .ref a_columns, .ref a_rows, .ref a_content, .ref a_held, .ref a_other, .ref a_named, .ref a_body, .ref a_parts, .ref a_partCount, .ref a_refRow, .ref a_refColumn, .ref a_refToRow, .ref a_torn, .ref a_record, .int 0, .int 0, .int 0])), (a_content, .inl (dC 101, 200, .inr (.inl g_content))), (ou, .inl (dC 101, 1, .inr (.inl f0)))] s.heap := hP
  have hl := lv_entry ([.ref h0, .int p0, .ref ou] : List Value) (n := 4) (Nat.le_of_ble_eq_true rfl)
  rw [lg_entry_eq]
  generalize (lg_sl ([.ref h0, .int p0, .ref ou] : List Value) ++ List.replicate (4 - (lg_sl ([.ref h0, .int p0, .ref ou] : List Value)).length) Slot.unset).toArray = ls at hl ⊢
  have hl : lv_has ls 4 [(0, .ref h0), (1, .int p0), (2, .ref ou)] := hl
  refine lv_aload_n hx hb dM_L_setWay_0 rfl (lv_at hl 2 rfl) ?_
  refine lv_iconst (v := 0) hx hb dM_L_setWay_1 (by decide) ?_
  refine lv_aload_n hx hb dM_L_setWay_2 rfl (lv_at hl 0 rfl) ?_
  refine lv_iload_n hx hb dM_L_setWay_3 rfl (lv_at hl 1 rfl) ?_
  have hFc := va_free (wc := [(h0, .inr (0, [.ref st, .ref no, .ref ch, .ref he, .ref de, .ref fi, v6, .ref kp, .int 0, .int 0, .int 0])), (he, .inr (4, [.ref aw, .int 1])), (aw, .inl (dC 101, 8192, .inr (.inl gw))), (ch, .inr (1, [.ref ac_cell, .ref ac_behind, .ref ac_size, .ref ac_nextLikely, .ref ac_firstLikely, .int (nI (200 + 1))])), (ac_cell, .inl (dC 100, 512, .inl gc)), (st, .inr (8, [.int 0, .int 0, .int 0, .ref a_columns, .ref a_rows, .ref a_content, .ref a_held, .ref a_other, .ref a_named, .ref a_body, .ref a_parts, .ref a_partCount, .ref a_refRow, .ref a_refColumn, .ref a_refToRow, .ref a_torn, .ref a_record, .int 0, .int 0, .int 0])), (a_content, .inl (dC 101, 200, .inr (.inl g_content)))]) hD hS hA [0, 1, 2, 3, 4, 5, 6] rfl
  refine vx_calli (vx_runV (As := [.int p0]) (rest := [.int 0, .ref ou]) ⟨hx, hb, hml, hown, hbg⟩ (c_D_setWay l hl9 dC dI h0 p0 st no ch he de fi v6 kp aw gw ac_cell ac_behind ac_size ac_nextLikely ac_firstLikely gc a_columns a_rows a_content a_held a_other a_named a_body a_parts a_partCount a_refRow a_refColumn a_refToRow a_torn a_record g_content _ (hcont)) (cwV 1 hbg (gd_V (fun _ h => h) wd_1370 wd_1371 wd_1372 wd_1 (gd_wm (fun _ h => h) wd_1373)) rfl rfl rfl (by decide +kernel) ⟨Nat.le_of_ble_eq_true rfl, Nat.le_of_ble_eq_true rfl⟩) (nPreV [0, 1, 2, 3, 4, 5, 6] hP hD hK hN hS hA (by decide) rfl 0 rfl rfl) rfl rfl hl.1 rfl (lv_room (Nat.le_of_ble_eq_true rfl)) dM_L_setWay_4 ⟨Nat.le_of_ble_eq_true rfl, Nat.le_of_ble_eq_true rfl⟩) hS (fun q _ h => hFc q h) hFc (fun q _ h => hFc q h) (fun E ce q9 u t H1 locs ht hvm hpx hBX hz1 hk1 hS hq9 hcv hcl => ?_) (fun r_1 u t H1 locs ht hvm hw hB hz1 hk1 hS => ?_)
  · --
    obtain ⟨hP, hD⟩ := va_join (wr := [(ou, .inl (dC 101, 1, .inr (.inl f0)))]) (w1 := []) hP hD [0, 1, 2, 3, 4, 5, 6] [7] rfl rfl (by decide) (by decide) hk1 hFc nP0 nD0
    generalize H1 = H at hP hS hq9 ⊢
    have hP : va_P (dC, dI) classes [(ou, .inl (dC 101, 1, .inr (.inl f0)))] H := hP
    have hD : va_D A [(ou, .inl (dC 101, 1, .inr (.inl f0)))] := hD
    obtain ⟨rfl, c_2⟩ := hBX
    refine vx_catch (own := "NoteDocumentLaw") (name := "java/lang/IllegalArgumentException") (E := "java/lang/IllegalArgumentException") hown [] ⟨0, 9, 12, 13⟩ [] (by rw [hTab]; rfl) (fun z hz => nomatch hz) (by decide) (by decide) (hbg _ wd_1023) (va_Nw.use rfl (hK.2.1 _ wx_1031)) hq9 hcv hcl ?_
    refine W.widen (k := 1) (n := 6) (Nat.le_of_ble_eq_true rfl) (Nat.le_of_ble_eq_true rfl) ?_
    refine lv_astore_n (lv' := [(3, .ref q9), (0, .ref h0), (1, .int p0), (2, .ref ou)]) hx hb dM_L_setWay_12 rfl hl (by decide) rfl (fun ls hl => ?_)
    refine lv_iconst (v := 1) hx hb dM_L_setWay_13 (by decide) ?_
    have hP9 := hP.pick (wc := [(ou, .inl (dC 101, 1, .inr (.inl f0)))]) [0] rfl
    have hD9 := hD.sub (ws' := [(ou, .inl (dC 101, 1, .inr (.inl f0)))]) [0] (by decide) rfl
    exact W.iret (v := 1) hx hb hr (fun t ht hW => ⟨⟨1, (f0), rfl, (Or.inr ⟨c_2, rfl, rfl⟩), ⟨(by rw [ht]; exact hP9), hD9⟩⟩, hS.F ht⟩) hS.2.2 dM_L_setWay_14
  · --
    obtain ⟨c_3, rfl⟩ := hw
    obtain ⟨hP, hD⟩ := va_join (wr := [(ou, .inl (dC 101, 1, .inr (.inl f0)))]) (w1 := []) hP hD [0, 1, 2, 3, 4, 5, 6] [7] rfl rfl (by decide) (by decide) hk1 hFc nP0 nD0
    generalize H1 = H at hP hS ⊢
    have hP : va_P (dC, dI) classes [(ou, .inl (dC 101, 1, .inr (.inl f0)))] H := hP
    have hD : va_D A [(ou, .inl (dC 101, 1, .inr (.inl f0)))] := hD
    refine W.widen (k := 1) (n := 6) (Nat.le_of_ble_eq_true rfl) (Nat.le_of_ble_eq_true rfl) ?_
    refine lv_i2l (v := 0) hx hb dM_L_setWay_7 (by decide) ?_
    refine va_last hx hb hK.1 hP hD hS 0 1 rfl rfl (by unfold vp_in; decide) dM_L_setWay_8 (fun H locs hP hD hS => ?_)
    have hP : va_P (dC, dI) classes [(ou, .inl (dC 101, 1, .inr (.inl (vp_updL f0 (0 : Int32).toNatClampNeg 0))))] H := hP
    have hD : va_D A [(ou, .inl (dC 101, 1, .inr (.inl (vp_updL f0 (0 : Int32).toNatClampNeg 0))))] := hD
    refine lv_goto (tgt := 15) hx hb dM_L_setWay_9 (by decide) ?_
    refine lv_iconst (v := 0) hx hb dM_L_setWay_15 (by decide) ?_
    have hP9 := hP.pick (wc := [(ou, .inl (dC 101, 1, .inr (.inl (vp_updL f0 (0 : Int32).toNatClampNeg 0))))]) [0] rfl
    have hD9 := hD.sub (ws' := [(ou, .inl (dC 101, 1, .inr (.inl (vp_updL f0 (0 : Int32).toNatClampNeg 0))))]) [0] (by decide) rfl
    exact W.iret (v := 0) hx hb hr (fun t ht hW => ⟨⟨0, (vp_updL f0 (0 : Int32).toNatClampNeg 0), rfl, (Or.inl ⟨c_3, rfl, rfl⟩), ⟨(by rw [ht]; exact hP9), hD9⟩⟩, hS.F ht⟩) hS.2.2 dM_L_setWay_16
set_option maxHeartbeats 4000000 in
set_option maxRecDepth 100000 in
theorem c_L_kind (l : Launch) (hl9 : l.stackTraces = false) (dC : Nat → ClassId) (dI : Nat → Nat → Nat) (h0 : Nat) (p0 : Int32) (p1 : Int32) (p2 : Int32) (ou : Nat) (st : Nat) (v1 : Value) (v2 : Value) (v3 : Value) (v4 : Value) (v5 : Value) (v6 : Value) (v7 : Value) (v8 : Value) (v9 : Value) (v10 : Value) (w3 : Value) (w4 : Value) (w5 : Value) (w6 : Value) (w7 : Value) (w8 : Value) (w9 : Value) (w10 : Value) (w11 : Value) (w12 : Value) (w13 : Value) (w14 : Value) (w15 : Value) (w16 : Value) (w17 : Value) (w18 : Value) (w19 : Value) (f0 : Nat → Int64) (sz : Nat) : Met l yM_L_kind (wmW yM_L_kind cM_L_kind 6 (some .int) [(0, 12, 15, 21)]) ({ frames := 140, cells := 1, slots := 6, locals := 2800 }) (nPc [.ref h0, .int p0, .int p1, .int p2, .ref ou] (dC, dI) [(h0, .inr (0, [.ref st, v1, v2, v3, v4, v5, v6, v7, v8, v9, v10])), (st, .inr (8, [.int 0, .int 0, .int 0, w3, w4, w5, w6, w7, w8, w9, w10, w11, w12, w13, w14, w15, w16, w17, w18, w19])), (ou, .inl (dC 101, 1, .inr (.inl f0)))] sz) (va_Qi (fun (r : Int32) (u : Nat → Int64) => r = 1 ∧ u = f0) (fun (u : Nat → Int64) t => nB (dC, dI) (va_A [(h0, .inr (0, [.ref st, v1, v2, v3, v4, v5, v6, v7, v8, v9, v10])), (st, .inr (8, [.int 0, .int 0, .int 0, w3, w4, w5, w6, w7, w8, w9, w10, w11, w12, w13, w14, w15, w16, w17, w18, w19])), (ou, .inl (dC 101, 1, .inr (.inl f0)))] sz) [(ou, .inl (dC 101, 1, .inr (.inl u)))] t) (va_A [(h0, .inr (0, [.ref st, v1, v2, v3, v4, v5, v6, v7, v8, v9, v10])), (st, .inr (8, [.int 0, .int 0, .int 0, w3, w4, w5, w6, w7, w8, w9, w10, w11, w12, w13, w14, w15, w16, w17, w18, w19])), (ou, .inl (dC 101, 1, .inr (.inl f0)))] sz)) 1 6 (va_A [(h0, .inr (0, [.ref st, v1, v2, v3, v4, v5, v6, v7, v8, v9, v10])), (st, .inr (8, [.int 0, .int 0, .int 0, w3, w4, w5, w6, w7, w8, w9, w10, w11, w12, w13, w14, w15, w16, w17, w18, w19])), (ou, .inl (dC 101, 1, .inr (.inl f0)))] sz) := by
  refine va_MetW (cc := cM_L_kind) (maxL := 6) (ret := (some .int)) (by decide) rfl ?_
  intro p e s m args below meth c s₁ B hml hv
  obtain ⟨rfl, hsz, hP, hD0, hK, hN⟩ := hv
  have hx := B.exec
  have hb := B.bytes
  have hr := B.returns
  have hbg : ∀ w ∈ BIG, w.before ([.ref h0, .int p0, .int p1, .int p2, .ref ou] : List Value).toArray s = true := fun w h => atoms_spec (ws := (wmW yM_L_kind cM_L_kind 6 (some .int) [(0, 12, 15, 21)])) B.pre w (List.mem_cons_of_mem _ h)
  have hown : s.vm.findClass "NoteDocumentLaw" = some m.cls := findClass_of_methodNamed B.named
  have hlocks := B.notSynchronized
  have hTab : c.exceptionTable.toList = tableOf [(0, 12, 15, 21)] := vx_table (x := yM_L_kind) B (atoms_spec (ws := (wmW yM_L_kind cM_L_kind 6 (some .int) [(0, 12, 15, 21)])) B.pre _ List.mem_cons_self)
  subst hsz
  have hD := hD0.self (sz := s.heap.size)
  generalize hAe : va_A [(h0, .inr (0, [.ref st, v1, v2, v3, v4, v5, v6, v7, v8, v9, v10])), (st, .inr (8, [.int 0, .int 0, .int 0, w3, w4, w5, w6, w7, w8, w9, w10, w11, w12, w13, w14, w15, w16, w17, w18, w19])), (ou, .inl (dC 101, 1, .inr (.inl f0)))] s.heap.size = A at hD hN ⊢
  have hA : ∀ q : Nat, s.heap.size ≤ q → A q := fun q h => by rw [← hAe]; exact Or.inr h
  have hS : va_S A s.heap s.heap [] := va_S.rf
  have hP : va_P (dC, dI) classes [(h0, .inr (0, [.ref st, v1, v2, v3, v4, v5, v6, v7, v8, v9, v10])), (st, .inr (8, [.int 0, .int 0, .int 0, w3, w4, w5, w6, w7, w8, w9, w10, w11, w12, w13, w14, w15, w16, w17, w18, w19])), (ou, .inl (dC 101, 1, .inr (.inl f0)))] s.heap := hP
  have hl := lv_entry ([.ref h0, .int p0, .int p1, .int p2, .ref ou] : List Value) (n := 6) (Nat.le_of_ble_eq_true rfl)
  rw [lg_entry_eq]
  generalize (lg_sl ([.ref h0, .int p0, .int p1, .int p2, .ref ou] : List Value) ++ List.replicate (6 - (lg_sl ([.ref h0, .int p0, .int p1, .int p2, .ref ou] : List Value)).length) Slot.unset).toArray = ls at hl ⊢
  have hl : lv_has ls 6 [(0, .ref h0), (1, .int p0), (2, .int p1), (3, .int p2), (4, .ref ou)] := hl
  refine lv_aload hx hb dM_L_kind_0 (lv_at hl 4 rfl) ?_
  refine lv_iconst (v := 0) hx hb dM_L_kind_2 (by decide) ?_
  refine lv_aload_n hx hb dM_L_kind_3 rfl (lv_at hl 0 rfl) ?_
  refine lv_iload_n hx hb dM_L_kind_4 rfl (lv_at hl 1 rfl) ?_
  refine lv_iload_n hx hb dM_L_kind_5 rfl (lv_at hl 2 rfl) ?_
  refine lv_iload_n hx hb dM_L_kind_6 rfl (lv_at hl 3 rfl) ?_
  have hFc := va_free (wc := [(h0, .inr (0, [.ref st, v1, v2, v3, v4, v5, v6, v7, v8, v9, v10])), (st, .inr (8, [.int 0, .int 0, .int 0, w3, w4, w5, w6, w7, w8, w9, w10, w11, w12, w13, w14, w15, w16, w17, w18, w19]))]) hD hS hA [0, 1] rfl
  refine vx_calli (vx_runV (As := [.int p0, .int p1, .int p2]) (rest := [.int 0, .ref ou]) ⟨hx, hb, hml, hown, hbg⟩ (c_D_kind l hl9 dC dI h0 p0 p1 p2 st v1 v2 v3 v4 v5 v6 v7 v8 v9 v10 w3 w4 w5 w6 w7 w8 w9 w10 w11 w12 w13 w14 w15 w16 w17 w18 w19 _ ) (cwV 3 hbg (gd_V (fun _ h => h) wd_1378 wd_1379 wd_1380 wd_1 (gd_wm (fun _ h => h) wd_1381)) rfl rfl rfl (by decide +kernel) ⟨Nat.le_of_ble_eq_true rfl, Nat.le_of_ble_eq_true rfl⟩) (nPreV [0, 1] hP hD hK hN hS hA (by decide) rfl 0 rfl rfl) rfl rfl hl.1 rfl (lv_room (Nat.le_of_ble_eq_true rfl)) dM_L_kind_7 ⟨Nat.le_of_ble_eq_true rfl, Nat.le_of_ble_eq_true rfl⟩) hS (fun q _ h => hFc q h) hFc (fun q _ h => hFc q h) (fun E ce q9 u t H1 locs ht hvm hpx hBX hz1 hk1 hS hq9 hcv hcl => ?_) (fun r_1 u t H1 locs ht hvm hw hB hz1 hk1 hS => ?_)
  · --
    obtain ⟨hP, hD⟩ := va_join (wr := [(ou, .inl (dC 101, 1, .inr (.inl f0)))]) (w1 := []) hP hD [0, 1] [2] rfl rfl (by decide) (by decide) hk1 hFc nP0 nD0
    generalize H1 = H at hP hS hq9 ⊢
    have hP : va_P (dC, dI) classes [(ou, .inl (dC 101, 1, .inr (.inl f0)))] H := hP
    have hD : va_D A [(ou, .inl (dC 101, 1, .inr (.inl f0)))] := hD
    obtain rfl := hBX
    refine vx_catch (own := "NoteDocumentLaw") (name := "java/lang/IndexOutOfBoundsException") (E := "java/lang/IndexOutOfBoundsException") hown [] ⟨0, 12, 15, 21⟩ [] (by rw [hTab]; rfl) (fun z hz => nomatch hz) (by decide) (by decide) (hbg _ wd_1117) (va_Nw.use rfl (hK.2.1 _ wx_1128)) hq9 hcv hcl ?_
    refine W.widen (k := 1) (n := 6) (Nat.le_of_ble_eq_true rfl) (Nat.le_of_ble_eq_true rfl) ?_
    refine lv_astore (lv' := [(5, .ref q9), (0, .ref h0), (1, .int p0), (2, .int p1), (3, .int p2), (4, .ref ou)]) hx hb dM_L_kind_15 hl (by decide) rfl (fun ls hl => ?_)
    refine lv_iconst (v := 1) hx hb dM_L_kind_17 (by decide) ?_
    have hP9 := hP.pick (wc := [(ou, .inl (dC 101, 1, .inr (.inl f0)))]) [0] rfl
    have hD9 := hD.sub (ws' := [(ou, .inl (dC 101, 1, .inr (.inl f0)))]) [0] (by decide) rfl
    exact W.iret (v := 1) hx hb hr (fun t ht hW => ⟨⟨1, (f0), rfl, ⟨rfl, rfl⟩, ⟨(by rw [ht]; exact hP9), hD9⟩⟩, hS.F ht⟩) hS.2.2 dM_L_kind_18
  · --
    exact hw.elim
set_option maxHeartbeats 4000000 in
set_option maxRecDepth 100000 in
theorem c_L_value (l : Launch) (hl9 : l.stackTraces = false) (dC : Nat → ClassId) (dI : Nat → Nat → Nat) (h0 : Nat) (p0 : Int32) (p1 : Int32) (p2 : Int32) (ou : Nat) (st : Nat) (v1 : Value) (v2 : Value) (v3 : Value) (v4 : Value) (v5 : Value) (v6 : Value) (v7 : Value) (v8 : Value) (v9 : Value) (v10 : Value) (w3 : Value) (w4 : Value) (w5 : Value) (w6 : Value) (w7 : Value) (w8 : Value) (w9 : Value) (w10 : Value) (w11 : Value) (w12 : Value) (w13 : Value) (w14 : Value) (w15 : Value) (w16 : Value) (w17 : Value) (w18 : Value) (w19 : Value) (f0 : Nat → Int64) (sz : Nat) : Met l yM_L_value (wmW yM_L_value cM_L_value 6 (some .int) [(0, 11, 14, 21)]) ({ frames := 140, cells := 1, slots := 6, locals := 2800 }) (nPc [.ref h0, .int p0, .int p1, .int p2, .ref ou] (dC, dI) [(h0, .inr (0, [.ref st, v1, v2, v3, v4, v5, v6, v7, v8, v9, v10])), (st, .inr (8, [.int 0, .int 0, .int 0, w3, w4, w5, w6, w7, w8, w9, w10, w11, w12, w13, w14, w15, w16, w17, w18, w19])), (ou, .inl (dC 101, 1, .inr (.inl f0)))] sz) (va_Qi (fun (r : Int32) (u : Nat → Int64) => r = 1 ∧ u = f0) (fun (u : Nat → Int64) t => nB (dC, dI) (va_A [(h0, .inr (0, [.ref st, v1, v2, v3, v4, v5, v6, v7, v8, v9, v10])), (st, .inr (8, [.int 0, .int 0, .int 0, w3, w4, w5, w6, w7, w8, w9, w10, w11, w12, w13, w14, w15, w16, w17, w18, w19])), (ou, .inl (dC 101, 1, .inr (.inl f0)))] sz) [(ou, .inl (dC 101, 1, .inr (.inl u)))] t) (va_A [(h0, .inr (0, [.ref st, v1, v2, v3, v4, v5, v6, v7, v8, v9, v10])), (st, .inr (8, [.int 0, .int 0, .int 0, w3, w4, w5, w6, w7, w8, w9, w10, w11, w12, w13, w14, w15, w16, w17, w18, w19])), (ou, .inl (dC 101, 1, .inr (.inl f0)))] sz)) 1 6 (va_A [(h0, .inr (0, [.ref st, v1, v2, v3, v4, v5, v6, v7, v8, v9, v10])), (st, .inr (8, [.int 0, .int 0, .int 0, w3, w4, w5, w6, w7, w8, w9, w10, w11, w12, w13, w14, w15, w16, w17, w18, w19])), (ou, .inl (dC 101, 1, .inr (.inl f0)))] sz) := by
  refine va_MetW (cc := cM_L_value) (maxL := 6) (ret := (some .int)) (by decide) rfl ?_
  intro p e s m args below meth c s₁ B hml hv
  obtain ⟨rfl, hsz, hP, hD0, hK, hN⟩ := hv
  have hx := B.exec
  have hb := B.bytes
  have hr := B.returns
  have hbg : ∀ w ∈ BIG, w.before ([.ref h0, .int p0, .int p1, .int p2, .ref ou] : List Value).toArray s = true := fun w h => atoms_spec (ws := (wmW yM_L_value cM_L_value 6 (some .int) [(0, 11, 14, 21)])) B.pre w (List.mem_cons_of_mem _ h)
  have hown : s.vm.findClass "NoteDocumentLaw" = some m.cls := findClass_of_methodNamed B.named
  have hlocks := B.notSynchronized
  have hTab : c.exceptionTable.toList = tableOf [(0, 11, 14, 21)] := vx_table (x := yM_L_value) B (atoms_spec (ws := (wmW yM_L_value cM_L_value 6 (some .int) [(0, 11, 14, 21)])) B.pre _ List.mem_cons_self)
  subst hsz
  have hD := hD0.self (sz := s.heap.size)
  generalize hAe : va_A [(h0, .inr (0, [.ref st, v1, v2, v3, v4, v5, v6, v7, v8, v9, v10])), (st, .inr (8, [.int 0, .int 0, .int 0, w3, w4, w5, w6, w7, w8, w9, w10, w11, w12, w13, w14, w15, w16, w17, w18, w19])), (ou, .inl (dC 101, 1, .inr (.inl f0)))] s.heap.size = A at hD hN ⊢
  have hA : ∀ q : Nat, s.heap.size ≤ q → A q := fun q h => by rw [← hAe]; exact Or.inr h
  have hS : va_S A s.heap s.heap [] := va_S.rf
  have hP : va_P (dC, dI) classes [(h0, .inr (0, [.ref st, v1, v2, v3, v4, v5, v6, v7, v8, v9, v10])), (st, .inr (8, [.int 0, .int 0, .int 0, w3, w4, w5, w6, w7, w8, w9, w10, w11, w12, w13, w14, w15, w16, w17, w18, w19])), (ou, .inl (dC 101, 1, .inr (.inl f0)))] s.heap := hP
  have hl := lv_entry ([.ref h0, .int p0, .int p1, .int p2, .ref ou] : List Value) (n := 6) (Nat.le_of_ble_eq_true rfl)
  rw [lg_entry_eq]
  generalize (lg_sl ([.ref h0, .int p0, .int p1, .int p2, .ref ou] : List Value) ++ List.replicate (6 - (lg_sl ([.ref h0, .int p0, .int p1, .int p2, .ref ou] : List Value)).length) Slot.unset).toArray = ls at hl ⊢
  have hl : lv_has ls 6 [(0, .ref h0), (1, .int p0), (2, .int p1), (3, .int p2), (4, .ref ou)] := hl
  refine lv_aload hx hb dM_L_value_0 (lv_at hl 4 rfl) ?_
  refine lv_iconst (v := 0) hx hb dM_L_value_2 (by decide) ?_
  refine lv_aload_n hx hb dM_L_value_3 rfl (lv_at hl 0 rfl) ?_
  refine lv_iload_n hx hb dM_L_value_4 rfl (lv_at hl 1 rfl) ?_
  refine lv_iload_n hx hb dM_L_value_5 rfl (lv_at hl 2 rfl) ?_
  refine lv_iload_n hx hb dM_L_value_6 rfl (lv_at hl 3 rfl) ?_
  have hFc := va_free (wc := [(h0, .inr (0, [.ref st, v1, v2, v3, v4, v5, v6, v7, v8, v9, v10])), (st, .inr (8, [.int 0, .int 0, .int 0, w3, w4, w5, w6, w7, w8, w9, w10, w11, w12, w13, w14, w15, w16, w17, w18, w19]))]) hD hS hA [0, 1] rfl
  refine vx_calll (vx_runV (As := [.int p0, .int p1, .int p2]) (rest := [.int 0, .ref ou]) ⟨hx, hb, hml, hown, hbg⟩ (c_D_value l hl9 dC dI h0 p0 p1 p2 st v1 v2 v3 v4 v5 v6 v7 v8 v9 v10 w3 w4 w5 w6 w7 w8 w9 w10 w11 w12 w13 w14 w15 w16 w17 w18 w19 _ ) (cwV 3 hbg (gd_V (fun _ h => h) wd_1411 wd_1412 wd_1413 wd_1 (gd_wm (fun _ h => h) wd_1414)) rfl rfl rfl (by decide +kernel) ⟨Nat.le_of_ble_eq_true rfl, Nat.le_of_ble_eq_true rfl⟩) (nPreV [0, 1] hP hD hK hN hS hA (by decide) rfl 0 rfl rfl) rfl rfl hl.1 rfl (lv_room (Nat.le_of_ble_eq_true rfl)) dM_L_value_7 ⟨Nat.le_of_ble_eq_true rfl, Nat.le_of_ble_eq_true rfl⟩) hS (fun q _ h => hFc q h) hFc (fun q _ h => hFc q h) (fun E ce q9 u t H1 locs ht hvm hpx hBX hz1 hk1 hS hq9 hcv hcl => ?_) (fun r_1 u t H1 locs ht hvm hw hB hz1 hk1 hS => ?_)
  · --
    obtain ⟨hP, hD⟩ := va_join (wr := [(ou, .inl (dC 101, 1, .inr (.inl f0)))]) (w1 := []) hP hD [0, 1] [2] rfl rfl (by decide) (by decide) hk1 hFc nP0 nD0
    generalize H1 = H at hP hS hq9 ⊢
    have hP : va_P (dC, dI) classes [(ou, .inl (dC 101, 1, .inr (.inl f0)))] H := hP
    have hD : va_D A [(ou, .inl (dC 101, 1, .inr (.inl f0)))] := hD
    obtain rfl := hBX
    refine vx_catch (own := "NoteDocumentLaw") (name := "java/lang/IndexOutOfBoundsException") (E := "java/lang/IndexOutOfBoundsException") hown [] ⟨0, 11, 14, 21⟩ [] (by rw [hTab]; rfl) (fun z hz => nomatch hz) (by decide) (by decide) (hbg _ wd_1117) (va_Nw.use rfl (hK.2.1 _ wx_1128)) hq9 hcv hcl ?_
    refine W.widen (k := 1) (n := 6) (Nat.le_of_ble_eq_true rfl) (Nat.le_of_ble_eq_true rfl) ?_
    refine lv_astore (lv' := [(5, .ref q9), (0, .ref h0), (1, .int p0), (2, .int p1), (3, .int p2), (4, .ref ou)]) hx hb dM_L_value_14 hl (by decide) rfl (fun ls hl => ?_)
    refine lv_iconst (v := 1) hx hb dM_L_value_16 (by decide) ?_
    have hP9 := hP.pick (wc := [(ou, .inl (dC 101, 1, .inr (.inl f0)))]) [0] rfl
    have hD9 := hD.sub (ws' := [(ou, .inl (dC 101, 1, .inr (.inl f0)))]) [0] (by decide) rfl
    exact W.iret (v := 1) hx hb hr (fun t ht hW => ⟨⟨1, (f0), rfl, ⟨rfl, rfl⟩, ⟨(by rw [ht]; exact hP9), hD9⟩⟩, hS.F ht⟩) hS.2.2 dM_L_value_17
  · --
    exact hw.elim
set_option maxHeartbeats 4000000 in
set_option maxRecDepth 100000 in
theorem c_L_spills (l : Launch) (hl9 : l.stackTraces = false) (dC : Nat → ClassId) (dI : Nat → Nat → Nat) (h0 : Nat) (p0 : Int32) (p1 : Int32) (p2 : Int32) (ou : Nat) (st : Nat) (v1 : Value) (v2 : Value) (v3 : Value) (v4 : Value) (v5 : Value) (v6 : Value) (v7 : Value) (v8 : Value) (v9 : Value) (v10 : Value) (w3 : Value) (w4 : Value) (w5 : Value) (w6 : Value) (w7 : Value) (w8 : Value) (w9 : Value) (w10 : Value) (w11 : Value) (w12 : Value) (w13 : Value) (w14 : Value) (w15 : Value) (w16 : Value) (w17 : Value) (w18 : Value) (w19 : Value) (f0 : Nat → Int64) (sz : Nat) : Met l yM_L_spills (wmW yM_L_spills cM_L_spills 6 (some .int) [(0, 12, 15, 21)]) ({ frames := 140, cells := 1, slots := 6, locals := 2800 }) (nPc [.ref h0, .int p0, .int p1, .int p2, .ref ou] (dC, dI) [(h0, .inr (0, [.ref st, v1, v2, v3, v4, v5, v6, v7, v8, v9, v10])), (st, .inr (8, [.int 0, .int 0, .int 0, w3, w4, w5, w6, w7, w8, w9, w10, w11, w12, w13, w14, w15, w16, w17, w18, w19])), (ou, .inl (dC 101, 1, .inr (.inl f0)))] sz) (va_Qi (fun (r : Int32) (u : Nat → Int64) => r = 1 ∧ u = f0) (fun (u : Nat → Int64) t => nB (dC, dI) (va_A [(h0, .inr (0, [.ref st, v1, v2, v3, v4, v5, v6, v7, v8, v9, v10])), (st, .inr (8, [.int 0, .int 0, .int 0, w3, w4, w5, w6, w7, w8, w9, w10, w11, w12, w13, w14, w15, w16, w17, w18, w19])), (ou, .inl (dC 101, 1, .inr (.inl f0)))] sz) [(ou, .inl (dC 101, 1, .inr (.inl u)))] t) (va_A [(h0, .inr (0, [.ref st, v1, v2, v3, v4, v5, v6, v7, v8, v9, v10])), (st, .inr (8, [.int 0, .int 0, .int 0, w3, w4, w5, w6, w7, w8, w9, w10, w11, w12, w13, w14, w15, w16, w17, w18, w19])), (ou, .inl (dC 101, 1, .inr (.inl f0)))] sz)) 1 6 (va_A [(h0, .inr (0, [.ref st, v1, v2, v3, v4, v5, v6, v7, v8, v9, v10])), (st, .inr (8, [.int 0, .int 0, .int 0, w3, w4, w5, w6, w7, w8, w9, w10, w11, w12, w13, w14, w15, w16, w17, w18, w19])), (ou, .inl (dC 101, 1, .inr (.inl f0)))] sz) := by
  refine va_MetW (cc := cM_L_spills) (maxL := 6) (ret := (some .int)) (by decide) rfl ?_
  intro p e s m args below meth c s₁ B hml hv
  obtain ⟨rfl, hsz, hP, hD0, hK, hN⟩ := hv
  have hx := B.exec
  have hb := B.bytes
  have hr := B.returns
  have hbg : ∀ w ∈ BIG, w.before ([.ref h0, .int p0, .int p1, .int p2, .ref ou] : List Value).toArray s = true := fun w h => atoms_spec (ws := (wmW yM_L_spills cM_L_spills 6 (some .int) [(0, 12, 15, 21)])) B.pre w (List.mem_cons_of_mem _ h)
  have hown : s.vm.findClass "NoteDocumentLaw" = some m.cls := findClass_of_methodNamed B.named
  have hlocks := B.notSynchronized
  have hTab : c.exceptionTable.toList = tableOf [(0, 12, 15, 21)] := vx_table (x := yM_L_spills) B (atoms_spec (ws := (wmW yM_L_spills cM_L_spills 6 (some .int) [(0, 12, 15, 21)])) B.pre _ List.mem_cons_self)
  subst hsz
  have hD := hD0.self (sz := s.heap.size)
  generalize hAe : va_A [(h0, .inr (0, [.ref st, v1, v2, v3, v4, v5, v6, v7, v8, v9, v10])), (st, .inr (8, [.int 0, .int 0, .int 0, w3, w4, w5, w6, w7, w8, w9, w10, w11, w12, w13, w14, w15, w16, w17, w18, w19])), (ou, .inl (dC 101, 1, .inr (.inl f0)))] s.heap.size = A at hD hN ⊢
  have hA : ∀ q : Nat, s.heap.size ≤ q → A q := fun q h => by rw [← hAe]; exact Or.inr h
  have hS : va_S A s.heap s.heap [] := va_S.rf
  have hP : va_P (dC, dI) classes [(h0, .inr (0, [.ref st, v1, v2, v3, v4, v5, v6, v7, v8, v9, v10])), (st, .inr (8, [.int 0, .int 0, .int 0, w3, w4, w5, w6, w7, w8, w9, w10, w11, w12, w13, w14, w15, w16, w17, w18, w19])), (ou, .inl (dC 101, 1, .inr (.inl f0)))] s.heap := hP
  have hl := lv_entry ([.ref h0, .int p0, .int p1, .int p2, .ref ou] : List Value) (n := 6) (Nat.le_of_ble_eq_true rfl)
  rw [lg_entry_eq]
  generalize (lg_sl ([.ref h0, .int p0, .int p1, .int p2, .ref ou] : List Value) ++ List.replicate (6 - (lg_sl ([.ref h0, .int p0, .int p1, .int p2, .ref ou] : List Value)).length) Slot.unset).toArray = ls at hl ⊢
  have hl : lv_has ls 6 [(0, .ref h0), (1, .int p0), (2, .int p1), (3, .int p2), (4, .ref ou)] := hl
  refine lv_aload hx hb dM_L_spills_0 (lv_at hl 4 rfl) ?_
  refine lv_iconst (v := 0) hx hb dM_L_spills_2 (by decide) ?_
  refine lv_aload_n hx hb dM_L_spills_3 rfl (lv_at hl 0 rfl) ?_
  refine lv_iload_n hx hb dM_L_spills_4 rfl (lv_at hl 1 rfl) ?_
  refine lv_iload_n hx hb dM_L_spills_5 rfl (lv_at hl 2 rfl) ?_
  refine lv_iload_n hx hb dM_L_spills_6 rfl (lv_at hl 3 rfl) ?_
  have hFc := va_free (wc := [(h0, .inr (0, [.ref st, v1, v2, v3, v4, v5, v6, v7, v8, v9, v10])), (st, .inr (8, [.int 0, .int 0, .int 0, w3, w4, w5, w6, w7, w8, w9, w10, w11, w12, w13, w14, w15, w16, w17, w18, w19]))]) hD hS hA [0, 1] rfl
  refine vx_calli (vx_runV (As := [.int p0, .int p1, .int p2]) (rest := [.int 0, .ref ou]) ⟨hx, hb, hml, hown, hbg⟩ (c_D_spills l hl9 dC dI h0 p0 p1 p2 st v1 v2 v3 v4 v5 v6 v7 v8 v9 v10 w3 w4 w5 w6 w7 w8 w9 w10 w11 w12 w13 w14 w15 w16 w17 w18 w19 _ ) (cwV 3 hbg (gd_V (fun _ h => h) wd_1422 wd_1423 wd_1424 wd_1 (gd_wm (fun _ h => h) wd_1425)) rfl rfl rfl (by decide +kernel) ⟨Nat.le_of_ble_eq_true rfl, Nat.le_of_ble_eq_true rfl⟩) (nPreV [0, 1] hP hD hK hN hS hA (by decide) rfl 0 rfl rfl) rfl rfl hl.1 rfl (lv_room (Nat.le_of_ble_eq_true rfl)) dM_L_spills_7 ⟨Nat.le_of_ble_eq_true rfl, Nat.le_of_ble_eq_true rfl⟩) hS (fun q _ h => hFc q h) hFc (fun q _ h => hFc q h) (fun E ce q9 u t H1 locs ht hvm hpx hBX hz1 hk1 hS hq9 hcv hcl => ?_) (fun r_1 u t H1 locs ht hvm hw hB hz1 hk1 hS => ?_)
  · --
    obtain ⟨hP, hD⟩ := va_join (wr := [(ou, .inl (dC 101, 1, .inr (.inl f0)))]) (w1 := []) hP hD [0, 1] [2] rfl rfl (by decide) (by decide) hk1 hFc nP0 nD0
    generalize H1 = H at hP hS hq9 ⊢
    have hP : va_P (dC, dI) classes [(ou, .inl (dC 101, 1, .inr (.inl f0)))] H := hP
    have hD : va_D A [(ou, .inl (dC 101, 1, .inr (.inl f0)))] := hD
    obtain rfl := hBX
    refine vx_catch (own := "NoteDocumentLaw") (name := "java/lang/IndexOutOfBoundsException") (E := "java/lang/IndexOutOfBoundsException") hown [] ⟨0, 12, 15, 21⟩ [] (by rw [hTab]; rfl) (fun z hz => nomatch hz) (by decide) (by decide) (hbg _ wd_1117) (va_Nw.use rfl (hK.2.1 _ wx_1128)) hq9 hcv hcl ?_
    refine W.widen (k := 1) (n := 6) (Nat.le_of_ble_eq_true rfl) (Nat.le_of_ble_eq_true rfl) ?_
    refine lv_astore (lv' := [(5, .ref q9), (0, .ref h0), (1, .int p0), (2, .int p1), (3, .int p2), (4, .ref ou)]) hx hb dM_L_spills_15 hl (by decide) rfl (fun ls hl => ?_)
    refine lv_iconst (v := 1) hx hb dM_L_spills_17 (by decide) ?_
    have hP9 := hP.pick (wc := [(ou, .inl (dC 101, 1, .inr (.inl f0)))]) [0] rfl
    have hD9 := hD.sub (ws' := [(ou, .inl (dC 101, 1, .inr (.inl f0)))]) [0] (by decide) rfl
    exact W.iret (v := 1) hx hb hr (fun t ht hW => ⟨⟨1, (f0), rfl, ⟨rfl, rfl⟩, ⟨(by rw [ht]; exact hP9), hD9⟩⟩, hS.F ht⟩) hS.2.2 dM_L_spills_18
  · --
    exact hw.elim
set_option maxHeartbeats 4000000 in
set_option maxRecDepth 100000 in
theorem c_L_through (l : Launch) (hl9 : l.stackTraces = false) (dC : Nat → ClassId) (dI : Nat → Nat → Nat) (h0 : Nat) (p0 : Int32) (p1 : Int32) (p2 : Int32) (ou : Nat) (st : Nat) (v1 : Value) (v2 : Value) (v3 : Value) (v4 : Value) (v5 : Value) (v6 : Value) (v7 : Value) (v8 : Value) (v9 : Value) (v10 : Value) (w3 : Value) (w4 : Value) (w5 : Value) (w6 : Value) (w7 : Value) (w8 : Value) (w9 : Value) (w10 : Value) (w11 : Value) (w12 : Value) (w13 : Value) (w14 : Value) (w15 : Value) (w16 : Value) (w17 : Value) (w18 : Value) (w19 : Value) (f0 : Nat → Int64) (sz : Nat) : Met l yM_L_through (wmW yM_L_through cM_L_through 6 (some .int) [(0, 12, 15, 21)]) ({ frames := 140, cells := 1, slots := 6, locals := 2800 }) (nPc [.ref h0, .int p0, .int p1, .int p2, .ref ou] (dC, dI) [(h0, .inr (0, [.ref st, v1, v2, v3, v4, v5, v6, v7, v8, v9, v10])), (st, .inr (8, [.int 0, .int 0, .int 0, w3, w4, w5, w6, w7, w8, w9, w10, w11, w12, w13, w14, w15, w16, w17, w18, w19])), (ou, .inl (dC 101, 1, .inr (.inl f0)))] sz) (va_Qi (fun (r : Int32) (u : Nat → Int64) => r = 1 ∧ u = f0) (fun (u : Nat → Int64) t => nB (dC, dI) (va_A [(h0, .inr (0, [.ref st, v1, v2, v3, v4, v5, v6, v7, v8, v9, v10])), (st, .inr (8, [.int 0, .int 0, .int 0, w3, w4, w5, w6, w7, w8, w9, w10, w11, w12, w13, w14, w15, w16, w17, w18, w19])), (ou, .inl (dC 101, 1, .inr (.inl f0)))] sz) [(ou, .inl (dC 101, 1, .inr (.inl u)))] t) (va_A [(h0, .inr (0, [.ref st, v1, v2, v3, v4, v5, v6, v7, v8, v9, v10])), (st, .inr (8, [.int 0, .int 0, .int 0, w3, w4, w5, w6, w7, w8, w9, w10, w11, w12, w13, w14, w15, w16, w17, w18, w19])), (ou, .inl (dC 101, 1, .inr (.inl f0)))] sz)) 1 6 (va_A [(h0, .inr (0, [.ref st, v1, v2, v3, v4, v5, v6, v7, v8, v9, v10])), (st, .inr (8, [.int 0, .int 0, .int 0, w3, w4, w5, w6, w7, w8, w9, w10, w11, w12, w13, w14, w15, w16, w17, w18, w19])), (ou, .inl (dC 101, 1, .inr (.inl f0)))] sz) := by
  refine va_MetW (cc := cM_L_through) (maxL := 6) (ret := (some .int)) (by decide) rfl ?_
  intro p e s m args below meth c s₁ B hml hv
  obtain ⟨rfl, hsz, hP, hD0, hK, hN⟩ := hv
  have hx := B.exec
  have hb := B.bytes
  have hr := B.returns
  have hbg : ∀ w ∈ BIG, w.before ([.ref h0, .int p0, .int p1, .int p2, .ref ou] : List Value).toArray s = true := fun w h => atoms_spec (ws := (wmW yM_L_through cM_L_through 6 (some .int) [(0, 12, 15, 21)])) B.pre w (List.mem_cons_of_mem _ h)
  have hown : s.vm.findClass "NoteDocumentLaw" = some m.cls := findClass_of_methodNamed B.named
  have hlocks := B.notSynchronized
  have hTab : c.exceptionTable.toList = tableOf [(0, 12, 15, 21)] := vx_table (x := yM_L_through) B (atoms_spec (ws := (wmW yM_L_through cM_L_through 6 (some .int) [(0, 12, 15, 21)])) B.pre _ List.mem_cons_self)
  subst hsz
  have hD := hD0.self (sz := s.heap.size)
  generalize hAe : va_A [(h0, .inr (0, [.ref st, v1, v2, v3, v4, v5, v6, v7, v8, v9, v10])), (st, .inr (8, [.int 0, .int 0, .int 0, w3, w4, w5, w6, w7, w8, w9, w10, w11, w12, w13, w14, w15, w16, w17, w18, w19])), (ou, .inl (dC 101, 1, .inr (.inl f0)))] s.heap.size = A at hD hN ⊢
  have hA : ∀ q : Nat, s.heap.size ≤ q → A q := fun q h => by rw [← hAe]; exact Or.inr h
  have hS : va_S A s.heap s.heap [] := va_S.rf
  have hP : va_P (dC, dI) classes [(h0, .inr (0, [.ref st, v1, v2, v3, v4, v5, v6, v7, v8, v9, v10])), (st, .inr (8, [.int 0, .int 0, .int 0, w3, w4, w5, w6, w7, w8, w9, w10, w11, w12, w13, w14, w15, w16, w17, w18, w19])), (ou, .inl (dC 101, 1, .inr (.inl f0)))] s.heap := hP
  have hl := lv_entry ([.ref h0, .int p0, .int p1, .int p2, .ref ou] : List Value) (n := 6) (Nat.le_of_ble_eq_true rfl)
  rw [lg_entry_eq]
  generalize (lg_sl ([.ref h0, .int p0, .int p1, .int p2, .ref ou] : List Value) ++ List.replicate (6 - (lg_sl ([.ref h0, .int p0, .int p1, .int p2, .ref ou] : List Value)).length) Slot.unset).toArray = ls at hl ⊢
  have hl : lv_has ls 6 [(0, .ref h0), (1, .int p0), (2, .int p1), (3, .int p2), (4, .ref ou)] := hl
  refine lv_aload hx hb dM_L_through_0 (lv_at hl 4 rfl) ?_
  refine lv_iconst (v := 0) hx hb dM_L_through_2 (by decide) ?_
  refine lv_aload_n hx hb dM_L_through_3 rfl (lv_at hl 0 rfl) ?_
  refine lv_iload_n hx hb dM_L_through_4 rfl (lv_at hl 1 rfl) ?_
  refine lv_iload_n hx hb dM_L_through_5 rfl (lv_at hl 2 rfl) ?_
  refine lv_iload_n hx hb dM_L_through_6 rfl (lv_at hl 3 rfl) ?_
  have hFc := va_free (wc := [(h0, .inr (0, [.ref st, v1, v2, v3, v4, v5, v6, v7, v8, v9, v10])), (st, .inr (8, [.int 0, .int 0, .int 0, w3, w4, w5, w6, w7, w8, w9, w10, w11, w12, w13, w14, w15, w16, w17, w18, w19]))]) hD hS hA [0, 1] rfl
  refine vx_calli (vx_runV (As := [.int p0, .int p1, .int p2]) (rest := [.int 0, .ref ou]) ⟨hx, hb, hml, hown, hbg⟩ (c_D_through l hl9 dC dI h0 p0 p1 p2 st v1 v2 v3 v4 v5 v6 v7 v8 v9 v10 w3 w4 w5 w6 w7 w8 w9 w10 w11 w12 w13 w14 w15 w16 w17 w18 w19 _ ) (cwV 3 hbg (gd_V (fun _ h => h) wd_1430 wd_1431 wd_1432 wd_1 (gd_wm (fun _ h => h) wd_1433)) rfl rfl rfl (by decide +kernel) ⟨Nat.le_of_ble_eq_true rfl, Nat.le_of_ble_eq_true rfl⟩) (nPreV [0, 1] hP hD hK hN hS hA (by decide) rfl 0 rfl rfl) rfl rfl hl.1 rfl (lv_room (Nat.le_of_ble_eq_true rfl)) dM_L_through_7 ⟨Nat.le_of_ble_eq_true rfl, Nat.le_of_ble_eq_true rfl⟩) hS (fun q _ h => hFc q h) hFc (fun q _ h => hFc q h) (fun E ce q9 u t H1 locs ht hvm hpx hBX hz1 hk1 hS hq9 hcv hcl => ?_) (fun r_1 u t H1 locs ht hvm hw hB hz1 hk1 hS => ?_)
  · --
    obtain ⟨hP, hD⟩ := va_join (wr := [(ou, .inl (dC 101, 1, .inr (.inl f0)))]) (w1 := []) hP hD [0, 1] [2] rfl rfl (by decide) (by decide) hk1 hFc nP0 nD0
    generalize H1 = H at hP hS hq9 ⊢
    have hP : va_P (dC, dI) classes [(ou, .inl (dC 101, 1, .inr (.inl f0)))] H := hP
    have hD : va_D A [(ou, .inl (dC 101, 1, .inr (.inl f0)))] := hD
    obtain rfl := hBX
    refine vx_catch (own := "NoteDocumentLaw") (name := "java/lang/IndexOutOfBoundsException") (E := "java/lang/IndexOutOfBoundsException") hown [] ⟨0, 12, 15, 21⟩ [] (by rw [hTab]; rfl) (fun z hz => nomatch hz) (by decide) (by decide) (hbg _ wd_1117) (va_Nw.use rfl (hK.2.1 _ wx_1128)) hq9 hcv hcl ?_
    refine W.widen (k := 1) (n := 6) (Nat.le_of_ble_eq_true rfl) (Nat.le_of_ble_eq_true rfl) ?_
    refine lv_astore (lv' := [(5, .ref q9), (0, .ref h0), (1, .int p0), (2, .int p1), (3, .int p2), (4, .ref ou)]) hx hb dM_L_through_15 hl (by decide) rfl (fun ls hl => ?_)
    refine lv_iconst (v := 1) hx hb dM_L_through_17 (by decide) ?_
    have hP9 := hP.pick (wc := [(ou, .inl (dC 101, 1, .inr (.inl f0)))]) [0] rfl
    have hD9 := hD.sub (ws' := [(ou, .inl (dC 101, 1, .inr (.inl f0)))]) [0] (by decide) rfl
    exact W.iret (v := 1) hx hb hr (fun t ht hW => ⟨⟨1, (f0), rfl, ⟨rfl, rfl⟩, ⟨(by rw [ht]; exact hP9), hD9⟩⟩, hS.F ht⟩) hS.2.2 dM_L_through_18
  · --
    exact hw.elim
set_option maxHeartbeats 4000000 in
set_option maxRecDepth 100000 in
theorem c_L_cause (l : Launch) (hl9 : l.stackTraces = false) (dC : Nat → ClassId) (dI : Nat → Nat → Nat) (h0 : Nat) (p0 : Int32) (p1 : Int32) (p2 : Int32) (ou : Nat) (st : Nat) (v1 : Value) (v2 : Value) (v3 : Value) (v4 : Value) (v5 : Value) (v6 : Value) (v7 : Value) (v8 : Value) (v9 : Value) (v10 : Value) (w3 : Value) (w4 : Value) (w5 : Value) (w6 : Value) (w7 : Value) (w8 : Value) (w9 : Value) (w10 : Value) (w11 : Value) (w12 : Value) (w13 : Value) (w14 : Value) (w15 : Value) (w16 : Value) (w17 : Value) (w18 : Value) (w19 : Value) (f0 : Nat → Int64) (sz : Nat) : Met l yM_L_cause (wmW yM_L_cause cM_L_cause 6 (some .int) [(0, 12, 15, 21)]) ({ frames := 140, cells := 1, slots := 6, locals := 2800 }) (nPc [.ref h0, .int p0, .int p1, .int p2, .ref ou] (dC, dI) [(h0, .inr (0, [.ref st, v1, v2, v3, v4, v5, v6, v7, v8, v9, v10])), (st, .inr (8, [.int 0, .int 0, .int 0, w3, w4, w5, w6, w7, w8, w9, w10, w11, w12, w13, w14, w15, w16, w17, w18, w19])), (ou, .inl (dC 101, 1, .inr (.inl f0)))] sz) (va_Qi (fun (r : Int32) (u : Nat → Int64) => r = 1 ∧ u = f0) (fun (u : Nat → Int64) t => nB (dC, dI) (va_A [(h0, .inr (0, [.ref st, v1, v2, v3, v4, v5, v6, v7, v8, v9, v10])), (st, .inr (8, [.int 0, .int 0, .int 0, w3, w4, w5, w6, w7, w8, w9, w10, w11, w12, w13, w14, w15, w16, w17, w18, w19])), (ou, .inl (dC 101, 1, .inr (.inl f0)))] sz) [(ou, .inl (dC 101, 1, .inr (.inl u)))] t) (va_A [(h0, .inr (0, [.ref st, v1, v2, v3, v4, v5, v6, v7, v8, v9, v10])), (st, .inr (8, [.int 0, .int 0, .int 0, w3, w4, w5, w6, w7, w8, w9, w10, w11, w12, w13, w14, w15, w16, w17, w18, w19])), (ou, .inl (dC 101, 1, .inr (.inl f0)))] sz)) 1 6 (va_A [(h0, .inr (0, [.ref st, v1, v2, v3, v4, v5, v6, v7, v8, v9, v10])), (st, .inr (8, [.int 0, .int 0, .int 0, w3, w4, w5, w6, w7, w8, w9, w10, w11, w12, w13, w14, w15, w16, w17, w18, w19])), (ou, .inl (dC 101, 1, .inr (.inl f0)))] sz) := by
  refine va_MetW (cc := cM_L_cause) (maxL := 6) (ret := (some .int)) (by decide) rfl ?_
  intro p e s m args below meth c s₁ B hml hv
  obtain ⟨rfl, hsz, hP, hD0, hK, hN⟩ := hv
  have hx := B.exec
  have hb := B.bytes
  have hr := B.returns
  have hbg : ∀ w ∈ BIG, w.before ([.ref h0, .int p0, .int p1, .int p2, .ref ou] : List Value).toArray s = true := fun w h => atoms_spec (ws := (wmW yM_L_cause cM_L_cause 6 (some .int) [(0, 12, 15, 21)])) B.pre w (List.mem_cons_of_mem _ h)
  have hown : s.vm.findClass "NoteDocumentLaw" = some m.cls := findClass_of_methodNamed B.named
  have hlocks := B.notSynchronized
  have hTab : c.exceptionTable.toList = tableOf [(0, 12, 15, 21)] := vx_table (x := yM_L_cause) B (atoms_spec (ws := (wmW yM_L_cause cM_L_cause 6 (some .int) [(0, 12, 15, 21)])) B.pre _ List.mem_cons_self)
  subst hsz
  have hD := hD0.self (sz := s.heap.size)
  generalize hAe : va_A [(h0, .inr (0, [.ref st, v1, v2, v3, v4, v5, v6, v7, v8, v9, v10])), (st, .inr (8, [.int 0, .int 0, .int 0, w3, w4, w5, w6, w7, w8, w9, w10, w11, w12, w13, w14, w15, w16, w17, w18, w19])), (ou, .inl (dC 101, 1, .inr (.inl f0)))] s.heap.size = A at hD hN ⊢
  have hA : ∀ q : Nat, s.heap.size ≤ q → A q := fun q h => by rw [← hAe]; exact Or.inr h
  have hS : va_S A s.heap s.heap [] := va_S.rf
  have hP : va_P (dC, dI) classes [(h0, .inr (0, [.ref st, v1, v2, v3, v4, v5, v6, v7, v8, v9, v10])), (st, .inr (8, [.int 0, .int 0, .int 0, w3, w4, w5, w6, w7, w8, w9, w10, w11, w12, w13, w14, w15, w16, w17, w18, w19])), (ou, .inl (dC 101, 1, .inr (.inl f0)))] s.heap := hP
  have hl := lv_entry ([.ref h0, .int p0, .int p1, .int p2, .ref ou] : List Value) (n := 6) (Nat.le_of_ble_eq_true rfl)
  rw [lg_entry_eq]
  generalize (lg_sl ([.ref h0, .int p0, .int p1, .int p2, .ref ou] : List Value) ++ List.replicate (6 - (lg_sl ([.ref h0, .int p0, .int p1, .int p2, .ref ou] : List Value)).length) Slot.unset).toArray = ls at hl ⊢
  have hl : lv_has ls 6 [(0, .ref h0), (1, .int p0), (2, .int p1), (3, .int p2), (4, .ref ou)] := hl
  refine lv_aload hx hb dM_L_cause_0 (lv_at hl 4 rfl) ?_
  refine lv_iconst (v := 0) hx hb dM_L_cause_2 (by decide) ?_
  refine lv_aload_n hx hb dM_L_cause_3 rfl (lv_at hl 0 rfl) ?_
  refine lv_iload_n hx hb dM_L_cause_4 rfl (lv_at hl 1 rfl) ?_
  refine lv_iload_n hx hb dM_L_cause_5 rfl (lv_at hl 2 rfl) ?_
  refine lv_iload_n hx hb dM_L_cause_6 rfl (lv_at hl 3 rfl) ?_
  have hFc := va_free (wc := [(h0, .inr (0, [.ref st, v1, v2, v3, v4, v5, v6, v7, v8, v9, v10])), (st, .inr (8, [.int 0, .int 0, .int 0, w3, w4, w5, w6, w7, w8, w9, w10, w11, w12, w13, w14, w15, w16, w17, w18, w19]))]) hD hS hA [0, 1] rfl
  refine vx_calli (vx_runV (As := [.int p0, .int p1, .int p2]) (rest := [.int 0, .ref ou]) ⟨hx, hb, hml, hown, hbg⟩ (c_D_cause l hl9 dC dI h0 p0 p1 p2 st v1 v2 v3 v4 v5 v6 v7 v8 v9 v10 w3 w4 w5 w6 w7 w8 w9 w10 w11 w12 w13 w14 w15 w16 w17 w18 w19 _ ) (cwV 3 hbg (gd_V (fun _ h => h) wd_1442 wd_1443 wd_1444 wd_1 (gd_wm (fun _ h => h) wd_1445)) rfl rfl rfl (by decide +kernel) ⟨Nat.le_of_ble_eq_true rfl, Nat.le_of_ble_eq_true rfl⟩) (nPreV [0, 1] hP hD hK hN hS hA (by decide) rfl 0 rfl rfl) rfl rfl hl.1 rfl (lv_room (Nat.le_of_ble_eq_true rfl)) dM_L_cause_7 ⟨Nat.le_of_ble_eq_true rfl, Nat.le_of_ble_eq_true rfl⟩) hS (fun q _ h => hFc q h) hFc (fun q _ h => hFc q h) (fun E ce q9 u t H1 locs ht hvm hpx hBX hz1 hk1 hS hq9 hcv hcl => ?_) (fun r_1 u t H1 locs ht hvm hw hB hz1 hk1 hS => ?_)
  · --
    obtain ⟨hP, hD⟩ := va_join (wr := [(ou, .inl (dC 101, 1, .inr (.inl f0)))]) (w1 := []) hP hD [0, 1] [2] rfl rfl (by decide) (by decide) hk1 hFc nP0 nD0
    generalize H1 = H at hP hS hq9 ⊢
    have hP : va_P (dC, dI) classes [(ou, .inl (dC 101, 1, .inr (.inl f0)))] H := hP
    have hD : va_D A [(ou, .inl (dC 101, 1, .inr (.inl f0)))] := hD
    obtain rfl := hBX
    refine vx_catch (own := "NoteDocumentLaw") (name := "java/lang/IndexOutOfBoundsException") (E := "java/lang/IndexOutOfBoundsException") hown [] ⟨0, 12, 15, 21⟩ [] (by rw [hTab]; rfl) (fun z hz => nomatch hz) (by decide) (by decide) (hbg _ wd_1117) (va_Nw.use rfl (hK.2.1 _ wx_1128)) hq9 hcv hcl ?_
    refine W.widen (k := 1) (n := 6) (Nat.le_of_ble_eq_true rfl) (Nat.le_of_ble_eq_true rfl) ?_
    refine lv_astore (lv' := [(5, .ref q9), (0, .ref h0), (1, .int p0), (2, .int p1), (3, .int p2), (4, .ref ou)]) hx hb dM_L_cause_15 hl (by decide) rfl (fun ls hl => ?_)
    refine lv_iconst (v := 1) hx hb dM_L_cause_17 (by decide) ?_
    have hP9 := hP.pick (wc := [(ou, .inl (dC 101, 1, .inr (.inl f0)))]) [0] rfl
    have hD9 := hD.sub (ws' := [(ou, .inl (dC 101, 1, .inr (.inl f0)))]) [0] (by decide) rfl
    exact W.iret (v := 1) hx hb hr (fun t ht hW => ⟨⟨1, (f0), rfl, ⟨rfl, rfl⟩, ⟨(by rw [ht]; exact hP9), hD9⟩⟩, hS.F ht⟩) hS.2.2 dM_L_cause_18
  · --
    exact hw.elim
set_option maxHeartbeats 4000000 in
set_option maxRecDepth 100000 in
theorem c_L_kindFromNothing (l : Launch) (hl9 : l.stackTraces = false) (dC : Nat → ClassId) (dI : Nat → Nat → Nat) (h0 : Nat) (p0 : Int32) (p1 : Int32) (p2 : Int32) (ou : Nat) (st : Nat) (v1 : Value) (v2 : Value) (v3 : Value) (v4 : Value) (v5 : Value) (v6 : Value) (v7 : Value) (v8 : Value) (v9 : Value) (v10 : Value) (w3 : Value) (w4 : Value) (w5 : Value) (w6 : Value) (w7 : Value) (w8 : Value) (w9 : Value) (w10 : Value) (w11 : Value) (w12 : Value) (w13 : Value) (w14 : Value) (w15 : Value) (w16 : Value) (w17 : Value) (w18 : Value) (w19 : Value) (f0 : Nat → Int64) (sz : Nat) : Met l yM_L_kindFromNothing (wmW yM_L_kindFromNothing cM_L_kindFromNothing 6 (some .int) [(0, 12, 15, 21)]) ({ frames := 140, cells := 1, slots := 6, locals := 2800 }) (nPc [.ref h0, .int p0, .int p1, .int p2, .ref ou] (dC, dI) [(h0, .inr (0, [.ref st, v1, v2, v3, v4, v5, v6, v7, v8, v9, v10])), (st, .inr (8, [.int 0, .int 0, .int 0, w3, w4, w5, w6, w7, w8, w9, w10, w11, w12, w13, w14, w15, w16, w17, w18, w19])), (ou, .inl (dC 101, 1, .inr (.inl f0)))] sz) (va_Qi (fun (r : Int32) (u : Nat → Int64) => r = 1 ∧ u = f0) (fun (u : Nat → Int64) t => nB (dC, dI) (va_A [(h0, .inr (0, [.ref st, v1, v2, v3, v4, v5, v6, v7, v8, v9, v10])), (st, .inr (8, [.int 0, .int 0, .int 0, w3, w4, w5, w6, w7, w8, w9, w10, w11, w12, w13, w14, w15, w16, w17, w18, w19])), (ou, .inl (dC 101, 1, .inr (.inl f0)))] sz) [(ou, .inl (dC 101, 1, .inr (.inl u)))] t) (va_A [(h0, .inr (0, [.ref st, v1, v2, v3, v4, v5, v6, v7, v8, v9, v10])), (st, .inr (8, [.int 0, .int 0, .int 0, w3, w4, w5, w6, w7, w8, w9, w10, w11, w12, w13, w14, w15, w16, w17, w18, w19])), (ou, .inl (dC 101, 1, .inr (.inl f0)))] sz)) 1 6 (va_A [(h0, .inr (0, [.ref st, v1, v2, v3, v4, v5, v6, v7, v8, v9, v10])), (st, .inr (8, [.int 0, .int 0, .int 0, w3, w4, w5, w6, w7, w8, w9, w10, w11, w12, w13, w14, w15, w16, w17, w18, w19])), (ou, .inl (dC 101, 1, .inr (.inl f0)))] sz) := by
  refine va_MetW (cc := cM_L_kindFromNothing) (maxL := 6) (ret := (some .int)) (by decide) rfl ?_
  intro p e s m args below meth c s₁ B hml hv
  obtain ⟨rfl, hsz, hP, hD0, hK, hN⟩ := hv
  have hx := B.exec
  have hb := B.bytes
  have hr := B.returns
  have hbg : ∀ w ∈ BIG, w.before ([.ref h0, .int p0, .int p1, .int p2, .ref ou] : List Value).toArray s = true := fun w h => atoms_spec (ws := (wmW yM_L_kindFromNothing cM_L_kindFromNothing 6 (some .int) [(0, 12, 15, 21)])) B.pre w (List.mem_cons_of_mem _ h)
  have hown : s.vm.findClass "NoteDocumentLaw" = some m.cls := findClass_of_methodNamed B.named
  have hlocks := B.notSynchronized
  have hTab : c.exceptionTable.toList = tableOf [(0, 12, 15, 21)] := vx_table (x := yM_L_kindFromNothing) B (atoms_spec (ws := (wmW yM_L_kindFromNothing cM_L_kindFromNothing 6 (some .int) [(0, 12, 15, 21)])) B.pre _ List.mem_cons_self)
  subst hsz
  have hD := hD0.self (sz := s.heap.size)
  generalize hAe : va_A [(h0, .inr (0, [.ref st, v1, v2, v3, v4, v5, v6, v7, v8, v9, v10])), (st, .inr (8, [.int 0, .int 0, .int 0, w3, w4, w5, w6, w7, w8, w9, w10, w11, w12, w13, w14, w15, w16, w17, w18, w19])), (ou, .inl (dC 101, 1, .inr (.inl f0)))] s.heap.size = A at hD hN ⊢
  have hA : ∀ q : Nat, s.heap.size ≤ q → A q := fun q h => by rw [← hAe]; exact Or.inr h
  have hS : va_S A s.heap s.heap [] := va_S.rf
  have hP : va_P (dC, dI) classes [(h0, .inr (0, [.ref st, v1, v2, v3, v4, v5, v6, v7, v8, v9, v10])), (st, .inr (8, [.int 0, .int 0, .int 0, w3, w4, w5, w6, w7, w8, w9, w10, w11, w12, w13, w14, w15, w16, w17, w18, w19])), (ou, .inl (dC 101, 1, .inr (.inl f0)))] s.heap := hP
  have hl := lv_entry ([.ref h0, .int p0, .int p1, .int p2, .ref ou] : List Value) (n := 6) (Nat.le_of_ble_eq_true rfl)
  rw [lg_entry_eq]
  generalize (lg_sl ([.ref h0, .int p0, .int p1, .int p2, .ref ou] : List Value) ++ List.replicate (6 - (lg_sl ([.ref h0, .int p0, .int p1, .int p2, .ref ou] : List Value)).length) Slot.unset).toArray = ls at hl ⊢
  have hl : lv_has ls 6 [(0, .ref h0), (1, .int p0), (2, .int p1), (3, .int p2), (4, .ref ou)] := hl
  refine lv_aload hx hb dM_L_kindFromNothing_0 (lv_at hl 4 rfl) ?_
  refine lv_iconst (v := 0) hx hb dM_L_kindFromNothing_2 (by decide) ?_
  refine lv_aload_n hx hb dM_L_kindFromNothing_3 rfl (lv_at hl 0 rfl) ?_
  refine lv_iload_n hx hb dM_L_kindFromNothing_4 rfl (lv_at hl 1 rfl) ?_
  refine lv_iload_n hx hb dM_L_kindFromNothing_5 rfl (lv_at hl 2 rfl) ?_
  refine lv_iload_n hx hb dM_L_kindFromNothing_6 rfl (lv_at hl 3 rfl) ?_
  have hFc := va_free (wc := [(h0, .inr (0, [.ref st, v1, v2, v3, v4, v5, v6, v7, v8, v9, v10])), (st, .inr (8, [.int 0, .int 0, .int 0, w3, w4, w5, w6, w7, w8, w9, w10, w11, w12, w13, w14, w15, w16, w17, w18, w19]))]) hD hS hA [0, 1] rfl
  refine vx_calli (vx_runV (As := [.int p0, .int p1, .int p2]) (rest := [.int 0, .ref ou]) ⟨hx, hb, hml, hown, hbg⟩ (c_D_kindFromNothing l hl9 dC dI h0 p0 p1 p2 st v1 v2 v3 v4 v5 v6 v7 v8 v9 v10 w3 w4 w5 w6 w7 w8 w9 w10 w11 w12 w13 w14 w15 w16 w17 w18 w19 _ ) (cwV 3 hbg (gd_V (fun _ h => h) wd_1457 wd_1458 wd_1459 wd_1 (gd_wm (fun _ h => h) wd_1460)) rfl rfl rfl (by decide +kernel) ⟨Nat.le_of_ble_eq_true rfl, Nat.le_of_ble_eq_true rfl⟩) (nPreV [0, 1] hP hD hK hN hS hA (by decide) rfl 0 rfl rfl) rfl rfl hl.1 rfl (lv_room (Nat.le_of_ble_eq_true rfl)) dM_L_kindFromNothing_7 ⟨Nat.le_of_ble_eq_true rfl, Nat.le_of_ble_eq_true rfl⟩) hS (fun q _ h => hFc q h) hFc (fun q _ h => hFc q h) (fun E ce q9 u t H1 locs ht hvm hpx hBX hz1 hk1 hS hq9 hcv hcl => ?_) (fun r_1 u t H1 locs ht hvm hw hB hz1 hk1 hS => ?_)
  · --
    obtain ⟨hP, hD⟩ := va_join (wr := [(ou, .inl (dC 101, 1, .inr (.inl f0)))]) (w1 := []) hP hD [0, 1] [2] rfl rfl (by decide) (by decide) hk1 hFc nP0 nD0
    generalize H1 = H at hP hS hq9 ⊢
    have hP : va_P (dC, dI) classes [(ou, .inl (dC 101, 1, .inr (.inl f0)))] H := hP
    have hD : va_D A [(ou, .inl (dC 101, 1, .inr (.inl f0)))] := hD
    obtain rfl := hBX
    refine vx_catch (own := "NoteDocumentLaw") (name := "java/lang/IndexOutOfBoundsException") (E := "java/lang/IndexOutOfBoundsException") hown [] ⟨0, 12, 15, 21⟩ [] (by rw [hTab]; rfl) (fun z hz => nomatch hz) (by decide) (by decide) (hbg _ wd_1117) (va_Nw.use rfl (hK.2.1 _ wx_1128)) hq9 hcv hcl ?_
    refine W.widen (k := 1) (n := 6) (Nat.le_of_ble_eq_true rfl) (Nat.le_of_ble_eq_true rfl) ?_
    refine lv_astore (lv' := [(5, .ref q9), (0, .ref h0), (1, .int p0), (2, .int p1), (3, .int p2), (4, .ref ou)]) hx hb dM_L_kindFromNothing_15 hl (by decide) rfl (fun ls hl => ?_)
    refine lv_iconst (v := 1) hx hb dM_L_kindFromNothing_17 (by decide) ?_
    have hP9 := hP.pick (wc := [(ou, .inl (dC 101, 1, .inr (.inl f0)))]) [0] rfl
    have hD9 := hD.sub (ws' := [(ou, .inl (dC 101, 1, .inr (.inl f0)))]) [0] (by decide) rfl
    exact W.iret (v := 1) hx hb hr (fun t ht hW => ⟨⟨1, (f0), rfl, ⟨rfl, rfl⟩, ⟨(by rw [ht]; exact hP9), hD9⟩⟩, hS.F ht⟩) hS.2.2 dM_L_kindFromNothing_18
  · --
    exact hw.elim
set_option maxHeartbeats 4000000 in
set_option maxRecDepth 100000 in
theorem c_L_valueFromNothing (l : Launch) (hl9 : l.stackTraces = false) (dC : Nat → ClassId) (dI : Nat → Nat → Nat) (h0 : Nat) (p0 : Int32) (p1 : Int32) (p2 : Int32) (ou : Nat) (st : Nat) (v1 : Value) (v2 : Value) (v3 : Value) (v4 : Value) (v5 : Value) (v6 : Value) (v7 : Value) (v8 : Value) (v9 : Value) (v10 : Value) (w3 : Value) (w4 : Value) (w5 : Value) (w6 : Value) (w7 : Value) (w8 : Value) (w9 : Value) (w10 : Value) (w11 : Value) (w12 : Value) (w13 : Value) (w14 : Value) (w15 : Value) (w16 : Value) (w17 : Value) (w18 : Value) (w19 : Value) (f0 : Nat → Int64) (sz : Nat) : Met l yM_L_valueFromNothing (wmW yM_L_valueFromNothing cM_L_valueFromNothing 6 (some .int) [(0, 11, 14, 21)]) ({ frames := 140, cells := 1, slots := 6, locals := 2800 }) (nPc [.ref h0, .int p0, .int p1, .int p2, .ref ou] (dC, dI) [(h0, .inr (0, [.ref st, v1, v2, v3, v4, v5, v6, v7, v8, v9, v10])), (st, .inr (8, [.int 0, .int 0, .int 0, w3, w4, w5, w6, w7, w8, w9, w10, w11, w12, w13, w14, w15, w16, w17, w18, w19])), (ou, .inl (dC 101, 1, .inr (.inl f0)))] sz) (va_Qi (fun (r : Int32) (u : Nat → Int64) => r = 1 ∧ u = f0) (fun (u : Nat → Int64) t => nB (dC, dI) (va_A [(h0, .inr (0, [.ref st, v1, v2, v3, v4, v5, v6, v7, v8, v9, v10])), (st, .inr (8, [.int 0, .int 0, .int 0, w3, w4, w5, w6, w7, w8, w9, w10, w11, w12, w13, w14, w15, w16, w17, w18, w19])), (ou, .inl (dC 101, 1, .inr (.inl f0)))] sz) [(ou, .inl (dC 101, 1, .inr (.inl u)))] t) (va_A [(h0, .inr (0, [.ref st, v1, v2, v3, v4, v5, v6, v7, v8, v9, v10])), (st, .inr (8, [.int 0, .int 0, .int 0, w3, w4, w5, w6, w7, w8, w9, w10, w11, w12, w13, w14, w15, w16, w17, w18, w19])), (ou, .inl (dC 101, 1, .inr (.inl f0)))] sz)) 1 6 (va_A [(h0, .inr (0, [.ref st, v1, v2, v3, v4, v5, v6, v7, v8, v9, v10])), (st, .inr (8, [.int 0, .int 0, .int 0, w3, w4, w5, w6, w7, w8, w9, w10, w11, w12, w13, w14, w15, w16, w17, w18, w19])), (ou, .inl (dC 101, 1, .inr (.inl f0)))] sz) := by
  refine va_MetW (cc := cM_L_valueFromNothing) (maxL := 6) (ret := (some .int)) (by decide) rfl ?_
  intro p e s m args below meth c s₁ B hml hv
  obtain ⟨rfl, hsz, hP, hD0, hK, hN⟩ := hv
  have hx := B.exec
  have hb := B.bytes
  have hr := B.returns
  have hbg : ∀ w ∈ BIG, w.before ([.ref h0, .int p0, .int p1, .int p2, .ref ou] : List Value).toArray s = true := fun w h => atoms_spec (ws := (wmW yM_L_valueFromNothing cM_L_valueFromNothing 6 (some .int) [(0, 11, 14, 21)])) B.pre w (List.mem_cons_of_mem _ h)
  have hown : s.vm.findClass "NoteDocumentLaw" = some m.cls := findClass_of_methodNamed B.named
  have hlocks := B.notSynchronized
  have hTab : c.exceptionTable.toList = tableOf [(0, 11, 14, 21)] := vx_table (x := yM_L_valueFromNothing) B (atoms_spec (ws := (wmW yM_L_valueFromNothing cM_L_valueFromNothing 6 (some .int) [(0, 11, 14, 21)])) B.pre _ List.mem_cons_self)
  subst hsz
  have hD := hD0.self (sz := s.heap.size)
  generalize hAe : va_A [(h0, .inr (0, [.ref st, v1, v2, v3, v4, v5, v6, v7, v8, v9, v10])), (st, .inr (8, [.int 0, .int 0, .int 0, w3, w4, w5, w6, w7, w8, w9, w10, w11, w12, w13, w14, w15, w16, w17, w18, w19])), (ou, .inl (dC 101, 1, .inr (.inl f0)))] s.heap.size = A at hD hN ⊢
  have hA : ∀ q : Nat, s.heap.size ≤ q → A q := fun q h => by rw [← hAe]; exact Or.inr h
  have hS : va_S A s.heap s.heap [] := va_S.rf
  have hP : va_P (dC, dI) classes [(h0, .inr (0, [.ref st, v1, v2, v3, v4, v5, v6, v7, v8, v9, v10])), (st, .inr (8, [.int 0, .int 0, .int 0, w3, w4, w5, w6, w7, w8, w9, w10, w11, w12, w13, w14, w15, w16, w17, w18, w19])), (ou, .inl (dC 101, 1, .inr (.inl f0)))] s.heap := hP
  have hl := lv_entry ([.ref h0, .int p0, .int p1, .int p2, .ref ou] : List Value) (n := 6) (Nat.le_of_ble_eq_true rfl)
  rw [lg_entry_eq]
  generalize (lg_sl ([.ref h0, .int p0, .int p1, .int p2, .ref ou] : List Value) ++ List.replicate (6 - (lg_sl ([.ref h0, .int p0, .int p1, .int p2, .ref ou] : List Value)).length) Slot.unset).toArray = ls at hl ⊢
  have hl : lv_has ls 6 [(0, .ref h0), (1, .int p0), (2, .int p1), (3, .int p2), (4, .ref ou)] := hl
  refine lv_aload hx hb dM_L_valueFromNothing_0 (lv_at hl 4 rfl) ?_
  refine lv_iconst (v := 0) hx hb dM_L_valueFromNothing_2 (by decide) ?_
  refine lv_aload_n hx hb dM_L_valueFromNothing_3 rfl (lv_at hl 0 rfl) ?_
  refine lv_iload_n hx hb dM_L_valueFromNothing_4 rfl (lv_at hl 1 rfl) ?_
  refine lv_iload_n hx hb dM_L_valueFromNothing_5 rfl (lv_at hl 2 rfl) ?_
  refine lv_iload_n hx hb dM_L_valueFromNothing_6 rfl (lv_at hl 3 rfl) ?_
  have hFc := va_free (wc := [(h0, .inr (0, [.ref st, v1, v2, v3, v4, v5, v6, v7, v8, v9, v10])), (st, .inr (8, [.int 0, .int 0, .int 0, w3, w4, w5, w6, w7, w8, w9, w10, w11, w12, w13, w14, w15, w16, w17, w18, w19]))]) hD hS hA [0, 1] rfl
  refine vx_calll (vx_runV (As := [.int p0, .int p1, .int p2]) (rest := [.int 0, .ref ou]) ⟨hx, hb, hml, hown, hbg⟩ (c_D_valueFromNothing l hl9 dC dI h0 p0 p1 p2 st v1 v2 v3 v4 v5 v6 v7 v8 v9 v10 w3 w4 w5 w6 w7 w8 w9 w10 w11 w12 w13 w14 w15 w16 w17 w18 w19 _ ) (cwV 3 hbg (gd_V (fun _ h => h) wd_1464 wd_1465 wd_1466 wd_1 (gd_wm (fun _ h => h) wd_1467)) rfl rfl rfl (by decide +kernel) ⟨Nat.le_of_ble_eq_true rfl, Nat.le_of_ble_eq_true rfl⟩) (nPreV [0, 1] hP hD hK hN hS hA (by decide) rfl 0 rfl rfl) rfl rfl hl.1 rfl (lv_room (Nat.le_of_ble_eq_true rfl)) dM_L_valueFromNothing_7 ⟨Nat.le_of_ble_eq_true rfl, Nat.le_of_ble_eq_true rfl⟩) hS (fun q _ h => hFc q h) hFc (fun q _ h => hFc q h) (fun E ce q9 u t H1 locs ht hvm hpx hBX hz1 hk1 hS hq9 hcv hcl => ?_) (fun r_1 u t H1 locs ht hvm hw hB hz1 hk1 hS => ?_)
  · --
    obtain ⟨hP, hD⟩ := va_join (wr := [(ou, .inl (dC 101, 1, .inr (.inl f0)))]) (w1 := []) hP hD [0, 1] [2] rfl rfl (by decide) (by decide) hk1 hFc nP0 nD0
    generalize H1 = H at hP hS hq9 ⊢
    have hP : va_P (dC, dI) classes [(ou, .inl (dC 101, 1, .inr (.inl f0)))] H := hP
    have hD : va_D A [(ou, .inl (dC 101, 1, .inr (.inl f0)))] := hD
    obtain rfl := hBX
    refine vx_catch (own := "NoteDocumentLaw") (name := "java/lang/IndexOutOfBoundsException") (E := "java/lang/IndexOutOfBoundsException") hown [] ⟨0, 11, 14, 21⟩ [] (by rw [hTab]; rfl) (fun z hz => nomatch hz) (by decide) (by decide) (hbg _ wd_1117) (va_Nw.use rfl (hK.2.1 _ wx_1128)) hq9 hcv hcl ?_
    refine W.widen (k := 1) (n := 6) (Nat.le_of_ble_eq_true rfl) (Nat.le_of_ble_eq_true rfl) ?_
    refine lv_astore (lv' := [(5, .ref q9), (0, .ref h0), (1, .int p0), (2, .int p1), (3, .int p2), (4, .ref ou)]) hx hb dM_L_valueFromNothing_14 hl (by decide) rfl (fun ls hl => ?_)
    refine lv_iconst (v := 1) hx hb dM_L_valueFromNothing_16 (by decide) ?_
    have hP9 := hP.pick (wc := [(ou, .inl (dC 101, 1, .inr (.inl f0)))]) [0] rfl
    have hD9 := hD.sub (ws' := [(ou, .inl (dC 101, 1, .inr (.inl f0)))]) [0] (by decide) rfl
    exact W.iret (v := 1) hx hb hr (fun t ht hW => ⟨⟨1, (f0), rfl, ⟨rfl, rfl⟩, ⟨(by rw [ht]; exact hP9), hD9⟩⟩, hS.F ht⟩) hS.2.2 dM_L_valueFromNothing_17
  · --
    exact hw.elim
set_option maxHeartbeats 4000000 in
set_option maxRecDepth 100000 in
theorem c_L_length (l : Launch) (hl9 : l.stackTraces = false) (dC : Nat → ClassId) (dI : Nat → Nat → Nat) (h0 : Nat) (p0 : Int32) (ou : Nat) (st : Nat) (v1 : Value) (v2 : Value) (v3 : Value) (v4 : Value) (v5 : Value) (v6 : Value) (v7 : Value) (v8 : Value) (v9 : Value) (v10 : Value) (w3 : Value) (w4 : Value) (w5 : Value) (w6 : Value) (w7 : Value) (w8 : Value) (w9 : Value) (w10 : Value) (w11 : Value) (w12 : Value) (w13 : Value) (w14 : Value) (w15 : Value) (w16 : Value) (w17 : Value) (w18 : Value) (w19 : Value) (f0 : Nat → Int64) (sz : Nat) : Met l yM_L_length (wmW yM_L_length cM_L_length 4 (some .int) [(0, 9, 12, 21)]) ({ frames := 140, cells := 1, slots := 6, locals := 2800 }) (nPc [.ref h0, .int p0, .ref ou] (dC, dI) [(h0, .inr (0, [.ref st, v1, v2, v3, v4, v5, v6, v7, v8, v9, v10])), (st, .inr (8, [.int 0, .int 0, .int 0, w3, w4, w5, w6, w7, w8, w9, w10, w11, w12, w13, w14, w15, w16, w17, w18, w19])), (ou, .inl (dC 101, 1, .inr (.inl f0)))] sz) (va_Qi (fun (r : Int32) (u : Nat → Int64) => r = 1 ∧ u = f0) (fun (u : Nat → Int64) t => nB (dC, dI) (va_A [(h0, .inr (0, [.ref st, v1, v2, v3, v4, v5, v6, v7, v8, v9, v10])), (st, .inr (8, [.int 0, .int 0, .int 0, w3, w4, w5, w6, w7, w8, w9, w10, w11, w12, w13, w14, w15, w16, w17, w18, w19])), (ou, .inl (dC 101, 1, .inr (.inl f0)))] sz) [(ou, .inl (dC 101, 1, .inr (.inl u)))] t) (va_A [(h0, .inr (0, [.ref st, v1, v2, v3, v4, v5, v6, v7, v8, v9, v10])), (st, .inr (8, [.int 0, .int 0, .int 0, w3, w4, w5, w6, w7, w8, w9, w10, w11, w12, w13, w14, w15, w16, w17, w18, w19])), (ou, .inl (dC 101, 1, .inr (.inl f0)))] sz)) 1 6 (va_A [(h0, .inr (0, [.ref st, v1, v2, v3, v4, v5, v6, v7, v8, v9, v10])), (st, .inr (8, [.int 0, .int 0, .int 0, w3, w4, w5, w6, w7, w8, w9, w10, w11, w12, w13, w14, w15, w16, w17, w18, w19])), (ou, .inl (dC 101, 1, .inr (.inl f0)))] sz) := by
  refine va_MetW (cc := cM_L_length) (maxL := 4) (ret := (some .int)) (by decide) rfl ?_
  intro p e s m args below meth c s₁ B hml hv
  obtain ⟨rfl, hsz, hP, hD0, hK, hN⟩ := hv
  have hx := B.exec
  have hb := B.bytes
  have hr := B.returns
  have hbg : ∀ w ∈ BIG, w.before ([.ref h0, .int p0, .ref ou] : List Value).toArray s = true := fun w h => atoms_spec (ws := (wmW yM_L_length cM_L_length 4 (some .int) [(0, 9, 12, 21)])) B.pre w (List.mem_cons_of_mem _ h)
  have hown : s.vm.findClass "NoteDocumentLaw" = some m.cls := findClass_of_methodNamed B.named
  have hlocks := B.notSynchronized
  have hTab : c.exceptionTable.toList = tableOf [(0, 9, 12, 21)] := vx_table (x := yM_L_length) B (atoms_spec (ws := (wmW yM_L_length cM_L_length 4 (some .int) [(0, 9, 12, 21)])) B.pre _ List.mem_cons_self)
  subst hsz
  have hD := hD0.self (sz := s.heap.size)
  generalize hAe : va_A [(h0, .inr (0, [.ref st, v1, v2, v3, v4, v5, v6, v7, v8, v9, v10])), (st, .inr (8, [.int 0, .int 0, .int 0, w3, w4, w5, w6, w7, w8, w9, w10, w11, w12, w13, w14, w15, w16, w17, w18, w19])), (ou, .inl (dC 101, 1, .inr (.inl f0)))] s.heap.size = A at hD hN ⊢
  have hA : ∀ q : Nat, s.heap.size ≤ q → A q := fun q h => by rw [← hAe]; exact Or.inr h
  have hS : va_S A s.heap s.heap [] := va_S.rf
  have hP : va_P (dC, dI) classes [(h0, .inr (0, [.ref st, v1, v2, v3, v4, v5, v6, v7, v8, v9, v10])), (st, .inr (8, [.int 0, .int 0, .int 0, w3, w4, w5, w6, w7, w8, w9, w10, w11, w12, w13, w14, w15, w16, w17, w18, w19])), (ou, .inl (dC 101, 1, .inr (.inl f0)))] s.heap := hP
  have hl := lv_entry ([.ref h0, .int p0, .ref ou] : List Value) (n := 4) (Nat.le_of_ble_eq_true rfl)
  rw [lg_entry_eq]
  generalize (lg_sl ([.ref h0, .int p0, .ref ou] : List Value) ++ List.replicate (4 - (lg_sl ([.ref h0, .int p0, .ref ou] : List Value)).length) Slot.unset).toArray = ls at hl ⊢
  have hl : lv_has ls 4 [(0, .ref h0), (1, .int p0), (2, .ref ou)] := hl
  refine lv_aload_n hx hb dM_L_length_0 rfl (lv_at hl 2 rfl) ?_
  refine lv_iconst (v := 0) hx hb dM_L_length_1 (by decide) ?_
  refine lv_aload_n hx hb dM_L_length_2 rfl (lv_at hl 0 rfl) ?_
  refine lv_iload_n hx hb dM_L_length_3 rfl (lv_at hl 1 rfl) ?_
  have hFc := va_free (wc := [(h0, .inr (0, [.ref st, v1, v2, v3, v4, v5, v6, v7, v8, v9, v10])), (st, .inr (8, [.int 0, .int 0, .int 0, w3, w4, w5, w6, w7, w8, w9, w10, w11, w12, w13, w14, w15, w16, w17, w18, w19]))]) hD hS hA [0, 1] rfl
  refine vx_calli (vx_runV (As := [.int p0]) (rest := [.int 0, .ref ou]) ⟨hx, hb, hml, hown, hbg⟩ (c_D_length l hl9 dC dI h0 p0 st v1 v2 v3 v4 v5 v6 v7 v8 v9 v10 w3 w4 w5 w6 w7 w8 w9 w10 w11 w12 w13 w14 w15 w16 w17 w18 w19 _ ) (cwV 1 hbg (gd_V (fun _ h => h) wd_1471 wd_1472 wd_1473 wd_1 (gd_wm (fun _ h => h) wd_1474)) rfl rfl rfl (by decide +kernel) ⟨Nat.le_of_ble_eq_true rfl, Nat.le_of_ble_eq_true rfl⟩) (nPreV [0, 1] hP hD hK hN hS hA (by decide) rfl 0 rfl rfl) rfl rfl hl.1 rfl (lv_room (Nat.le_of_ble_eq_true rfl)) dM_L_length_4 ⟨Nat.le_of_ble_eq_true rfl, Nat.le_of_ble_eq_true rfl⟩) hS (fun q _ h => hFc q h) hFc (fun q _ h => hFc q h) (fun E ce q9 u t H1 locs ht hvm hpx hBX hz1 hk1 hS hq9 hcv hcl => ?_) (fun r_1 u t H1 locs ht hvm hw hB hz1 hk1 hS => ?_)
  · --
    obtain ⟨hP, hD⟩ := va_join (wr := [(ou, .inl (dC 101, 1, .inr (.inl f0)))]) (w1 := []) hP hD [0, 1] [2] rfl rfl (by decide) (by decide) hk1 hFc nP0 nD0
    generalize H1 = H at hP hS hq9 ⊢
    have hP : va_P (dC, dI) classes [(ou, .inl (dC 101, 1, .inr (.inl f0)))] H := hP
    have hD : va_D A [(ou, .inl (dC 101, 1, .inr (.inl f0)))] := hD
    obtain rfl := hBX
    refine vx_catch (own := "NoteDocumentLaw") (name := "java/lang/IndexOutOfBoundsException") (E := "java/lang/IndexOutOfBoundsException") hown [] ⟨0, 9, 12, 21⟩ [] (by rw [hTab]; rfl) (fun z hz => nomatch hz) (by decide) (by decide) (hbg _ wd_1117) (va_Nw.use rfl (hK.2.1 _ wx_1128)) hq9 hcv hcl ?_
    refine W.widen (k := 1) (n := 6) (Nat.le_of_ble_eq_true rfl) (Nat.le_of_ble_eq_true rfl) ?_
    refine lv_astore_n (lv' := [(3, .ref q9), (0, .ref h0), (1, .int p0), (2, .ref ou)]) hx hb dM_L_length_12 rfl hl (by decide) rfl (fun ls hl => ?_)
    refine lv_iconst (v := 1) hx hb dM_L_length_13 (by decide) ?_
    have hP9 := hP.pick (wc := [(ou, .inl (dC 101, 1, .inr (.inl f0)))]) [0] rfl
    have hD9 := hD.sub (ws' := [(ou, .inl (dC 101, 1, .inr (.inl f0)))]) [0] (by decide) rfl
    exact W.iret (v := 1) hx hb hr (fun t ht hW => ⟨⟨1, (f0), rfl, ⟨rfl, rfl⟩, ⟨(by rw [ht]; exact hP9), hD9⟩⟩, hS.F ht⟩) hS.2.2 dM_L_length_14
  · --
    exact hw.elim
set_option maxHeartbeats 4000000 in
set_option maxRecDepth 100000 in
theorem c_L_letter (l : Launch) (hl9 : l.stackTraces = false) (dC : Nat → ClassId) (dI : Nat → Nat → Nat) (h0 : Nat) (p0 : Int32) (p1 : Int32) (ou : Nat) (st : Nat) (v1 : Value) (v2 : Value) (v3 : Value) (v4 : Value) (v5 : Value) (v6 : Value) (v7 : Value) (v8 : Value) (v9 : Value) (v10 : Value) (w3 : Value) (w4 : Value) (w5 : Value) (w6 : Value) (w7 : Value) (w8 : Value) (w9 : Value) (w10 : Value) (w11 : Value) (w12 : Value) (w13 : Value) (w14 : Value) (w15 : Value) (w16 : Value) (w17 : Value) (w18 : Value) (w19 : Value) (f0 : Nat → Int64) (sz : Nat) : Met l yM_L_letter (wmW yM_L_letter cM_L_letter 5 (some .int) [(0, 10, 13, 21)]) ({ frames := 140, cells := 1, slots := 6, locals := 2800 }) (nPc [.ref h0, .int p0, .int p1, .ref ou] (dC, dI) [(h0, .inr (0, [.ref st, v1, v2, v3, v4, v5, v6, v7, v8, v9, v10])), (st, .inr (8, [.int 0, .int 0, .int 0, w3, w4, w5, w6, w7, w8, w9, w10, w11, w12, w13, w14, w15, w16, w17, w18, w19])), (ou, .inl (dC 101, 1, .inr (.inl f0)))] sz) (va_Qi (fun (r : Int32) (u : Nat → Int64) => r = 1 ∧ u = f0) (fun (u : Nat → Int64) t => nB (dC, dI) (va_A [(h0, .inr (0, [.ref st, v1, v2, v3, v4, v5, v6, v7, v8, v9, v10])), (st, .inr (8, [.int 0, .int 0, .int 0, w3, w4, w5, w6, w7, w8, w9, w10, w11, w12, w13, w14, w15, w16, w17, w18, w19])), (ou, .inl (dC 101, 1, .inr (.inl f0)))] sz) [(ou, .inl (dC 101, 1, .inr (.inl u)))] t) (va_A [(h0, .inr (0, [.ref st, v1, v2, v3, v4, v5, v6, v7, v8, v9, v10])), (st, .inr (8, [.int 0, .int 0, .int 0, w3, w4, w5, w6, w7, w8, w9, w10, w11, w12, w13, w14, w15, w16, w17, w18, w19])), (ou, .inl (dC 101, 1, .inr (.inl f0)))] sz)) 1 6 (va_A [(h0, .inr (0, [.ref st, v1, v2, v3, v4, v5, v6, v7, v8, v9, v10])), (st, .inr (8, [.int 0, .int 0, .int 0, w3, w4, w5, w6, w7, w8, w9, w10, w11, w12, w13, w14, w15, w16, w17, w18, w19])), (ou, .inl (dC 101, 1, .inr (.inl f0)))] sz) := by
  refine va_MetW (cc := cM_L_letter) (maxL := 5) (ret := (some .int)) (by decide) rfl ?_
  intro p e s m args below meth c s₁ B hml hv
  obtain ⟨rfl, hsz, hP, hD0, hK, hN⟩ := hv
  have hx := B.exec
  have hb := B.bytes
  have hr := B.returns
  have hbg : ∀ w ∈ BIG, w.before ([.ref h0, .int p0, .int p1, .ref ou] : List Value).toArray s = true := fun w h => atoms_spec (ws := (wmW yM_L_letter cM_L_letter 5 (some .int) [(0, 10, 13, 21)])) B.pre w (List.mem_cons_of_mem _ h)
  have hown : s.vm.findClass "NoteDocumentLaw" = some m.cls := findClass_of_methodNamed B.named
  have hlocks := B.notSynchronized
  have hTab : c.exceptionTable.toList = tableOf [(0, 10, 13, 21)] := vx_table (x := yM_L_letter) B (atoms_spec (ws := (wmW yM_L_letter cM_L_letter 5 (some .int) [(0, 10, 13, 21)])) B.pre _ List.mem_cons_self)
  subst hsz
  have hD := hD0.self (sz := s.heap.size)
  generalize hAe : va_A [(h0, .inr (0, [.ref st, v1, v2, v3, v4, v5, v6, v7, v8, v9, v10])), (st, .inr (8, [.int 0, .int 0, .int 0, w3, w4, w5, w6, w7, w8, w9, w10, w11, w12, w13, w14, w15, w16, w17, w18, w19])), (ou, .inl (dC 101, 1, .inr (.inl f0)))] s.heap.size = A at hD hN ⊢
  have hA : ∀ q : Nat, s.heap.size ≤ q → A q := fun q h => by rw [← hAe]; exact Or.inr h
  have hS : va_S A s.heap s.heap [] := va_S.rf
  have hP : va_P (dC, dI) classes [(h0, .inr (0, [.ref st, v1, v2, v3, v4, v5, v6, v7, v8, v9, v10])), (st, .inr (8, [.int 0, .int 0, .int 0, w3, w4, w5, w6, w7, w8, w9, w10, w11, w12, w13, w14, w15, w16, w17, w18, w19])), (ou, .inl (dC 101, 1, .inr (.inl f0)))] s.heap := hP
  have hl := lv_entry ([.ref h0, .int p0, .int p1, .ref ou] : List Value) (n := 5) (Nat.le_of_ble_eq_true rfl)
  rw [lg_entry_eq]
  generalize (lg_sl ([.ref h0, .int p0, .int p1, .ref ou] : List Value) ++ List.replicate (5 - (lg_sl ([.ref h0, .int p0, .int p1, .ref ou] : List Value)).length) Slot.unset).toArray = ls at hl ⊢
  have hl : lv_has ls 5 [(0, .ref h0), (1, .int p0), (2, .int p1), (3, .ref ou)] := hl
  refine lv_aload_n hx hb dM_L_letter_0 rfl (lv_at hl 3 rfl) ?_
  refine lv_iconst (v := 0) hx hb dM_L_letter_1 (by decide) ?_
  refine lv_aload_n hx hb dM_L_letter_2 rfl (lv_at hl 0 rfl) ?_
  refine lv_iload_n hx hb dM_L_letter_3 rfl (lv_at hl 1 rfl) ?_
  refine lv_iload_n hx hb dM_L_letter_4 rfl (lv_at hl 2 rfl) ?_
  have hFc := va_free (wc := [(h0, .inr (0, [.ref st, v1, v2, v3, v4, v5, v6, v7, v8, v9, v10])), (st, .inr (8, [.int 0, .int 0, .int 0, w3, w4, w5, w6, w7, w8, w9, w10, w11, w12, w13, w14, w15, w16, w17, w18, w19]))]) hD hS hA [0, 1] rfl
  refine vx_calli (vx_runV (As := [.int p0, .int p1]) (rest := [.int 0, .ref ou]) ⟨hx, hb, hml, hown, hbg⟩ (c_D_letter l hl9 dC dI h0 p0 p1 st v1 v2 v3 v4 v5 v6 v7 v8 v9 v10 w3 w4 w5 w6 w7 w8 w9 w10 w11 w12 w13 w14 w15 w16 w17 w18 w19 _ ) (cwV 2 hbg (gd_V (fun _ h => h) wd_1483 wd_1484 wd_1485 wd_1 (gd_wm (fun _ h => h) wd_1486)) rfl rfl rfl (by decide +kernel) ⟨Nat.le_of_ble_eq_true rfl, Nat.le_of_ble_eq_true rfl⟩) (nPreV [0, 1] hP hD hK hN hS hA (by decide) rfl 0 rfl rfl) rfl rfl hl.1 rfl (lv_room (Nat.le_of_ble_eq_true rfl)) dM_L_letter_5 ⟨Nat.le_of_ble_eq_true rfl, Nat.le_of_ble_eq_true rfl⟩) hS (fun q _ h => hFc q h) hFc (fun q _ h => hFc q h) (fun E ce q9 u t H1 locs ht hvm hpx hBX hz1 hk1 hS hq9 hcv hcl => ?_) (fun r_1 u t H1 locs ht hvm hw hB hz1 hk1 hS => ?_)
  · --
    obtain ⟨hP, hD⟩ := va_join (wr := [(ou, .inl (dC 101, 1, .inr (.inl f0)))]) (w1 := []) hP hD [0, 1] [2] rfl rfl (by decide) (by decide) hk1 hFc nP0 nD0
    generalize H1 = H at hP hS hq9 ⊢
    have hP : va_P (dC, dI) classes [(ou, .inl (dC 101, 1, .inr (.inl f0)))] H := hP
    have hD : va_D A [(ou, .inl (dC 101, 1, .inr (.inl f0)))] := hD
    obtain rfl := hBX
    refine vx_catch (own := "NoteDocumentLaw") (name := "java/lang/IndexOutOfBoundsException") (E := "java/lang/IndexOutOfBoundsException") hown [] ⟨0, 10, 13, 21⟩ [] (by rw [hTab]; rfl) (fun z hz => nomatch hz) (by decide) (by decide) (hbg _ wd_1117) (va_Nw.use rfl (hK.2.1 _ wx_1128)) hq9 hcv hcl ?_
    refine W.widen (k := 1) (n := 6) (Nat.le_of_ble_eq_true rfl) (Nat.le_of_ble_eq_true rfl) ?_
    refine lv_astore (lv' := [(4, .ref q9), (0, .ref h0), (1, .int p0), (2, .int p1), (3, .ref ou)]) hx hb dM_L_letter_13 hl (by decide) rfl (fun ls hl => ?_)
    refine lv_iconst (v := 1) hx hb dM_L_letter_15 (by decide) ?_
    have hP9 := hP.pick (wc := [(ou, .inl (dC 101, 1, .inr (.inl f0)))]) [0] rfl
    have hD9 := hD.sub (ws' := [(ou, .inl (dC 101, 1, .inr (.inl f0)))]) [0] (by decide) rfl
    exact W.iret (v := 1) hx hb hr (fun t ht hW => ⟨⟨1, (f0), rfl, ⟨rfl, rfl⟩, ⟨(by rw [ht]; exact hP9), hD9⟩⟩, hS.F ht⟩) hS.2.2 dM_L_letter_16
  · --
    exact hw.elim
set_option maxHeartbeats 4000000 in
set_option maxRecDepth 100000 in
theorem c_L_insert (l : Launch) (hl9 : l.stackTraces = false) (dC : Nat → ClassId) (dI : Nat → Nat → Nat) (h0 : Nat) (p0 : Int32) (p1 : Int32) (ou : Nat) (st : Nat) (v1 : Value) (v2 : Value) (v3 : Value) (v4 : Value) (v5 : Value) (v6 : Value) (v7 : Value) (v8 : Value) (v9 : Value) (v10 : Value) (w3 : Value) (w4 : Value) (w5 : Value) (w6 : Value) (w7 : Value) (w8 : Value) (w9 : Value) (w10 : Value) (w11 : Value) (w12 : Value) (w13 : Value) (w14 : Value) (w15 : Value) (w16 : Value) (w17 : Value) (w18 : Value) (w19 : Value) (f0 : Nat → Int64) (sz : Nat) : Met l yM_L_insert (wmW yM_L_insert cM_L_insert 5 (some .int) [(0, 10, 13, 21), (0, 10, 17, 15)]) ({ frames := 140, cells := 1, slots := 6, locals := 2800 }) (nPc [.ref h0, .int p0, .int p1, .ref ou] (dC, dI) [(h0, .inr (0, [.ref st, v1, v2, v3, v4, v5, v6, v7, v8, v9, v10])), (st, .inr (8, [.int 0, .int 0, .int 0, w3, w4, w5, w6, w7, w8, w9, w10, w11, w12, w13, w14, w15, w16, w17, w18, w19])), (ou, .inl (dC 101, 1, .inr (.inl f0)))] sz) (va_Qi (fun (r : Int32) (u : Nat → Int64) => r = 1 ∧ u = f0) (fun (u : Nat → Int64) t => nB (dC, dI) (va_A [(h0, .inr (0, [.ref st, v1, v2, v3, v4, v5, v6, v7, v8, v9, v10])), (st, .inr (8, [.int 0, .int 0, .int 0, w3, w4, w5, w6, w7, w8, w9, w10, w11, w12, w13, w14, w15, w16, w17, w18, w19])), (ou, .inl (dC 101, 1, .inr (.inl f0)))] sz) [(ou, .inl (dC 101, 1, .inr (.inl u)))] t) (va_A [(h0, .inr (0, [.ref st, v1, v2, v3, v4, v5, v6, v7, v8, v9, v10])), (st, .inr (8, [.int 0, .int 0, .int 0, w3, w4, w5, w6, w7, w8, w9, w10, w11, w12, w13, w14, w15, w16, w17, w18, w19])), (ou, .inl (dC 101, 1, .inr (.inl f0)))] sz)) 1 6 (va_A [(h0, .inr (0, [.ref st, v1, v2, v3, v4, v5, v6, v7, v8, v9, v10])), (st, .inr (8, [.int 0, .int 0, .int 0, w3, w4, w5, w6, w7, w8, w9, w10, w11, w12, w13, w14, w15, w16, w17, w18, w19])), (ou, .inl (dC 101, 1, .inr (.inl f0)))] sz) := by
  refine va_MetW (cc := cM_L_insert) (maxL := 5) (ret := (some .int)) (by decide) rfl ?_
  intro p e s m args below meth c s₁ B hml hv
  obtain ⟨rfl, hsz, hP, hD0, hK, hN⟩ := hv
  have hx := B.exec
  have hb := B.bytes
  have hr := B.returns
  have hbg : ∀ w ∈ BIG, w.before ([.ref h0, .int p0, .int p1, .ref ou] : List Value).toArray s = true := fun w h => atoms_spec (ws := (wmW yM_L_insert cM_L_insert 5 (some .int) [(0, 10, 13, 21), (0, 10, 17, 15)])) B.pre w (List.mem_cons_of_mem _ h)
  have hown : s.vm.findClass "NoteDocumentLaw" = some m.cls := findClass_of_methodNamed B.named
  have hlocks := B.notSynchronized
  have hTab : c.exceptionTable.toList = tableOf [(0, 10, 13, 21), (0, 10, 17, 15)] := vx_table (x := yM_L_insert) B (atoms_spec (ws := (wmW yM_L_insert cM_L_insert 5 (some .int) [(0, 10, 13, 21), (0, 10, 17, 15)])) B.pre _ List.mem_cons_self)
  subst hsz
  have hD := hD0.self (sz := s.heap.size)
  generalize hAe : va_A [(h0, .inr (0, [.ref st, v1, v2, v3, v4, v5, v6, v7, v8, v9, v10])), (st, .inr (8, [.int 0, .int 0, .int 0, w3, w4, w5, w6, w7, w8, w9, w10, w11, w12, w13, w14, w15, w16, w17, w18, w19])), (ou, .inl (dC 101, 1, .inr (.inl f0)))] s.heap.size = A at hD hN ⊢
  have hA : ∀ q : Nat, s.heap.size ≤ q → A q := fun q h => by rw [← hAe]; exact Or.inr h
  have hS : va_S A s.heap s.heap [] := va_S.rf
  have hP : va_P (dC, dI) classes [(h0, .inr (0, [.ref st, v1, v2, v3, v4, v5, v6, v7, v8, v9, v10])), (st, .inr (8, [.int 0, .int 0, .int 0, w3, w4, w5, w6, w7, w8, w9, w10, w11, w12, w13, w14, w15, w16, w17, w18, w19])), (ou, .inl (dC 101, 1, .inr (.inl f0)))] s.heap := hP
  have hl := lv_entry ([.ref h0, .int p0, .int p1, .ref ou] : List Value) (n := 5) (Nat.le_of_ble_eq_true rfl)
  rw [lg_entry_eq]
  generalize (lg_sl ([.ref h0, .int p0, .int p1, .ref ou] : List Value) ++ List.replicate (5 - (lg_sl ([.ref h0, .int p0, .int p1, .ref ou] : List Value)).length) Slot.unset).toArray = ls at hl ⊢
  have hl : lv_has ls 5 [(0, .ref h0), (1, .int p0), (2, .int p1), (3, .ref ou)] := hl
  refine lv_aload_n hx hb dM_L_insert_0 rfl (lv_at hl 3 rfl) ?_
  refine lv_iconst (v := 0) hx hb dM_L_insert_1 (by decide) ?_
  refine lv_aload_n hx hb dM_L_insert_2 rfl (lv_at hl 0 rfl) ?_
  refine lv_iload_n hx hb dM_L_insert_3 rfl (lv_at hl 1 rfl) ?_
  refine lv_iload_n hx hb dM_L_insert_4 rfl (lv_at hl 2 rfl) ?_
  have hFc := va_free (wc := [(h0, .inr (0, [.ref st, v1, v2, v3, v4, v5, v6, v7, v8, v9, v10])), (st, .inr (8, [.int 0, .int 0, .int 0, w3, w4, w5, w6, w7, w8, w9, w10, w11, w12, w13, w14, w15, w16, w17, w18, w19]))]) hD hS hA [0, 1] rfl
  refine vx_calli (vx_runV (As := [.int p0, .int p1]) (rest := [.int 0, .ref ou]) ⟨hx, hb, hml, hown, hbg⟩ (c_D_insert l hl9 dC dI h0 p0 p1 st v1 v2 v3 v4 v5 v6 v7 v8 v9 v10 w3 w4 w5 w6 w7 w8 w9 w10 w11 w12 w13 w14 w15 w16 w17 w18 w19 _ ) (cwV 2 hbg (gd_V (fun _ h => h) wd_1507 wd_1508 wd_1509 wd_1 (gd_wm (fun _ h => h) wd_1510)) rfl rfl rfl (by decide +kernel) ⟨Nat.le_of_ble_eq_true rfl, Nat.le_of_ble_eq_true rfl⟩) (nPreV [0, 1] hP hD hK hN hS hA (by decide) rfl 0 rfl rfl) rfl rfl hl.1 rfl (lv_room (Nat.le_of_ble_eq_true rfl)) dM_L_insert_5 ⟨Nat.le_of_ble_eq_true rfl, Nat.le_of_ble_eq_true rfl⟩) hS (fun q _ h => hFc q h) hFc (fun q _ h => hFc q h) (fun E ce q9 u t H1 locs ht hvm hpx hBX hz1 hk1 hS hq9 hcv hcl => ?_) (fun r_1 u t H1 locs ht hvm hw hB hz1 hk1 hS => ?_)
  · --
    obtain ⟨hP, hD⟩ := va_join (wr := [(ou, .inl (dC 101, 1, .inr (.inl f0)))]) (w1 := []) hP hD [0, 1] [2] rfl rfl (by decide) (by decide) hk1 hFc nP0 nD0
    generalize H1 = H at hP hS hq9 ⊢
    have hP : va_P (dC, dI) classes [(ou, .inl (dC 101, 1, .inr (.inl f0)))] H := hP
    have hD : va_D A [(ou, .inl (dC 101, 1, .inr (.inl f0)))] := hD
    obtain rfl := hBX
    refine vx_catch (own := "NoteDocumentLaw") (name := "java/lang/IndexOutOfBoundsException") (E := "java/lang/IndexOutOfBoundsException") hown [] ⟨0, 10, 13, 21⟩ [⟨0, 10, 17, 15⟩] (by rw [hTab]; rfl) (fun z hz => nomatch hz) (by decide) (by decide) (hbg _ wd_1117) (va_Nw.use rfl (hK.2.1 _ wx_1128)) hq9 hcv hcl ?_
    refine W.widen (k := 1) (n := 6) (Nat.le_of_ble_eq_true rfl) (Nat.le_of_ble_eq_true rfl) ?_
    refine lv_astore (lv' := [(4, .ref q9), (0, .ref h0), (1, .int p0), (2, .int p1), (3, .ref ou)]) hx hb dM_L_insert_13 hl (by decide) rfl (fun ls hl => ?_)
    refine lv_iconst (v := 1) hx hb dM_L_insert_15 (by decide) ?_
    have hP9 := hP.pick (wc := [(ou, .inl (dC 101, 1, .inr (.inl f0)))]) [0] rfl
    have hD9 := hD.sub (ws' := [(ou, .inl (dC 101, 1, .inr (.inl f0)))]) [0] (by decide) rfl
    exact W.iret (v := 1) hx hb hr (fun t ht hW => ⟨⟨1, (f0), rfl, ⟨rfl, rfl⟩, ⟨(by rw [ht]; exact hP9), hD9⟩⟩, hS.F ht⟩) hS.2.2 dM_L_insert_16
  · --
    exact hw.elim
set_option maxHeartbeats 4000000 in
set_option maxRecDepth 100000 in
theorem c_L_remove (l : Launch) (hl9 : l.stackTraces = false) (dC : Nat → ClassId) (dI : Nat → Nat → Nat) (h0 : Nat) (p0 : Int32) (p1 : Int32) (ou : Nat) (st : Nat) (v1 : Value) (v2 : Value) (v3 : Value) (v4 : Value) (v5 : Value) (v6 : Value) (v7 : Value) (v8 : Value) (v9 : Value) (v10 : Value) (w3 : Value) (w4 : Value) (w5 : Value) (w6 : Value) (w7 : Value) (w8 : Value) (w9 : Value) (w10 : Value) (w11 : Value) (w12 : Value) (w13 : Value) (w14 : Value) (w15 : Value) (w16 : Value) (w17 : Value) (w18 : Value) (w19 : Value) (f0 : Nat → Int64) (sz : Nat) : Met l yM_L_remove (wmW yM_L_remove cM_L_remove 5 (some .int) [(0, 10, 13, 21), (0, 10, 17, 15)]) ({ frames := 140, cells := 1, slots := 6, locals := 2800 }) (nPc [.ref h0, .int p0, .int p1, .ref ou] (dC, dI) [(h0, .inr (0, [.ref st, v1, v2, v3, v4, v5, v6, v7, v8, v9, v10])), (st, .inr (8, [.int 0, .int 0, .int 0, w3, w4, w5, w6, w7, w8, w9, w10, w11, w12, w13, w14, w15, w16, w17, w18, w19])), (ou, .inl (dC 101, 1, .inr (.inl f0)))] sz) (va_Qi (fun (r : Int32) (u : Nat → Int64) => r = 1 ∧ u = f0) (fun (u : Nat → Int64) t => nB (dC, dI) (va_A [(h0, .inr (0, [.ref st, v1, v2, v3, v4, v5, v6, v7, v8, v9, v10])), (st, .inr (8, [.int 0, .int 0, .int 0, w3, w4, w5, w6, w7, w8, w9, w10, w11, w12, w13, w14, w15, w16, w17, w18, w19])), (ou, .inl (dC 101, 1, .inr (.inl f0)))] sz) [(ou, .inl (dC 101, 1, .inr (.inl u)))] t) (va_A [(h0, .inr (0, [.ref st, v1, v2, v3, v4, v5, v6, v7, v8, v9, v10])), (st, .inr (8, [.int 0, .int 0, .int 0, w3, w4, w5, w6, w7, w8, w9, w10, w11, w12, w13, w14, w15, w16, w17, w18, w19])), (ou, .inl (dC 101, 1, .inr (.inl f0)))] sz)) 1 6 (va_A [(h0, .inr (0, [.ref st, v1, v2, v3, v4, v5, v6, v7, v8, v9, v10])), (st, .inr (8, [.int 0, .int 0, .int 0, w3, w4, w5, w6, w7, w8, w9, w10, w11, w12, w13, w14, w15, w16, w17, w18, w19])), (ou, .inl (dC 101, 1, .inr (.inl f0)))] sz) := by
  refine va_MetW (cc := cM_L_remove) (maxL := 5) (ret := (some .int)) (by decide) rfl ?_
  intro p e s m args below meth c s₁ B hml hv
  obtain ⟨rfl, hsz, hP, hD0, hK, hN⟩ := hv
  have hx := B.exec
  have hb := B.bytes
  have hr := B.returns
  have hbg : ∀ w ∈ BIG, w.before ([.ref h0, .int p0, .int p1, .ref ou] : List Value).toArray s = true := fun w h => atoms_spec (ws := (wmW yM_L_remove cM_L_remove 5 (some .int) [(0, 10, 13, 21), (0, 10, 17, 15)])) B.pre w (List.mem_cons_of_mem _ h)
  have hown : s.vm.findClass "NoteDocumentLaw" = some m.cls := findClass_of_methodNamed B.named
  have hlocks := B.notSynchronized
  have hTab : c.exceptionTable.toList = tableOf [(0, 10, 13, 21), (0, 10, 17, 15)] := vx_table (x := yM_L_remove) B (atoms_spec (ws := (wmW yM_L_remove cM_L_remove 5 (some .int) [(0, 10, 13, 21), (0, 10, 17, 15)])) B.pre _ List.mem_cons_self)
  subst hsz
  have hD := hD0.self (sz := s.heap.size)
  generalize hAe : va_A [(h0, .inr (0, [.ref st, v1, v2, v3, v4, v5, v6, v7, v8, v9, v10])), (st, .inr (8, [.int 0, .int 0, .int 0, w3, w4, w5, w6, w7, w8, w9, w10, w11, w12, w13, w14, w15, w16, w17, w18, w19])), (ou, .inl (dC 101, 1, .inr (.inl f0)))] s.heap.size = A at hD hN ⊢
  have hA : ∀ q : Nat, s.heap.size ≤ q → A q := fun q h => by rw [← hAe]; exact Or.inr h
  have hS : va_S A s.heap s.heap [] := va_S.rf
  have hP : va_P (dC, dI) classes [(h0, .inr (0, [.ref st, v1, v2, v3, v4, v5, v6, v7, v8, v9, v10])), (st, .inr (8, [.int 0, .int 0, .int 0, w3, w4, w5, w6, w7, w8, w9, w10, w11, w12, w13, w14, w15, w16, w17, w18, w19])), (ou, .inl (dC 101, 1, .inr (.inl f0)))] s.heap := hP
  have hl := lv_entry ([.ref h0, .int p0, .int p1, .ref ou] : List Value) (n := 5) (Nat.le_of_ble_eq_true rfl)
  rw [lg_entry_eq]
  generalize (lg_sl ([.ref h0, .int p0, .int p1, .ref ou] : List Value) ++ List.replicate (5 - (lg_sl ([.ref h0, .int p0, .int p1, .ref ou] : List Value)).length) Slot.unset).toArray = ls at hl ⊢
  have hl : lv_has ls 5 [(0, .ref h0), (1, .int p0), (2, .int p1), (3, .ref ou)] := hl
  refine lv_aload_n hx hb dM_L_remove_0 rfl (lv_at hl 3 rfl) ?_
  refine lv_iconst (v := 0) hx hb dM_L_remove_1 (by decide) ?_
  refine lv_aload_n hx hb dM_L_remove_2 rfl (lv_at hl 0 rfl) ?_
  refine lv_iload_n hx hb dM_L_remove_3 rfl (lv_at hl 1 rfl) ?_
  refine lv_iload_n hx hb dM_L_remove_4 rfl (lv_at hl 2 rfl) ?_
  have hFc := va_free (wc := [(h0, .inr (0, [.ref st, v1, v2, v3, v4, v5, v6, v7, v8, v9, v10])), (st, .inr (8, [.int 0, .int 0, .int 0, w3, w4, w5, w6, w7, w8, w9, w10, w11, w12, w13, w14, w15, w16, w17, w18, w19]))]) hD hS hA [0, 1] rfl
  refine vx_calli (vx_runV (As := [.int p0, .int p1]) (rest := [.int 0, .ref ou]) ⟨hx, hb, hml, hown, hbg⟩ (c_D_remove l hl9 dC dI h0 p0 p1 st v1 v2 v3 v4 v5 v6 v7 v8 v9 v10 w3 w4 w5 w6 w7 w8 w9 w10 w11 w12 w13 w14 w15 w16 w17 w18 w19 _ ) (cwV 2 hbg (gd_V (fun _ h => h) wd_1810 wd_1811 wd_1812 wd_1 (gd_wm (fun _ h => h) wd_1813)) rfl rfl rfl (by decide +kernel) ⟨Nat.le_of_ble_eq_true rfl, Nat.le_of_ble_eq_true rfl⟩) (nPreV [0, 1] hP hD hK hN hS hA (by decide) rfl 0 rfl rfl) rfl rfl hl.1 rfl (lv_room (Nat.le_of_ble_eq_true rfl)) dM_L_remove_5 ⟨Nat.le_of_ble_eq_true rfl, Nat.le_of_ble_eq_true rfl⟩) hS (fun q _ h => hFc q h) hFc (fun q _ h => hFc q h) (fun E ce q9 u t H1 locs ht hvm hpx hBX hz1 hk1 hS hq9 hcv hcl => ?_) (fun r_1 u t H1 locs ht hvm hw hB hz1 hk1 hS => ?_)
  · --
    obtain ⟨hP, hD⟩ := va_join (wr := [(ou, .inl (dC 101, 1, .inr (.inl f0)))]) (w1 := []) hP hD [0, 1] [2] rfl rfl (by decide) (by decide) hk1 hFc nP0 nD0
    generalize H1 = H at hP hS hq9 ⊢
    have hP : va_P (dC, dI) classes [(ou, .inl (dC 101, 1, .inr (.inl f0)))] H := hP
    have hD : va_D A [(ou, .inl (dC 101, 1, .inr (.inl f0)))] := hD
    obtain rfl := hBX
    refine vx_catch (own := "NoteDocumentLaw") (name := "java/lang/IndexOutOfBoundsException") (E := "java/lang/IndexOutOfBoundsException") hown [] ⟨0, 10, 13, 21⟩ [⟨0, 10, 17, 15⟩] (by rw [hTab]; rfl) (fun z hz => nomatch hz) (by decide) (by decide) (hbg _ wd_1117) (va_Nw.use rfl (hK.2.1 _ wx_1128)) hq9 hcv hcl ?_
    refine W.widen (k := 1) (n := 6) (Nat.le_of_ble_eq_true rfl) (Nat.le_of_ble_eq_true rfl) ?_
    refine lv_astore (lv' := [(4, .ref q9), (0, .ref h0), (1, .int p0), (2, .int p1), (3, .ref ou)]) hx hb dM_L_remove_13 hl (by decide) rfl (fun ls hl => ?_)
    refine lv_iconst (v := 1) hx hb dM_L_remove_15 (by decide) ?_
    have hP9 := hP.pick (wc := [(ou, .inl (dC 101, 1, .inr (.inl f0)))]) [0] rfl
    have hD9 := hD.sub (ws' := [(ou, .inl (dC 101, 1, .inr (.inl f0)))]) [0] (by decide) rfl
    exact W.iret (v := 1) hx hb hr (fun t ht hW => ⟨⟨1, (f0), rfl, ⟨rfl, rfl⟩, ⟨(by rw [ht]; exact hP9), hD9⟩⟩, hS.F ht⟩) hS.2.2 dM_L_remove_16
  · --
    exact hw.elim
set_option maxHeartbeats 4000000 in
set_option maxRecDepth 100000 in
theorem c_L_move (l : Launch) (hl9 : l.stackTraces = false) (dC : Nat → ClassId) (dI : Nat → Nat → Nat) (h0 : Nat) (p0 : Int32) (p1 : Int32) (p2 : Int32) (p3 : Int32) (p4 : Int32) (ou : Nat) (st : Nat) (v1 : Value) (v2 : Value) (v3 : Value) (v4 : Value) (v5 : Value) (v6 : Value) (v7 : Value) (v8 : Value) (v9 : Value) (v10 : Value) (w3 : Value) (w4 : Value) (w5 : Value) (w6 : Value) (w7 : Value) (w8 : Value) (w9 : Value) (w10 : Value) (w11 : Value) (w12 : Value) (w13 : Value) (w14 : Value) (w15 : Value) (w16 : Value) (w17 : Value) (w18 : Value) (w19 : Value) (f0 : Nat → Int64) (sz : Nat) : Met l yM_L_move (wmW yM_L_move cM_L_move 8 (some .int) [(0, 16, 19, 21), (0, 16, 23, 13), (0, 16, 27, 15)]) ({ frames := 140, cells := 1, slots := 6, locals := 2800 }) (nPc [.ref h0, .int p0, .int p1, .int p2, .int p3, .int p4, .ref ou] (dC, dI) [(h0, .inr (0, [.ref st, v1, v2, v3, v4, v5, v6, v7, v8, v9, v10])), (st, .inr (8, [.int 0, .int 0, .int 0, w3, w4, w5, w6, w7, w8, w9, w10, w11, w12, w13, w14, w15, w16, w17, w18, w19])), (ou, .inl (dC 101, 1, .inr (.inl f0)))] sz) (va_Qi (fun (r : Int32) (u : Nat → Int64) => r = 1 ∧ u = f0) (fun (u : Nat → Int64) t => nB (dC, dI) (va_A [(h0, .inr (0, [.ref st, v1, v2, v3, v4, v5, v6, v7, v8, v9, v10])), (st, .inr (8, [.int 0, .int 0, .int 0, w3, w4, w5, w6, w7, w8, w9, w10, w11, w12, w13, w14, w15, w16, w17, w18, w19])), (ou, .inl (dC 101, 1, .inr (.inl f0)))] sz) [(ou, .inl (dC 101, 1, .inr (.inl u)))] t) (va_A [(h0, .inr (0, [.ref st, v1, v2, v3, v4, v5, v6, v7, v8, v9, v10])), (st, .inr (8, [.int 0, .int 0, .int 0, w3, w4, w5, w6, w7, w8, w9, w10, w11, w12, w13, w14, w15, w16, w17, w18, w19])), (ou, .inl (dC 101, 1, .inr (.inl f0)))] sz)) 1 6 (va_A [(h0, .inr (0, [.ref st, v1, v2, v3, v4, v5, v6, v7, v8, v9, v10])), (st, .inr (8, [.int 0, .int 0, .int 0, w3, w4, w5, w6, w7, w8, w9, w10, w11, w12, w13, w14, w15, w16, w17, w18, w19])), (ou, .inl (dC 101, 1, .inr (.inl f0)))] sz) := by
  refine va_MetW (cc := cM_L_move) (maxL := 8) (ret := (some .int)) (by decide) rfl ?_
  intro p e s m args below meth c s₁ B hml hv
  obtain ⟨rfl, hsz, hP, hD0, hK, hN⟩ := hv
  have hx := B.exec
  have hb := B.bytes
  have hr := B.returns
  have hbg : ∀ w ∈ BIG, w.before ([.ref h0, .int p0, .int p1, .int p2, .int p3, .int p4, .ref ou] : List Value).toArray s = true := fun w h => atoms_spec (ws := (wmW yM_L_move cM_L_move 8 (some .int) [(0, 16, 19, 21), (0, 16, 23, 13), (0, 16, 27, 15)])) B.pre w (List.mem_cons_of_mem _ h)
  have hown : s.vm.findClass "NoteDocumentLaw" = some m.cls := findClass_of_methodNamed B.named
  have hlocks := B.notSynchronized
  have hTab : c.exceptionTable.toList = tableOf [(0, 16, 19, 21), (0, 16, 23, 13), (0, 16, 27, 15)] := vx_table (x := yM_L_move) B (atoms_spec (ws := (wmW yM_L_move cM_L_move 8 (some .int) [(0, 16, 19, 21), (0, 16, 23, 13), (0, 16, 27, 15)])) B.pre _ List.mem_cons_self)
  subst hsz
  have hD := hD0.self (sz := s.heap.size)
  generalize hAe : va_A [(h0, .inr (0, [.ref st, v1, v2, v3, v4, v5, v6, v7, v8, v9, v10])), (st, .inr (8, [.int 0, .int 0, .int 0, w3, w4, w5, w6, w7, w8, w9, w10, w11, w12, w13, w14, w15, w16, w17, w18, w19])), (ou, .inl (dC 101, 1, .inr (.inl f0)))] s.heap.size = A at hD hN ⊢
  have hA : ∀ q : Nat, s.heap.size ≤ q → A q := fun q h => by rw [← hAe]; exact Or.inr h
  have hS : va_S A s.heap s.heap [] := va_S.rf
  have hP : va_P (dC, dI) classes [(h0, .inr (0, [.ref st, v1, v2, v3, v4, v5, v6, v7, v8, v9, v10])), (st, .inr (8, [.int 0, .int 0, .int 0, w3, w4, w5, w6, w7, w8, w9, w10, w11, w12, w13, w14, w15, w16, w17, w18, w19])), (ou, .inl (dC 101, 1, .inr (.inl f0)))] s.heap := hP
  have hl := lv_entry ([.ref h0, .int p0, .int p1, .int p2, .int p3, .int p4, .ref ou] : List Value) (n := 8) (Nat.le_of_ble_eq_true rfl)
  rw [lg_entry_eq]
  generalize (lg_sl ([.ref h0, .int p0, .int p1, .int p2, .int p3, .int p4, .ref ou] : List Value) ++ List.replicate (8 - (lg_sl ([.ref h0, .int p0, .int p1, .int p2, .int p3, .int p4, .ref ou] : List Value)).length) Slot.unset).toArray = ls at hl ⊢
  have hl : lv_has ls 8 [(0, .ref h0), (1, .int p0), (2, .int p1), (3, .int p2), (4, .int p3), (5, .int p4), (6, .ref ou)] := hl
  refine lv_aload hx hb dM_L_move_0 (lv_at hl 6 rfl) ?_
  refine lv_iconst (v := 0) hx hb dM_L_move_2 (by decide) ?_
  refine lv_aload_n hx hb dM_L_move_3 rfl (lv_at hl 0 rfl) ?_
  refine lv_iload_n hx hb dM_L_move_4 rfl (lv_at hl 1 rfl) ?_
  refine lv_iload_n hx hb dM_L_move_5 rfl (lv_at hl 2 rfl) ?_
  refine lv_iload_n hx hb dM_L_move_6 rfl (lv_at hl 3 rfl) ?_
  refine lv_iload hx hb dM_L_move_7 (lv_at hl 4 rfl) ?_
  refine lv_iload hx hb dM_L_move_9 (lv_at hl 5 rfl) ?_
  have hFc := va_free (wc := [(h0, .inr (0, [.ref st, v1, v2, v3, v4, v5, v6, v7, v8, v9, v10])), (st, .inr (8, [.int 0, .int 0, .int 0, w3, w4, w5, w6, w7, w8, w9, w10, w11, w12, w13, w14, w15, w16, w17, w18, w19]))]) hD hS hA [0, 1] rfl
  refine vx_calli (vx_runV (As := [.int p0, .int p1, .int p2, .int p3, .int p4]) (rest := [.int 0, .ref ou]) ⟨hx, hb, hml, hown, hbg⟩ (c_D_move l hl9 dC dI h0 p0 p1 p2 p3 p4 st v1 v2 v3 v4 v5 v6 v7 v8 v9 v10 w3 w4 w5 w6 w7 w8 w9 w10 w11 w12 w13 w14 w15 w16 w17 w18 w19 _ ) (cwV 5 hbg (gd_V (fun _ h => h) wd_1822 wd_1823 wd_1824 wd_1 (gd_wm (fun _ h => h) wd_1825)) rfl rfl rfl (by decide +kernel) ⟨Nat.le_of_ble_eq_true rfl, Nat.le_of_ble_eq_true rfl⟩) (nPreV [0, 1] hP hD hK hN hS hA (by decide) rfl 0 rfl rfl) rfl rfl hl.1 rfl (lv_room (Nat.le_of_ble_eq_true rfl)) dM_L_move_11 ⟨Nat.le_of_ble_eq_true rfl, Nat.le_of_ble_eq_true rfl⟩) hS (fun q _ h => hFc q h) hFc (fun q _ h => hFc q h) (fun E ce q9 u t H1 locs ht hvm hpx hBX hz1 hk1 hS hq9 hcv hcl => ?_) (fun r_1 u t H1 locs ht hvm hw hB hz1 hk1 hS => ?_)
  · --
    obtain ⟨hP, hD⟩ := va_join (wr := [(ou, .inl (dC 101, 1, .inr (.inl f0)))]) (w1 := []) hP hD [0, 1] [2] rfl rfl (by decide) (by decide) hk1 hFc nP0 nD0
    generalize H1 = H at hP hS hq9 ⊢
    have hP : va_P (dC, dI) classes [(ou, .inl (dC 101, 1, .inr (.inl f0)))] H := hP
    have hD : va_D A [(ou, .inl (dC 101, 1, .inr (.inl f0)))] := hD
    obtain rfl := hBX
    refine vx_catch (own := "NoteDocumentLaw") (name := "java/lang/IndexOutOfBoundsException") (E := "java/lang/IndexOutOfBoundsException") hown [] ⟨0, 16, 19, 21⟩ [⟨0, 16, 23, 13⟩, ⟨0, 16, 27, 15⟩] (by rw [hTab]; rfl) (fun z hz => nomatch hz) (by decide) (by decide) (hbg _ wd_1117) (va_Nw.use rfl (hK.2.1 _ wx_1128)) hq9 hcv hcl ?_
    refine W.widen (k := 1) (n := 6) (Nat.le_of_ble_eq_true rfl) (Nat.le_of_ble_eq_true rfl) ?_
    refine lv_astore (lv' := [(7, .ref q9), (0, .ref h0), (1, .int p0), (2, .int p1), (3, .int p2), (4, .int p3), (5, .int p4), (6, .ref ou)]) hx hb dM_L_move_19 hl (by decide) rfl (fun ls hl => ?_)
    refine lv_iconst (v := 1) hx hb dM_L_move_21 (by decide) ?_
    have hP9 := hP.pick (wc := [(ou, .inl (dC 101, 1, .inr (.inl f0)))]) [0] rfl
    have hD9 := hD.sub (ws' := [(ou, .inl (dC 101, 1, .inr (.inl f0)))]) [0] (by decide) rfl
    exact W.iret (v := 1) hx hb hr (fun t ht hW => ⟨⟨1, (f0), rfl, ⟨rfl, rfl⟩, ⟨(by rw [ht]; exact hP9), hD9⟩⟩, hS.F ht⟩) hS.2.2 dM_L_move_22
  · --
    exact hw.elim
set_option maxHeartbeats 4000000 in
set_option maxRecDepth 100000 in
theorem c_L_sort (l : Launch) (hl9 : l.stackTraces = false) (dC : Nat → ClassId) (dI : Nat → Nat → Nat) (h0 : Nat) (p0 : Int32) (p1 : Int32) (p2 : Int32) (p3 : Int32) (ou : Nat) (st : Nat) (v1 : Value) (v2 : Value) (v3 : Value) (v4 : Value) (v5 : Value) (v6 : Value) (v7 : Value) (v8 : Value) (v9 : Value) (v10 : Value) (w3 : Value) (w4 : Value) (w5 : Value) (w6 : Value) (w7 : Value) (w8 : Value) (w9 : Value) (w10 : Value) (w11 : Value) (w12 : Value) (w13 : Value) (w14 : Value) (w15 : Value) (w16 : Value) (w17 : Value) (w18 : Value) (w19 : Value) (f0 : Nat → Int64) (sz : Nat) : Met l yM_L_sort (wmW yM_L_sort cM_L_sort 7 (some .int) [(0, 14, 17, 21), (0, 14, 21, 13)]) ({ frames := 140, cells := 1, slots := 6, locals := 2800 }) (nPc [.ref h0, .int p0, .int p1, .int p2, .int p3, .ref ou] (dC, dI) [(h0, .inr (0, [.ref st, v1, v2, v3, v4, v5, v6, v7, v8, v9, v10])), (st, .inr (8, [.int 0, .int 0, .int 0, w3, w4, w5, w6, w7, w8, w9, w10, w11, w12, w13, w14, w15, w16, w17, w18, w19])), (ou, .inl (dC 101, 1, .inr (.inl f0)))] sz) (va_Qi (fun (r : Int32) (u : Nat → Int64) => r = 1 ∧ u = f0) (fun (u : Nat → Int64) t => nB (dC, dI) (va_A [(h0, .inr (0, [.ref st, v1, v2, v3, v4, v5, v6, v7, v8, v9, v10])), (st, .inr (8, [.int 0, .int 0, .int 0, w3, w4, w5, w6, w7, w8, w9, w10, w11, w12, w13, w14, w15, w16, w17, w18, w19])), (ou, .inl (dC 101, 1, .inr (.inl f0)))] sz) [(ou, .inl (dC 101, 1, .inr (.inl u)))] t) (va_A [(h0, .inr (0, [.ref st, v1, v2, v3, v4, v5, v6, v7, v8, v9, v10])), (st, .inr (8, [.int 0, .int 0, .int 0, w3, w4, w5, w6, w7, w8, w9, w10, w11, w12, w13, w14, w15, w16, w17, w18, w19])), (ou, .inl (dC 101, 1, .inr (.inl f0)))] sz)) 1 6 (va_A [(h0, .inr (0, [.ref st, v1, v2, v3, v4, v5, v6, v7, v8, v9, v10])), (st, .inr (8, [.int 0, .int 0, .int 0, w3, w4, w5, w6, w7, w8, w9, w10, w11, w12, w13, w14, w15, w16, w17, w18, w19])), (ou, .inl (dC 101, 1, .inr (.inl f0)))] sz) := by
  refine va_MetW (cc := cM_L_sort) (maxL := 7) (ret := (some .int)) (by decide) rfl ?_
  intro p e s m args below meth c s₁ B hml hv
  obtain ⟨rfl, hsz, hP, hD0, hK, hN⟩ := hv
  have hx := B.exec
  have hb := B.bytes
  have hr := B.returns
  have hbg : ∀ w ∈ BIG, w.before ([.ref h0, .int p0, .int p1, .int p2, .int p3, .ref ou] : List Value).toArray s = true := fun w h => atoms_spec (ws := (wmW yM_L_sort cM_L_sort 7 (some .int) [(0, 14, 17, 21), (0, 14, 21, 13)])) B.pre w (List.mem_cons_of_mem _ h)
  have hown : s.vm.findClass "NoteDocumentLaw" = some m.cls := findClass_of_methodNamed B.named
  have hlocks := B.notSynchronized
  have hTab : c.exceptionTable.toList = tableOf [(0, 14, 17, 21), (0, 14, 21, 13)] := vx_table (x := yM_L_sort) B (atoms_spec (ws := (wmW yM_L_sort cM_L_sort 7 (some .int) [(0, 14, 17, 21), (0, 14, 21, 13)])) B.pre _ List.mem_cons_self)
  subst hsz
  have hD := hD0.self (sz := s.heap.size)
  generalize hAe : va_A [(h0, .inr (0, [.ref st, v1, v2, v3, v4, v5, v6, v7, v8, v9, v10])), (st, .inr (8, [.int 0, .int 0, .int 0, w3, w4, w5, w6, w7, w8, w9, w10, w11, w12, w13, w14, w15, w16, w17, w18, w19])), (ou, .inl (dC 101, 1, .inr (.inl f0)))] s.heap.size = A at hD hN ⊢
  have hA : ∀ q : Nat, s.heap.size ≤ q → A q := fun q h => by rw [← hAe]; exact Or.inr h
  have hS : va_S A s.heap s.heap [] := va_S.rf
  have hP : va_P (dC, dI) classes [(h0, .inr (0, [.ref st, v1, v2, v3, v4, v5, v6, v7, v8, v9, v10])), (st, .inr (8, [.int 0, .int 0, .int 0, w3, w4, w5, w6, w7, w8, w9, w10, w11, w12, w13, w14, w15, w16, w17, w18, w19])), (ou, .inl (dC 101, 1, .inr (.inl f0)))] s.heap := hP
  have hl := lv_entry ([.ref h0, .int p0, .int p1, .int p2, .int p3, .ref ou] : List Value) (n := 7) (Nat.le_of_ble_eq_true rfl)
  rw [lg_entry_eq]
  generalize (lg_sl ([.ref h0, .int p0, .int p1, .int p2, .int p3, .ref ou] : List Value) ++ List.replicate (7 - (lg_sl ([.ref h0, .int p0, .int p1, .int p2, .int p3, .ref ou] : List Value)).length) Slot.unset).toArray = ls at hl ⊢
  have hl : lv_has ls 7 [(0, .ref h0), (1, .int p0), (2, .int p1), (3, .int p2), (4, .int p3), (5, .ref ou)] := hl
  refine lv_aload hx hb dM_L_sort_0 (lv_at hl 5 rfl) ?_
  refine lv_iconst (v := 0) hx hb dM_L_sort_2 (by decide) ?_
  refine lv_aload_n hx hb dM_L_sort_3 rfl (lv_at hl 0 rfl) ?_
  refine lv_iload_n hx hb dM_L_sort_4 rfl (lv_at hl 1 rfl) ?_
  refine lv_iload_n hx hb dM_L_sort_5 rfl (lv_at hl 2 rfl) ?_
  refine lv_iload_n hx hb dM_L_sort_6 rfl (lv_at hl 3 rfl) ?_
  refine lv_iload hx hb dM_L_sort_7 (lv_at hl 4 rfl) ?_
  have hFc := va_free (wc := [(h0, .inr (0, [.ref st, v1, v2, v3, v4, v5, v6, v7, v8, v9, v10])), (st, .inr (8, [.int 0, .int 0, .int 0, w3, w4, w5, w6, w7, w8, w9, w10, w11, w12, w13, w14, w15, w16, w17, w18, w19]))]) hD hS hA [0, 1] rfl
  refine vx_calli (vx_runV (As := [.int p0, .int p1, .int p2, .int p3]) (rest := [.int 0, .ref ou]) ⟨hx, hb, hml, hown, hbg⟩ (c_D_sort l hl9 dC dI h0 p0 p1 p2 p3 st v1 v2 v3 v4 v5 v6 v7 v8 v9 v10 w3 w4 w5 w6 w7 w8 w9 w10 w11 w12 w13 w14 w15 w16 w17 w18 w19 _ ) (cwV 4 hbg (gd_V (fun _ h => h) wd_1840 wd_1841 wd_1842 wd_1 (gd_wm (fun _ h => h) wd_1843)) rfl rfl rfl (by decide +kernel) ⟨Nat.le_of_ble_eq_true rfl, Nat.le_of_ble_eq_true rfl⟩) (nPreV [0, 1] hP hD hK hN hS hA (by decide) rfl 0 rfl rfl) rfl rfl hl.1 rfl (lv_room (Nat.le_of_ble_eq_true rfl)) dM_L_sort_9 ⟨Nat.le_of_ble_eq_true rfl, Nat.le_of_ble_eq_true rfl⟩) hS (fun q _ h => hFc q h) hFc (fun q _ h => hFc q h) (fun E ce q9 u t H1 locs ht hvm hpx hBX hz1 hk1 hS hq9 hcv hcl => ?_) (fun r_1 u t H1 locs ht hvm hw hB hz1 hk1 hS => ?_)
  · --
    obtain ⟨hP, hD⟩ := va_join (wr := [(ou, .inl (dC 101, 1, .inr (.inl f0)))]) (w1 := []) hP hD [0, 1] [2] rfl rfl (by decide) (by decide) hk1 hFc nP0 nD0
    generalize H1 = H at hP hS hq9 ⊢
    have hP : va_P (dC, dI) classes [(ou, .inl (dC 101, 1, .inr (.inl f0)))] H := hP
    have hD : va_D A [(ou, .inl (dC 101, 1, .inr (.inl f0)))] := hD
    obtain rfl := hBX
    refine vx_catch (own := "NoteDocumentLaw") (name := "java/lang/IndexOutOfBoundsException") (E := "java/lang/IndexOutOfBoundsException") hown [] ⟨0, 14, 17, 21⟩ [⟨0, 14, 21, 13⟩] (by rw [hTab]; rfl) (fun z hz => nomatch hz) (by decide) (by decide) (hbg _ wd_1117) (va_Nw.use rfl (hK.2.1 _ wx_1128)) hq9 hcv hcl ?_
    refine W.widen (k := 1) (n := 6) (Nat.le_of_ble_eq_true rfl) (Nat.le_of_ble_eq_true rfl) ?_
    refine lv_astore (lv' := [(6, .ref q9), (0, .ref h0), (1, .int p0), (2, .int p1), (3, .int p2), (4, .int p3), (5, .ref ou)]) hx hb dM_L_sort_17 hl (by decide) rfl (fun ls hl => ?_)
    refine lv_iconst (v := 1) hx hb dM_L_sort_19 (by decide) ?_
    have hP9 := hP.pick (wc := [(ou, .inl (dC 101, 1, .inr (.inl f0)))]) [0] rfl
    have hD9 := hD.sub (ws' := [(ou, .inl (dC 101, 1, .inr (.inl f0)))]) [0] (by decide) rfl
    exact W.iret (v := 1) hx hb hr (fun t ht hW => ⟨⟨1, (f0), rfl, ⟨rfl, rfl⟩, ⟨(by rw [ht]; exact hP9), hD9⟩⟩, hS.F ht⟩) hS.2.2 dM_L_sort_20
  · --
    exact hw.elim
set_option maxHeartbeats 4000000 in
set_option maxRecDepth 100000 in
theorem c_L_overlay (l : Launch) (hl9 : l.stackTraces = false) (dC : Nat → ClassId) (dI : Nat → Nat → Nat) (h0 : Nat) (p0 : Int32) (p1 : Int32) (p2 : Int32) (p3 : Int32) (p4 : Int64) (ou : Nat) (st : Nat) (v1 : Value) (v2 : Value) (v3 : Value) (v4 : Value) (v5 : Value) (v6 : Value) (v7 : Value) (v8 : Value) (v9 : Value) (v10 : Value) (w3 : Value) (w4 : Value) (w5 : Value) (w6 : Value) (w7 : Value) (w8 : Value) (w9 : Value) (w10 : Value) (w11 : Value) (w12 : Value) (w13 : Value) (w14 : Value) (w15 : Value) (w16 : Value) (w17 : Value) (w18 : Value) (w19 : Value) (f0 : Nat → Int64) (sz : Nat) : Met l yM_L_overlay (wmW yM_L_overlay cM_L_overlay 9 (some .int) [(0, 16, 19, 13), (0, 16, 23, 21), (0, 16, 27, 15)]) ({ frames := 140, cells := 2, slots := 12, locals := 2800 }) (nPc [.ref h0, .int p0, .int p1, .int p2, .int p3, .long p4, .ref ou] (dC, dI) [(h0, .inr (0, [.ref st, v1, v2, v3, v4, v5, v6, v7, v8, v9, v10])), (st, .inr (8, [.int 0, .int 0, .int 0, w3, w4, w5, w6, w7, w8, w9, w10, w11, w12, w13, w14, w15, w16, w17, w18, w19])), (ou, .inl (dC 101, 1, .inr (.inl f0)))] sz) (va_Qi (fun (r : Int32) (u : Nat → Int64) => ((¬ (okScen p0 ∧ okN p4)) ∧ r = 1 ∧ u = f0) ∨ ((okScen p0 ∧ okN p4) ∧ r = 2 ∧ u = f0)) (fun (u : Nat → Int64) t => nB (dC, dI) (va_A [(h0, .inr (0, [.ref st, v1, v2, v3, v4, v5, v6, v7, v8, v9, v10])), (st, .inr (8, [.int 0, .int 0, .int 0, w3, w4, w5, w6, w7, w8, w9, w10, w11, w12, w13, w14, w15, w16, w17, w18, w19])), (ou, .inl (dC 101, 1, .inr (.inl f0)))] sz) [(ou, .inl (dC 101, 1, .inr (.inl u)))] t) (va_A [(h0, .inr (0, [.ref st, v1, v2, v3, v4, v5, v6, v7, v8, v9, v10])), (st, .inr (8, [.int 0, .int 0, .int 0, w3, w4, w5, w6, w7, w8, w9, w10, w11, w12, w13, w14, w15, w16, w17, w18, w19])), (ou, .inl (dC 101, 1, .inr (.inl f0)))] sz)) 2 12 (va_A [(h0, .inr (0, [.ref st, v1, v2, v3, v4, v5, v6, v7, v8, v9, v10])), (st, .inr (8, [.int 0, .int 0, .int 0, w3, w4, w5, w6, w7, w8, w9, w10, w11, w12, w13, w14, w15, w16, w17, w18, w19])), (ou, .inl (dC 101, 1, .inr (.inl f0)))] sz) := by
  refine va_MetW (cc := cM_L_overlay) (maxL := 9) (ret := (some .int)) (by decide) rfl ?_
  intro p e s m args below meth c s₁ B hml hv
  obtain ⟨rfl, hsz, hP, hD0, hK, hN⟩ := hv
  have hx := B.exec
  have hb := B.bytes
  have hr := B.returns
  have hbg : ∀ w ∈ BIG, w.before ([.ref h0, .int p0, .int p1, .int p2, .int p3, .long p4, .ref ou] : List Value).toArray s = true := fun w h => atoms_spec (ws := (wmW yM_L_overlay cM_L_overlay 9 (some .int) [(0, 16, 19, 13), (0, 16, 23, 21), (0, 16, 27, 15)])) B.pre w (List.mem_cons_of_mem _ h)
  have hown : s.vm.findClass "NoteDocumentLaw" = some m.cls := findClass_of_methodNamed B.named
  have hlocks := B.notSynchronized
  have hTab : c.exceptionTable.toList = tableOf [(0, 16, 19, 13), (0, 16, 23, 21), (0, 16, 27, 15)] := vx_table (x := yM_L_overlay) B (atoms_spec (ws := (wmW yM_L_overlay cM_L_overlay 9 (some .int) [(0, 16, 19, 13), (0, 16, 23, 21), (0, 16, 27, 15)])) B.pre _ List.mem_cons_self)
  subst hsz
  have hD := hD0.self (sz := s.heap.size)
  generalize hAe : va_A [(h0, .inr (0, [.ref st, v1, v2, v3, v4, v5, v6, v7, v8, v9, v10])), (st, .inr (8, [.int 0, .int 0, .int 0, w3, w4, w5, w6, w7, w8, w9, w10, w11, w12, w13, w14, w15, w16, w17, w18, w19])), (ou, .inl (dC 101, 1, .inr (.inl f0)))] s.heap.size = A at hD hN ⊢
  have hA : ∀ q : Nat, s.heap.size ≤ q → A q := fun q h => by rw [← hAe]; exact Or.inr h
  have hS : va_S A s.heap s.heap [] := va_S.rf
  have hP : va_P (dC, dI) classes [(h0, .inr (0, [.ref st, v1, v2, v3, v4, v5, v6, v7, v8, v9, v10])), (st, .inr (8, [.int 0, .int 0, .int 0, w3, w4, w5, w6, w7, w8, w9, w10, w11, w12, w13, w14, w15, w16, w17, w18, w19])), (ou, .inl (dC 101, 1, .inr (.inl f0)))] s.heap := hP
  have hl := lv_entry ([.ref h0, .int p0, .int p1, .int p2, .int p3, .long p4, .ref ou] : List Value) (n := 9) (Nat.le_of_ble_eq_true rfl)
  rw [lg_entry_eq]
  generalize (lg_sl ([.ref h0, .int p0, .int p1, .int p2, .int p3, .long p4, .ref ou] : List Value) ++ List.replicate (9 - (lg_sl ([.ref h0, .int p0, .int p1, .int p2, .int p3, .long p4, .ref ou] : List Value)).length) Slot.unset).toArray = ls at hl ⊢
  have hl : lv_has ls 9 [(0, .ref h0), (1, .int p0), (2, .int p1), (3, .int p2), (4, .int p3), (5, .long p4), (7, .ref ou)] := hl
  refine lv_aload hx hb dM_L_overlay_0 (lv_at hl 6 rfl) ?_
  refine lv_iconst (v := 0) hx hb dM_L_overlay_2 (by decide) ?_
  refine lv_aload_n hx hb dM_L_overlay_3 rfl (lv_at hl 0 rfl) ?_
  refine lv_iload_n hx hb dM_L_overlay_4 rfl (lv_at hl 1 rfl) ?_
  refine lv_iload_n hx hb dM_L_overlay_5 rfl (lv_at hl 2 rfl) ?_
  refine lv_iload_n hx hb dM_L_overlay_6 rfl (lv_at hl 3 rfl) ?_
  refine lv_iload hx hb dM_L_overlay_7 (lv_at hl 4 rfl) ?_
  refine lv_lload hx hb dM_L_overlay_9 (lv_at hl 5 rfl) ?_
  have hFc := va_free (wc := [(h0, .inr (0, [.ref st, v1, v2, v3, v4, v5, v6, v7, v8, v9, v10])), (st, .inr (8, [.int 0, .int 0, .int 0, w3, w4, w5, w6, w7, w8, w9, w10, w11, w12, w13, w14, w15, w16, w17, w18, w19]))]) hD hS hA [0, 1] rfl
  refine vx_calli (vx_runV (As := [.int p0, .int p1, .int p2, .int p3, .long p4]) (rest := [.int 0, .ref ou]) ⟨hx, hb, hml, hown, hbg⟩ (c_D_overlay l hl9 dC dI h0 p0 p1 p2 p3 p4 st v1 v2 v3 v4 v5 v6 v7 v8 v9 v10 w3 w4 w5 w6 w7 w8 w9 w10 w11 w12 w13 w14 w15 w16 w17 w18 w19 _ ) (cwV 5 hbg (gd_V (fun _ h => h) wd_1857 wd_1858 wd_1859 wd_1 (gd_wm (fun _ h => h) wd_1860)) rfl rfl rfl (by decide +kernel) ⟨Nat.le_of_ble_eq_true rfl, Nat.le_of_ble_eq_true rfl⟩) (nPreV [0, 1] hP hD hK hN hS hA (by decide) rfl 0 rfl rfl) rfl rfl hl.1 rfl (lv_room (Nat.le_of_ble_eq_true rfl)) dM_L_overlay_11 ⟨Nat.le_of_ble_eq_true rfl, Nat.le_of_ble_eq_true rfl⟩) hS (fun q _ h => hFc q h) hFc (fun q _ h => hFc q h) (fun E ce q9 u t H1 locs ht hvm hpx hBX hz1 hk1 hS hq9 hcv hcl => ?_) (fun r_1 u t H1 locs ht hvm hw hB hz1 hk1 hS => ?_)
  · --
    obtain ⟨hP, hD⟩ := va_join (wr := [(ou, .inl (dC 101, 1, .inr (.inl f0)))]) (w1 := []) hP hD [0, 1] [2] rfl rfl (by decide) (by decide) hk1 hFc nP0 nD0
    generalize H1 = H at hP hS hq9 ⊢
    have hP : va_P (dC, dI) classes [(ou, .inl (dC 101, 1, .inr (.inl f0)))] H := hP
    have hD : va_D A [(ou, .inl (dC 101, 1, .inr (.inl f0)))] := hD
    rcases hBX with ⟨rfl, c_2⟩ | ⟨rfl, c_3⟩
    · --
      refine vx_catch (own := "NoteDocumentLaw") (name := "java/lang/IllegalArgumentException") (E := "java/lang/IllegalArgumentException") hown [] ⟨0, 16, 19, 13⟩ [⟨0, 16, 23, 21⟩, ⟨0, 16, 27, 15⟩] (by rw [hTab]; rfl) (fun z hz => nomatch hz) (by decide) (by decide) (hbg _ wd_1023) (va_Nw.use rfl (hK.2.1 _ wx_1031)) hq9 hcv hcl ?_
      refine W.widen (k := 2) (n := 12) (Nat.le_of_ble_eq_true rfl) (Nat.le_of_ble_eq_true rfl) ?_
      refine lv_astore (lv' := [(8, .ref q9), (0, .ref h0), (1, .int p0), (2, .int p1), (3, .int p2), (4, .int p3), (5, .long p4), (7, .ref ou)]) hx hb dM_L_overlay_19 hl (by decide) rfl (fun ls hl => ?_)
      refine lv_iconst (v := 1) hx hb dM_L_overlay_21 (by decide) ?_
      have hP9 := hP.pick (wc := [(ou, .inl (dC 101, 1, .inr (.inl f0)))]) [0] rfl
      have hD9 := hD.sub (ws' := [(ou, .inl (dC 101, 1, .inr (.inl f0)))]) [0] (by decide) rfl
      exact W.iret (v := 1) hx hb hr (fun t ht hW => ⟨⟨1, (f0), rfl, (Or.inl ⟨c_2, rfl, rfl⟩), ⟨(by rw [ht]; exact hP9), hD9⟩⟩, hS.F ht⟩) hS.2.2 dM_L_overlay_22
    · --
      refine vx_catch (own := "NoteDocumentLaw") (name := "java/lang/IndexOutOfBoundsException") (E := "java/lang/IndexOutOfBoundsException") hown [⟨0, 16, 19, 13⟩] ⟨0, 16, 23, 21⟩ [⟨0, 16, 27, 15⟩] (by rw [hTab]; rfl) (n_pcons (Or.inr ⟨by decide, "java/lang/IllegalArgumentException", (hbg _ wd_1023), hK.2.2.2.2⟩) (fun z hz => nomatch hz)) (by decide) (by decide) (hbg _ wd_1117) (va_Nw.use rfl (hK.2.1 _ wx_1128)) hq9 hcv hcl ?_
      refine W.widen (k := 2) (n := 12) (Nat.le_of_ble_eq_true rfl) (Nat.le_of_ble_eq_true rfl) ?_
      refine lv_astore (lv' := [(8, .ref q9), (0, .ref h0), (1, .int p0), (2, .int p1), (3, .int p2), (4, .int p3), (5, .long p4), (7, .ref ou)]) hx hb dM_L_overlay_23 hl (by decide) rfl (fun ls hl => ?_)
      refine lv_iconst (v := 2) hx hb dM_L_overlay_25 (by decide) ?_
      have hP9 := hP.pick (wc := [(ou, .inl (dC 101, 1, .inr (.inl f0)))]) [0] rfl
      have hD9 := hD.sub (ws' := [(ou, .inl (dC 101, 1, .inr (.inl f0)))]) [0] (by decide) rfl
      exact W.iret (v := 2) hx hb hr (fun t ht hW => ⟨⟨2, (f0), rfl, (Or.inr ⟨c_3, rfl, rfl⟩), ⟨(by rw [ht]; exact hP9), hD9⟩⟩, hS.F ht⟩) hS.2.2 dM_L_overlay_26
  · --
    exact hw.elim
set_option maxHeartbeats 4000000 in
set_option maxRecDepth 100000 in
theorem c_L_drop (l : Launch) (hl9 : l.stackTraces = false) (dC : Nat → ClassId) (dI : Nat → Nat → Nat) (h0 : Nat) (p0 : Int32) (ou : Nat) (st : Nat) (no : Nat) (ch : Nat) (he : Nat) (de : Nat) (fi : Nat) (v6 : Value) (kp : Nat) (a_columns : Nat) (a_rows : Nat) (a_content : Nat) (a_held : Nat) (a_other : Nat) (a_named : Nat) (a_body : Nat) (a_parts : Nat) (a_partCount : Nat) (a_refRow : Nat) (a_refColumn : Nat) (a_refToRow : Nat) (a_torn : Nat) (a_record : Nat) (g_columns : Nat → Int32) (g_rows : Nat → Int32) (g_content : Nat → Int64) (g_held : Nat → Int64) (g_other : Nat → Int64) (g_named : Nat → Int32) (g_body : Nat → Int32) (g_parts : Nat → Int32) (g_partCount : Nat → Int32) (g_refRow : Nat → Int32) (g_refColumn : Nat → Int32) (g_refToRow : Nat → Int32) (g_torn : Nat → Int32) (g_record : Nat → Int32) (gk : Nat → Option Nat) (k0 : Nat) (ak_columns : Nat) (ak_rows : Nat) (ak_content : Nat) (ak_held : Nat) (ak_other : Nat) (ak_named : Nat) (ak_body : Nat) (ak_parts : Nat) (ak_partCount : Nat) (ak_refRow : Nat) (ak_refColumn : Nat) (ak_refToRow : Nat) (ak_torn : Nat) (ak_record : Nat) (gk_columns : Nat → Int32) (gk_rows : Nat → Int32) (gk_content : Nat → Int64) (gk_held : Nat → Int64) (gk_other : Nat → Int64) (gk_named : Nat → Int32) (gk_body : Nat → Int32) (gk_parts : Nat → Int32) (gk_partCount : Nat → Int32) (gk_refRow : Nat → Int32) (gk_refColumn : Nat → Int32) (gk_refToRow : Nat → Int32) (gk_torn : Nat → Int32) (gk_record : Nat → Int32) (x2 : Value) (x4 : Value) (x6 : Value) (x7 : Value) (x8 : Value) (x9 : Value) (x10 : Value) (x11 : Value) (x12 : Value) (x13 : Value) (x14 : Value) (x15 : Value) (x16 : Value) (x17 : Value) (x18 : Value) (f0 : Nat → Int64) (sz : Nat) (hk0 : gk (0 : Int32).toNatClampNeg = some k0) (hoth : ∀ j, j < 600 → g_other j = 1125899906842624) : Met l yM_L_drop (wmW yM_L_drop cM_L_drop 4 (some .int) [(0, 9, 12, 13)]) ({ frames := 140, cells := 1, slots := 6, locals := 2800 }) (nPc [.ref h0, .int p0, .ref ou] (dC, dI) [(h0, .inr (0, [.ref st, .ref no, .ref ch, .ref he, .ref de, .ref fi, v6, .ref kp, .int 0, .int 0, .int 0])), (st, .inr (8, [.int 0, .int 0, .int 0, .ref a_columns, .ref a_rows, .ref a_content, .ref a_held, .ref a_other, .ref a_named, .ref a_body, .ref a_parts, .ref a_partCount, .ref a_refRow, .ref a_refColumn, .ref a_refToRow, .ref a_torn, .ref a_record, .int 0, .int 0, .int 0])), (a_columns, .inl (dC 100, 4, .inl g_columns)), (a_rows, .inl (dC 100, 4, .inl g_rows)), (a_content, .inl (dC 101, 200, .inr (.inl g_content))), (a_held, .inl (dC 101, 200, .inr (.inl g_held))), (a_other, .inl (dC 101, 600, .inr (.inl g_other))), (a_named, .inl (dC 100, 6, .inl g_named)), (a_body, .inl (dC 100, 4, .inl g_body)), (a_parts, .inl (dC 100, 24, .inl g_parts)), (a_partCount, .inl (dC 100, 3, .inl g_partCount)), (a_refRow, .inl (dC 100, 150, .inl g_refRow)), (a_refColumn, .inl (dC 100, 150, .inl g_refColumn)), (a_refToRow, .inl (dC 100, 150, .inl g_refToRow)), (a_torn, .inl (dC 102, 150, .inl g_torn)), (a_record, .inl (dC 100, 885, .inl g_record)), (kp, .inl (dC 103, 5, .inr (.inr (.inr (.inr gk))))), (k0, .inr (8, [.int 0, .int 0, .int 0, .ref ak_columns, .ref ak_rows, .ref ak_content, .ref ak_held, .ref ak_other, .ref ak_named, .ref ak_body, .ref ak_parts, .ref ak_partCount, .ref ak_refRow, .ref ak_refColumn, .ref ak_refToRow, .ref ak_torn, .ref ak_record, .int 0, .int 0, .int 0])), (ak_columns, .inl (dC 100, 4, .inl gk_columns)), (ak_rows, .inl (dC 100, 4, .inl gk_rows)), (ak_content, .inl (dC 101, 200, .inr (.inl gk_content))), (ak_held, .inl (dC 101, 200, .inr (.inl gk_held))), (ak_other, .inl (dC 101, 600, .inr (.inl gk_other))), (ak_named, .inl (dC 100, 6, .inl gk_named)), (ak_body, .inl (dC 100, 4, .inl gk_body)), (ak_parts, .inl (dC 100, 24, .inl gk_parts)), (ak_partCount, .inl (dC 100, 3, .inl gk_partCount)), (ak_refRow, .inl (dC 100, 150, .inl gk_refRow)), (ak_refColumn, .inl (dC 100, 150, .inl gk_refColumn)), (ak_refToRow, .inl (dC 100, 150, .inl gk_refToRow)), (ak_torn, .inl (dC 102, 150, .inl gk_torn)), (ak_record, .inl (dC 100, 885, .inl gk_record)), (de, .inr (2, [.ref st, .ref he, x2, .int 1, x4, .int 0, x6, x7, x8, x9, x10, x11, x12, x13, x14, x15, x16, x17, x18])), (ou, .inl (dC 101, 1, .inr (.inl f0)))] sz) (va_Qi (fun (r : Int32) (u : Nat → Int64) => (okScen p0 ∧ r = 0 ∧ u = vp_updL f0 (0 : Int32).toNatClampNeg 0) ∨ (¬ okScen p0 ∧ r = 1 ∧ u = f0)) (fun (u : Nat → Int64) t => nB (dC, dI) (va_A [(h0, .inr (0, [.ref st, .ref no, .ref ch, .ref he, .ref de, .ref fi, v6, .ref kp, .int 0, .int 0, .int 0])), (st, .inr (8, [.int 0, .int 0, .int 0, .ref a_columns, .ref a_rows, .ref a_content, .ref a_held, .ref a_other, .ref a_named, .ref a_body, .ref a_parts, .ref a_partCount, .ref a_refRow, .ref a_refColumn, .ref a_refToRow, .ref a_torn, .ref a_record, .int 0, .int 0, .int 0])), (a_columns, .inl (dC 100, 4, .inl g_columns)), (a_rows, .inl (dC 100, 4, .inl g_rows)), (a_content, .inl (dC 101, 200, .inr (.inl g_content))), (a_held, .inl (dC 101, 200, .inr (.inl g_held))), (a_other, .inl (dC 101, 600, .inr (.inl g_other))), (a_named, .inl (dC 100, 6, .inl g_named)), (a_body, .inl (dC 100, 4, .inl g_body)), (a_parts, .inl (dC 100, 24, .inl g_parts)), (a_partCount, .inl (dC 100, 3, .inl g_partCount)), (a_refRow, .inl (dC 100, 150, .inl g_refRow)), (a_refColumn, .inl (dC 100, 150, .inl g_refColumn)), (a_refToRow, .inl (dC 100, 150, .inl g_refToRow)), (a_torn, .inl (dC 102, 150, .inl g_torn)), (a_record, .inl (dC 100, 885, .inl g_record)), (kp, .inl (dC 103, 5, .inr (.inr (.inr (.inr gk))))), (k0, .inr (8, [.int 0, .int 0, .int 0, .ref ak_columns, .ref ak_rows, .ref ak_content, .ref ak_held, .ref ak_other, .ref ak_named, .ref ak_body, .ref ak_parts, .ref ak_partCount, .ref ak_refRow, .ref ak_refColumn, .ref ak_refToRow, .ref ak_torn, .ref ak_record, .int 0, .int 0, .int 0])), (ak_columns, .inl (dC 100, 4, .inl gk_columns)), (ak_rows, .inl (dC 100, 4, .inl gk_rows)), (ak_content, .inl (dC 101, 200, .inr (.inl gk_content))), (ak_held, .inl (dC 101, 200, .inr (.inl gk_held))), (ak_other, .inl (dC 101, 600, .inr (.inl gk_other))), (ak_named, .inl (dC 100, 6, .inl gk_named)), (ak_body, .inl (dC 100, 4, .inl gk_body)), (ak_parts, .inl (dC 100, 24, .inl gk_parts)), (ak_partCount, .inl (dC 100, 3, .inl gk_partCount)), (ak_refRow, .inl (dC 100, 150, .inl gk_refRow)), (ak_refColumn, .inl (dC 100, 150, .inl gk_refColumn)), (ak_refToRow, .inl (dC 100, 150, .inl gk_refToRow)), (ak_torn, .inl (dC 102, 150, .inl gk_torn)), (ak_record, .inl (dC 100, 885, .inl gk_record)), (de, .inr (2, [.ref st, .ref he, x2, .int 1, x4, .int 0, x6, x7, x8, x9, x10, x11, x12, x13, x14, x15, x16, x17, x18])), (ou, .inl (dC 101, 1, .inr (.inl f0)))] sz) [(ou, .inl (dC 101, 1, .inr (.inl u)))] t) (va_A [(h0, .inr (0, [.ref st, .ref no, .ref ch, .ref he, .ref de, .ref fi, v6, .ref kp, .int 0, .int 0, .int 0])), (st, .inr (8, [.int 0, .int 0, .int 0, .ref a_columns, .ref a_rows, .ref a_content, .ref a_held, .ref a_other, .ref a_named, .ref a_body, .ref a_parts, .ref a_partCount, .ref a_refRow, .ref a_refColumn, .ref a_refToRow, .ref a_torn, .ref a_record, .int 0, .int 0, .int 0])), (a_columns, .inl (dC 100, 4, .inl g_columns)), (a_rows, .inl (dC 100, 4, .inl g_rows)), (a_content, .inl (dC 101, 200, .inr (.inl g_content))), (a_held, .inl (dC 101, 200, .inr (.inl g_held))), (a_other, .inl (dC 101, 600, .inr (.inl g_other))), (a_named, .inl (dC 100, 6, .inl g_named)), (a_body, .inl (dC 100, 4, .inl g_body)), (a_parts, .inl (dC 100, 24, .inl g_parts)), (a_partCount, .inl (dC 100, 3, .inl g_partCount)), (a_refRow, .inl (dC 100, 150, .inl g_refRow)), (a_refColumn, .inl (dC 100, 150, .inl g_refColumn)), (a_refToRow, .inl (dC 100, 150, .inl g_refToRow)), (a_torn, .inl (dC 102, 150, .inl g_torn)), (a_record, .inl (dC 100, 885, .inl g_record)), (kp, .inl (dC 103, 5, .inr (.inr (.inr (.inr gk))))), (k0, .inr (8, [.int 0, .int 0, .int 0, .ref ak_columns, .ref ak_rows, .ref ak_content, .ref ak_held, .ref ak_other, .ref ak_named, .ref ak_body, .ref ak_parts, .ref ak_partCount, .ref ak_refRow, .ref ak_refColumn, .ref ak_refToRow, .ref ak_torn, .ref ak_record, .int 0, .int 0, .int 0])), (ak_columns, .inl (dC 100, 4, .inl gk_columns)), (ak_rows, .inl (dC 100, 4, .inl gk_rows)), (ak_content, .inl (dC 101, 200, .inr (.inl gk_content))), (ak_held, .inl (dC 101, 200, .inr (.inl gk_held))), (ak_other, .inl (dC 101, 600, .inr (.inl gk_other))), (ak_named, .inl (dC 100, 6, .inl gk_named)), (ak_body, .inl (dC 100, 4, .inl gk_body)), (ak_parts, .inl (dC 100, 24, .inl gk_parts)), (ak_partCount, .inl (dC 100, 3, .inl gk_partCount)), (ak_refRow, .inl (dC 100, 150, .inl gk_refRow)), (ak_refColumn, .inl (dC 100, 150, .inl gk_refColumn)), (ak_refToRow, .inl (dC 100, 150, .inl gk_refToRow)), (ak_torn, .inl (dC 102, 150, .inl gk_torn)), (ak_record, .inl (dC 100, 885, .inl gk_record)), (de, .inr (2, [.ref st, .ref he, x2, .int 1, x4, .int 0, x6, x7, x8, x9, x10, x11, x12, x13, x14, x15, x16, x17, x18])), (ou, .inl (dC 101, 1, .inr (.inl f0)))] sz)) 1 6 (va_A [(h0, .inr (0, [.ref st, .ref no, .ref ch, .ref he, .ref de, .ref fi, v6, .ref kp, .int 0, .int 0, .int 0])), (st, .inr (8, [.int 0, .int 0, .int 0, .ref a_columns, .ref a_rows, .ref a_content, .ref a_held, .ref a_other, .ref a_named, .ref a_body, .ref a_parts, .ref a_partCount, .ref a_refRow, .ref a_refColumn, .ref a_refToRow, .ref a_torn, .ref a_record, .int 0, .int 0, .int 0])), (a_columns, .inl (dC 100, 4, .inl g_columns)), (a_rows, .inl (dC 100, 4, .inl g_rows)), (a_content, .inl (dC 101, 200, .inr (.inl g_content))), (a_held, .inl (dC 101, 200, .inr (.inl g_held))), (a_other, .inl (dC 101, 600, .inr (.inl g_other))), (a_named, .inl (dC 100, 6, .inl g_named)), (a_body, .inl (dC 100, 4, .inl g_body)), (a_parts, .inl (dC 100, 24, .inl g_parts)), (a_partCount, .inl (dC 100, 3, .inl g_partCount)), (a_refRow, .inl (dC 100, 150, .inl g_refRow)), (a_refColumn, .inl (dC 100, 150, .inl g_refColumn)), (a_refToRow, .inl (dC 100, 150, .inl g_refToRow)), (a_torn, .inl (dC 102, 150, .inl g_torn)), (a_record, .inl (dC 100, 885, .inl g_record)), (kp, .inl (dC 103, 5, .inr (.inr (.inr (.inr gk))))), (k0, .inr (8, [.int 0, .int 0, .int 0, .ref ak_columns, .ref ak_rows, .ref ak_content, .ref ak_held, .ref ak_other, .ref ak_named, .ref ak_body, .ref ak_parts, .ref ak_partCount, .ref ak_refRow, .ref ak_refColumn, .ref ak_refToRow, .ref ak_torn, .ref ak_record, .int 0, .int 0, .int 0])), (ak_columns, .inl (dC 100, 4, .inl gk_columns)), (ak_rows, .inl (dC 100, 4, .inl gk_rows)), (ak_content, .inl (dC 101, 200, .inr (.inl gk_content))), (ak_held, .inl (dC 101, 200, .inr (.inl gk_held))), (ak_other, .inl (dC 101, 600, .inr (.inl gk_other))), (ak_named, .inl (dC 100, 6, .inl gk_named)), (ak_body, .inl (dC 100, 4, .inl gk_body)), (ak_parts, .inl (dC 100, 24, .inl gk_parts)), (ak_partCount, .inl (dC 100, 3, .inl gk_partCount)), (ak_refRow, .inl (dC 100, 150, .inl gk_refRow)), (ak_refColumn, .inl (dC 100, 150, .inl gk_refColumn)), (ak_refToRow, .inl (dC 100, 150, .inl gk_refToRow)), (ak_torn, .inl (dC 102, 150, .inl gk_torn)), (ak_record, .inl (dC 100, 885, .inl gk_record)), (de, .inr (2, [.ref st, .ref he, x2, .int 1, x4, .int 0, x6, x7, x8, x9, x10, x11, x12, x13, x14, x15, x16, x17, x18])), (ou, .inl (dC 101, 1, .inr (.inl f0)))] sz) := by
  refine va_MetW (cc := cM_L_drop) (maxL := 4) (ret := (some .int)) (by decide) rfl ?_
  intro p e s m args below meth c s₁ B hml hv
  obtain ⟨rfl, hsz, hP, hD0, hK, hN⟩ := hv
  have hx := B.exec
  have hb := B.bytes
  have hr := B.returns
  have hbg : ∀ w ∈ BIG, w.before ([.ref h0, .int p0, .ref ou] : List Value).toArray s = true := fun w h => atoms_spec (ws := (wmW yM_L_drop cM_L_drop 4 (some .int) [(0, 9, 12, 13)])) B.pre w (List.mem_cons_of_mem _ h)
  have hown : s.vm.findClass "NoteDocumentLaw" = some m.cls := findClass_of_methodNamed B.named
  have hlocks := B.notSynchronized
  have hTab : c.exceptionTable.toList = tableOf [(0, 9, 12, 13)] := vx_table (x := yM_L_drop) B (atoms_spec (ws := (wmW yM_L_drop cM_L_drop 4 (some .int) [(0, 9, 12, 13)])) B.pre _ List.mem_cons_self)
  subst hsz
  have hD := hD0.self (sz := s.heap.size)
  generalize hAe : va_A [(h0, .inr (0, [.ref st, .ref no, .ref ch, .ref he, .ref de, .ref fi, v6, .ref kp, .int 0, .int 0, .int 0])), (st, .inr (8, [.int 0, .int 0, .int 0, .ref a_columns, .ref a_rows, .ref a_content, .ref a_held, .ref a_other, .ref a_named, .ref a_body, .ref a_parts, .ref a_partCount, .ref a_refRow, .ref a_refColumn, .ref a_refToRow, .ref a_torn, .ref a_record, .int 0, .int 0, .int 0])), (a_columns, .inl (dC 100, 4, .inl g_columns)), (a_rows, .inl (dC 100, 4, .inl g_rows)), (a_content, .inl (dC 101, 200, .inr (.inl g_content))), (a_held, .inl (dC 101, 200, .inr (.inl g_held))), (a_other, .inl (dC 101, 600, .inr (.inl g_other))), (a_named, .inl (dC 100, 6, .inl g_named)), (a_body, .inl (dC 100, 4, .inl g_body)), (a_parts, .inl (dC 100, 24, .inl g_parts)), (a_partCount, .inl (dC 100, 3, .inl g_partCount)), (a_refRow, .inl (dC 100, 150, .inl g_refRow)), (a_refColumn, .inl (dC 100, 150, .inl g_refColumn)), (a_refToRow, .inl (dC 100, 150, .inl g_refToRow)), (a_torn, .inl (dC 102, 150, .inl g_torn)), (a_record, .inl (dC 100, 885, .inl g_record)), (kp, .inl (dC 103, 5, .inr (.inr (.inr (.inr gk))))), (k0, .inr (8, [.int 0, .int 0, .int 0, .ref ak_columns, .ref ak_rows, .ref ak_content, .ref ak_held, .ref ak_other, .ref ak_named, .ref ak_body, .ref ak_parts, .ref ak_partCount, .ref ak_refRow, .ref ak_refColumn, .ref ak_refToRow, .ref ak_torn, .ref ak_record, .int 0, .int 0, .int 0])), (ak_columns, .inl (dC 100, 4, .inl gk_columns)), (ak_rows, .inl (dC 100, 4, .inl gk_rows)), (ak_content, .inl (dC 101, 200, .inr (.inl gk_content))), (ak_held, .inl (dC 101, 200, .inr (.inl gk_held))), (ak_other, .inl (dC 101, 600, .inr (.inl gk_other))), (ak_named, .inl (dC 100, 6, .inl gk_named)), (ak_body, .inl (dC 100, 4, .inl gk_body)), (ak_parts, .inl (dC 100, 24, .inl gk_parts)), (ak_partCount, .inl (dC 100, 3, .inl gk_partCount)), (ak_refRow, .inl (dC 100, 150, .inl gk_refRow)), (ak_refColumn, .inl (dC 100, 150, .inl gk_refColumn)), (ak_refToRow, .inl (dC 100, 150, .inl gk_refToRow)), (ak_torn, .inl (dC 102, 150, .inl gk_torn)), (ak_record, .inl (dC 100, 885, .inl gk_record)), (de, .inr (2, [.ref st, .ref he, x2, .int 1, x4, .int 0, x6, x7, x8, x9, x10, x11, x12, x13, x14, x15, x16, x17, x18])), (ou, .inl (dC 101, 1, .inr (.inl f0)))] s.heap.size = A at hD hN ⊢
  have hA : ∀ q : Nat, s.heap.size ≤ q → A q := fun q h => by rw [← hAe]; exact Or.inr h
  have hS : va_S A s.heap s.heap [] := va_S.rf
  have hP : va_P (dC, dI) classes [(h0, .inr (0, [.ref st, .ref no, .ref ch, .ref he, .ref de, .ref fi, v6, .ref kp, .int 0, .int 0, .int 0])), (st, .inr (8, [.int 0, .int 0, .int 0, .ref a_columns, .ref a_rows, .ref a_content, .ref a_held, .ref a_other, .ref a_named, .ref a_body, .ref a_parts, .ref a_partCount, .ref a_refRow, .ref a_refColumn, .ref a_refToRow, .ref a_torn, .ref a_record, .int 0, .int 0, .int 0])), (a_columns, .inl (dC 100, 4, .inl g_columns)), (a_rows, .inl (dC 100, 4, .inl g_rows)), (a_content, .inl (dC 101, 200, .inr (.inl g_content))), (a_held, .inl (dC 101, 200, .inr (.inl g_held))), (a_other, .inl (dC 101, 600, .inr (.inl g_other))), (a_named, .inl (dC 100, 6, .inl g_named)), (a_body, .inl (dC 100, 4, .inl g_body)), (a_parts, .inl (dC 100, 24, .inl g_parts)), (a_partCount, .inl (dC 100, 3, .inl g_partCount)), (a_refRow, .inl (dC 100, 150, .inl g_refRow)), (a_refColumn, .inl (dC 100, 150, .inl g_refColumn)), (a_refToRow, .inl (dC 100, 150, .inl g_refToRow)), (a_torn, .inl (dC 102, 150, .inl g_torn)), (a_record, .inl (dC 100, 885, .inl g_record)), (kp, .inl (dC 103, 5, .inr (.inr (.inr (.inr gk))))), (k0, .inr (8, [.int 0, .int 0, .int 0, .ref ak_columns, .ref ak_rows, .ref ak_content, .ref ak_held, .ref ak_other, .ref ak_named, .ref ak_body, .ref ak_parts, .ref ak_partCount, .ref ak_refRow, .ref ak_refColumn, .ref ak_refToRow, .ref ak_torn, .ref ak_record, .int 0, .int 0, .int 0])), (ak_columns, .inl (dC 100, 4, .inl gk_columns)), (ak_rows, .inl (dC 100, 4, .inl gk_rows)), (ak_content, .inl (dC 101, 200, .inr (.inl gk_content))), (ak_held, .inl (dC 101, 200, .inr (.inl gk_held))), (ak_other, .inl (dC 101, 600, .inr (.inl gk_other))), (ak_named, .inl (dC 100, 6, .inl gk_named)), (ak_body, .inl (dC 100, 4, .inl gk_body)), (ak_parts, .inl (dC 100, 24, .inl gk_parts)), (ak_partCount, .inl (dC 100, 3, .inl gk_partCount)), (ak_refRow, .inl (dC 100, 150, .inl gk_refRow)), (ak_refColumn, .inl (dC 100, 150, .inl gk_refColumn)), (ak_refToRow, .inl (dC 100, 150, .inl gk_refToRow)), (ak_torn, .inl (dC 102, 150, .inl gk_torn)), (ak_record, .inl (dC 100, 885, .inl gk_record)), (de, .inr (2, [.ref st, .ref he, x2, .int 1, x4, .int 0, x6, x7, x8, x9, x10, x11, x12, x13, x14, x15, x16, x17, x18])), (ou, .inl (dC 101, 1, .inr (.inl f0)))] s.heap := hP
  have hl := lv_entry ([.ref h0, .int p0, .ref ou] : List Value) (n := 4) (Nat.le_of_ble_eq_true rfl)
  rw [lg_entry_eq]
  generalize (lg_sl ([.ref h0, .int p0, .ref ou] : List Value) ++ List.replicate (4 - (lg_sl ([.ref h0, .int p0, .ref ou] : List Value)).length) Slot.unset).toArray = ls at hl ⊢
  have hl : lv_has ls 4 [(0, .ref h0), (1, .int p0), (2, .ref ou)] := hl
  refine lv_aload_n hx hb dM_L_drop_0 rfl (lv_at hl 2 rfl) ?_
  refine lv_iconst (v := 0) hx hb dM_L_drop_1 (by decide) ?_
  refine lv_aload_n hx hb dM_L_drop_2 rfl (lv_at hl 0 rfl) ?_
  refine lv_iload_n hx hb dM_L_drop_3 rfl (lv_at hl 1 rfl) ?_
  have hFc := va_free (wc := [(h0, .inr (0, [.ref st, .ref no, .ref ch, .ref he, .ref de, .ref fi, v6, .ref kp, .int 0, .int 0, .int 0])), (st, .inr (8, [.int 0, .int 0, .int 0, .ref a_columns, .ref a_rows, .ref a_content, .ref a_held, .ref a_other, .ref a_named, .ref a_body, .ref a_parts, .ref a_partCount, .ref a_refRow, .ref a_refColumn, .ref a_refToRow, .ref a_torn, .ref a_record, .int 0, .int 0, .int 0])), (a_columns, .inl (dC 100, 4, .inl g_columns)), (a_rows, .inl (dC 100, 4, .inl g_rows)), (a_content, .inl (dC 101, 200, .inr (.inl g_content))), (a_held, .inl (dC 101, 200, .inr (.inl g_held))), (a_other, .inl (dC 101, 600, .inr (.inl g_other))), (a_named, .inl (dC 100, 6, .inl g_named)), (a_body, .inl (dC 100, 4, .inl g_body)), (a_parts, .inl (dC 100, 24, .inl g_parts)), (a_partCount, .inl (dC 100, 3, .inl g_partCount)), (a_refRow, .inl (dC 100, 150, .inl g_refRow)), (a_refColumn, .inl (dC 100, 150, .inl g_refColumn)), (a_refToRow, .inl (dC 100, 150, .inl g_refToRow)), (a_torn, .inl (dC 102, 150, .inl g_torn)), (a_record, .inl (dC 100, 885, .inl g_record)), (kp, .inl (dC 103, 5, .inr (.inr (.inr (.inr gk))))), (k0, .inr (8, [.int 0, .int 0, .int 0, .ref ak_columns, .ref ak_rows, .ref ak_content, .ref ak_held, .ref ak_other, .ref ak_named, .ref ak_body, .ref ak_parts, .ref ak_partCount, .ref ak_refRow, .ref ak_refColumn, .ref ak_refToRow, .ref ak_torn, .ref ak_record, .int 0, .int 0, .int 0])), (ak_columns, .inl (dC 100, 4, .inl gk_columns)), (ak_rows, .inl (dC 100, 4, .inl gk_rows)), (ak_content, .inl (dC 101, 200, .inr (.inl gk_content))), (ak_held, .inl (dC 101, 200, .inr (.inl gk_held))), (ak_other, .inl (dC 101, 600, .inr (.inl gk_other))), (ak_named, .inl (dC 100, 6, .inl gk_named)), (ak_body, .inl (dC 100, 4, .inl gk_body)), (ak_parts, .inl (dC 100, 24, .inl gk_parts)), (ak_partCount, .inl (dC 100, 3, .inl gk_partCount)), (ak_refRow, .inl (dC 100, 150, .inl gk_refRow)), (ak_refColumn, .inl (dC 100, 150, .inl gk_refColumn)), (ak_refToRow, .inl (dC 100, 150, .inl gk_refToRow)), (ak_torn, .inl (dC 102, 150, .inl gk_torn)), (ak_record, .inl (dC 100, 885, .inl gk_record)), (de, .inr (2, [.ref st, .ref he, x2, .int 1, x4, .int 0, x6, x7, x8, x9, x10, x11, x12, x13, x14, x15, x16, x17, x18]))]) hD hS hA [0, 1, 2, 3, 4, 5, 6, 7, 8, 9, 10, 11, 12, 13, 14, 15, 16, 17, 18, 19, 20, 21, 22, 23, 24, 25, 26, 27, 28, 29, 30, 31, 32] rfl
  refine vx_calli (vx_runV (As := [.int p0]) (rest := [.int 0, .ref ou]) ⟨hx, hb, hml, hown, hbg⟩ (c_D_drop l hl9 dC dI h0 p0 st no ch he de fi v6 kp a_columns a_rows a_content a_held a_other a_named a_body a_parts a_partCount a_refRow a_refColumn a_refToRow a_torn a_record g_columns g_rows g_content g_held g_other g_named g_body g_parts g_partCount g_refRow g_refColumn g_refToRow g_torn g_record gk k0 ak_columns ak_rows ak_content ak_held ak_other ak_named ak_body ak_parts ak_partCount ak_refRow ak_refColumn ak_refToRow ak_torn ak_record gk_columns gk_rows gk_content gk_held gk_other gk_named gk_body gk_parts gk_partCount gk_refRow gk_refColumn gk_refToRow gk_torn gk_record x2 x4 x6 x7 x8 x9 x10 x11 x12 x13 x14 x15 x16 x17 x18 _ (hk0) (hoth)) (cwV 1 hbg (gd_V (fun _ h => h) wd_1874 wd_1875 wd_1876 wd_1 (gd_wm (fun _ h => h) wd_1877)) rfl rfl rfl (by decide +kernel) ⟨Nat.le_of_ble_eq_true rfl, Nat.le_of_ble_eq_true rfl⟩) (nPreV [0, 1, 2, 3, 4, 5, 6, 7, 8, 9, 10, 11, 12, 13, 14, 15, 16, 17, 18, 19, 20, 21, 22, 23, 24, 25, 26, 27, 28, 29, 30, 31, 32] hP hD hK hN hS hA (by decide) rfl 0 rfl rfl) rfl rfl hl.1 rfl (lv_room (Nat.le_of_ble_eq_true rfl)) dM_L_drop_4 ⟨Nat.le_of_ble_eq_true rfl, Nat.le_of_ble_eq_true rfl⟩) hS (fun q _ h => hFc q h) hFc (fun q _ h => hFc q h) (fun E ce q9 u t H1 locs ht hvm hpx hBX hz1 hk1 hS hq9 hcv hcl => ?_) (fun r_1 u t H1 locs ht hvm hw hB hz1 hk1 hS => ?_)
  · --
    obtain ⟨hP, hD⟩ := va_join (wr := [(ou, .inl (dC 101, 1, .inr (.inl f0)))]) (w1 := []) hP hD [0, 1, 2, 3, 4, 5, 6, 7, 8, 9, 10, 11, 12, 13, 14, 15, 16, 17, 18, 19, 20, 21, 22, 23, 24, 25, 26, 27, 28, 29, 30, 31, 32] [33] rfl rfl (by decide) (by decide) hk1 hFc nP0 nD0
    generalize H1 = H at hP hS hq9 ⊢
    have hP : va_P (dC, dI) classes [(ou, .inl (dC 101, 1, .inr (.inl f0)))] H := hP
    have hD : va_D A [(ou, .inl (dC 101, 1, .inr (.inl f0)))] := hD
    obtain ⟨rfl, c_2⟩ := hBX
    refine vx_catch (own := "NoteDocumentLaw") (name := "java/lang/IllegalArgumentException") (E := "java/lang/IllegalArgumentException") hown [] ⟨0, 9, 12, 13⟩ [] (by rw [hTab]; rfl) (fun z hz => nomatch hz) (by decide) (by decide) (hbg _ wd_1023) (va_Nw.use rfl (hK.2.1 _ wx_1031)) hq9 hcv hcl ?_
    refine W.widen (k := 1) (n := 6) (Nat.le_of_ble_eq_true rfl) (Nat.le_of_ble_eq_true rfl) ?_
    refine lv_astore_n (lv' := [(3, .ref q9), (0, .ref h0), (1, .int p0), (2, .ref ou)]) hx hb dM_L_drop_12 rfl hl (by decide) rfl (fun ls hl => ?_)
    refine lv_iconst (v := 1) hx hb dM_L_drop_13 (by decide) ?_
    have hP9 := hP.pick (wc := [(ou, .inl (dC 101, 1, .inr (.inl f0)))]) [0] rfl
    have hD9 := hD.sub (ws' := [(ou, .inl (dC 101, 1, .inr (.inl f0)))]) [0] (by decide) rfl
    exact W.iret (v := 1) hx hb hr (fun t ht hW => ⟨⟨1, (f0), rfl, (Or.inr ⟨c_2, rfl, rfl⟩), ⟨(by rw [ht]; exact hP9), hD9⟩⟩, hS.F ht⟩) hS.2.2 dM_L_drop_14
  · --
    obtain ⟨c_3, rfl⟩ := hw
    obtain ⟨hP, hD⟩ := va_join (wr := [(ou, .inl (dC 101, 1, .inr (.inl f0)))]) (w1 := []) hP hD [0, 1, 2, 3, 4, 5, 6, 7, 8, 9, 10, 11, 12, 13, 14, 15, 16, 17, 18, 19, 20, 21, 22, 23, 24, 25, 26, 27, 28, 29, 30, 31, 32] [33] rfl rfl (by decide) (by decide) hk1 hFc nP0 nD0
    generalize H1 = H at hP hS ⊢
    have hP : va_P (dC, dI) classes [(ou, .inl (dC 101, 1, .inr (.inl f0)))] H := hP
    have hD : va_D A [(ou, .inl (dC 101, 1, .inr (.inl f0)))] := hD
    refine W.widen (k := 1) (n := 6) (Nat.le_of_ble_eq_true rfl) (Nat.le_of_ble_eq_true rfl) ?_
    refine lv_i2l (v := 0) hx hb dM_L_drop_7 (by decide) ?_
    refine va_last hx hb hK.1 hP hD hS 0 1 rfl rfl (by unfold vp_in; decide) dM_L_drop_8 (fun H locs hP hD hS => ?_)
    have hP : va_P (dC, dI) classes [(ou, .inl (dC 101, 1, .inr (.inl (vp_updL f0 (0 : Int32).toNatClampNeg 0))))] H := hP
    have hD : va_D A [(ou, .inl (dC 101, 1, .inr (.inl (vp_updL f0 (0 : Int32).toNatClampNeg 0))))] := hD
    refine lv_goto (tgt := 15) hx hb dM_L_drop_9 (by decide) ?_
    refine lv_iconst (v := 0) hx hb dM_L_drop_15 (by decide) ?_
    have hP9 := hP.pick (wc := [(ou, .inl (dC 101, 1, .inr (.inl (vp_updL f0 (0 : Int32).toNatClampNeg 0))))]) [0] rfl
    have hD9 := hD.sub (ws' := [(ou, .inl (dC 101, 1, .inr (.inl (vp_updL f0 (0 : Int32).toNatClampNeg 0))))]) [0] (by decide) rfl
    exact W.iret (v := 0) hx hb hr (fun t ht hW => ⟨⟨0, (vp_updL f0 (0 : Int32).toNatClampNeg 0), rfl, (Or.inl ⟨c_3, rfl, rfl⟩), ⟨(by rw [ht]; exact hP9), hD9⟩⟩, hS.F ht⟩) hS.2.2 dM_L_drop_16
set_option maxHeartbeats 4000000 in
set_option maxRecDepth 100000 in
theorem c_L_kindIn (l : Launch) (hl9 : l.stackTraces = false) (dC : Nat → ClassId) (dI : Nat → Nat → Nat) (h0 : Nat) (p0 : Int32) (p1 : Int32) (p2 : Int32) (p3 : Int32) (ou : Nat) (st : Nat) (v1 : Value) (v2 : Value) (v3 : Value) (v4 : Value) (v5 : Value) (v6 : Value) (v7 : Value) (v8 : Value) (v9 : Value) (v10 : Value) (w3 : Value) (w4 : Value) (w5 : Value) (w6 : Value) (w7 : Value) (w8 : Value) (w9 : Value) (w10 : Value) (w11 : Value) (w12 : Value) (w13 : Value) (w14 : Value) (w15 : Value) (w16 : Value) (w17 : Value) (w18 : Value) (w19 : Value) (f0 : Nat → Int64) (sz : Nat) : Met l yM_L_kindIn (wmW yM_L_kindIn cM_L_kindIn 7 (some .int) [(0, 14, 17, 13), (0, 14, 21, 21)]) ({ frames := 140, cells := 2, slots := 12, locals := 2800 }) (nPc [.ref h0, .int p0, .int p1, .int p2, .int p3, .ref ou] (dC, dI) [(h0, .inr (0, [.ref st, v1, v2, v3, v4, v5, v6, v7, v8, v9, v10])), (st, .inr (8, [.int 0, .int 0, .int 0, w3, w4, w5, w6, w7, w8, w9, w10, w11, w12, w13, w14, w15, w16, w17, w18, w19])), (ou, .inl (dC 101, 1, .inr (.inl f0)))] sz) (va_Qi (fun (r : Int32) (u : Nat → Int64) => (¬ okScen p0 ∧ r = 1 ∧ u = f0) ∨ (okScen p0 ∧ r = 2 ∧ u = f0)) (fun (u : Nat → Int64) t => nB (dC, dI) (va_A [(h0, .inr (0, [.ref st, v1, v2, v3, v4, v5, v6, v7, v8, v9, v10])), (st, .inr (8, [.int 0, .int 0, .int 0, w3, w4, w5, w6, w7, w8, w9, w10, w11, w12, w13, w14, w15, w16, w17, w18, w19])), (ou, .inl (dC 101, 1, .inr (.inl f0)))] sz) [(ou, .inl (dC 101, 1, .inr (.inl u)))] t) (va_A [(h0, .inr (0, [.ref st, v1, v2, v3, v4, v5, v6, v7, v8, v9, v10])), (st, .inr (8, [.int 0, .int 0, .int 0, w3, w4, w5, w6, w7, w8, w9, w10, w11, w12, w13, w14, w15, w16, w17, w18, w19])), (ou, .inl (dC 101, 1, .inr (.inl f0)))] sz)) 2 12 (va_A [(h0, .inr (0, [.ref st, v1, v2, v3, v4, v5, v6, v7, v8, v9, v10])), (st, .inr (8, [.int 0, .int 0, .int 0, w3, w4, w5, w6, w7, w8, w9, w10, w11, w12, w13, w14, w15, w16, w17, w18, w19])), (ou, .inl (dC 101, 1, .inr (.inl f0)))] sz) := by
  refine va_MetW (cc := cM_L_kindIn) (maxL := 7) (ret := (some .int)) (by decide) rfl ?_
  intro p e s m args below meth c s₁ B hml hv
  obtain ⟨rfl, hsz, hP, hD0, hK, hN⟩ := hv
  have hx := B.exec
  have hb := B.bytes
  have hr := B.returns
  have hbg : ∀ w ∈ BIG, w.before ([.ref h0, .int p0, .int p1, .int p2, .int p3, .ref ou] : List Value).toArray s = true := fun w h => atoms_spec (ws := (wmW yM_L_kindIn cM_L_kindIn 7 (some .int) [(0, 14, 17, 13), (0, 14, 21, 21)])) B.pre w (List.mem_cons_of_mem _ h)
  have hown : s.vm.findClass "NoteDocumentLaw" = some m.cls := findClass_of_methodNamed B.named
  have hlocks := B.notSynchronized
  have hTab : c.exceptionTable.toList = tableOf [(0, 14, 17, 13), (0, 14, 21, 21)] := vx_table (x := yM_L_kindIn) B (atoms_spec (ws := (wmW yM_L_kindIn cM_L_kindIn 7 (some .int) [(0, 14, 17, 13), (0, 14, 21, 21)])) B.pre _ List.mem_cons_self)
  subst hsz
  have hD := hD0.self (sz := s.heap.size)
  generalize hAe : va_A [(h0, .inr (0, [.ref st, v1, v2, v3, v4, v5, v6, v7, v8, v9, v10])), (st, .inr (8, [.int 0, .int 0, .int 0, w3, w4, w5, w6, w7, w8, w9, w10, w11, w12, w13, w14, w15, w16, w17, w18, w19])), (ou, .inl (dC 101, 1, .inr (.inl f0)))] s.heap.size = A at hD hN ⊢
  have hA : ∀ q : Nat, s.heap.size ≤ q → A q := fun q h => by rw [← hAe]; exact Or.inr h
  have hS : va_S A s.heap s.heap [] := va_S.rf
  have hP : va_P (dC, dI) classes [(h0, .inr (0, [.ref st, v1, v2, v3, v4, v5, v6, v7, v8, v9, v10])), (st, .inr (8, [.int 0, .int 0, .int 0, w3, w4, w5, w6, w7, w8, w9, w10, w11, w12, w13, w14, w15, w16, w17, w18, w19])), (ou, .inl (dC 101, 1, .inr (.inl f0)))] s.heap := hP
  have hl := lv_entry ([.ref h0, .int p0, .int p1, .int p2, .int p3, .ref ou] : List Value) (n := 7) (Nat.le_of_ble_eq_true rfl)
  rw [lg_entry_eq]
  generalize (lg_sl ([.ref h0, .int p0, .int p1, .int p2, .int p3, .ref ou] : List Value) ++ List.replicate (7 - (lg_sl ([.ref h0, .int p0, .int p1, .int p2, .int p3, .ref ou] : List Value)).length) Slot.unset).toArray = ls at hl ⊢
  have hl : lv_has ls 7 [(0, .ref h0), (1, .int p0), (2, .int p1), (3, .int p2), (4, .int p3), (5, .ref ou)] := hl
  refine lv_aload hx hb dM_L_kindIn_0 (lv_at hl 5 rfl) ?_
  refine lv_iconst (v := 0) hx hb dM_L_kindIn_2 (by decide) ?_
  refine lv_aload_n hx hb dM_L_kindIn_3 rfl (lv_at hl 0 rfl) ?_
  refine lv_iload_n hx hb dM_L_kindIn_4 rfl (lv_at hl 1 rfl) ?_
  refine lv_iload_n hx hb dM_L_kindIn_5 rfl (lv_at hl 2 rfl) ?_
  refine lv_iload_n hx hb dM_L_kindIn_6 rfl (lv_at hl 3 rfl) ?_
  refine lv_iload hx hb dM_L_kindIn_7 (lv_at hl 4 rfl) ?_
  have hFc := va_free (wc := [(h0, .inr (0, [.ref st, v1, v2, v3, v4, v5, v6, v7, v8, v9, v10])), (st, .inr (8, [.int 0, .int 0, .int 0, w3, w4, w5, w6, w7, w8, w9, w10, w11, w12, w13, w14, w15, w16, w17, w18, w19]))]) hD hS hA [0, 1] rfl
  refine vx_calli (vx_runV (As := [.int p0, .int p1, .int p2, .int p3]) (rest := [.int 0, .ref ou]) ⟨hx, hb, hml, hown, hbg⟩ (c_D_kindIn l hl9 dC dI h0 p0 p1 p2 p3 st v1 v2 v3 v4 v5 v6 v7 v8 v9 v10 w3 w4 w5 w6 w7 w8 w9 w10 w11 w12 w13 w14 w15 w16 w17 w18 w19 _ ) (cwV 4 hbg (gd_V (fun _ h => h) wd_1882 wd_1883 wd_1884 wd_1 (gd_wm (fun _ h => h) wd_1885)) rfl rfl rfl (by decide +kernel) ⟨Nat.le_of_ble_eq_true rfl, Nat.le_of_ble_eq_true rfl⟩) (nPreV [0, 1] hP hD hK hN hS hA (by decide) rfl 0 rfl rfl) rfl rfl hl.1 rfl (lv_room (Nat.le_of_ble_eq_true rfl)) dM_L_kindIn_9 ⟨Nat.le_of_ble_eq_true rfl, Nat.le_of_ble_eq_true rfl⟩) hS (fun q _ h => hFc q h) hFc (fun q _ h => hFc q h) (fun E ce q9 u t H1 locs ht hvm hpx hBX hz1 hk1 hS hq9 hcv hcl => ?_) (fun r_1 u t H1 locs ht hvm hw hB hz1 hk1 hS => ?_)
  · --
    obtain ⟨hP, hD⟩ := va_join (wr := [(ou, .inl (dC 101, 1, .inr (.inl f0)))]) (w1 := []) hP hD [0, 1] [2] rfl rfl (by decide) (by decide) hk1 hFc nP0 nD0
    generalize H1 = H at hP hS hq9 ⊢
    have hP : va_P (dC, dI) classes [(ou, .inl (dC 101, 1, .inr (.inl f0)))] H := hP
    have hD : va_D A [(ou, .inl (dC 101, 1, .inr (.inl f0)))] := hD
    rcases hBX with ⟨rfl, c_2⟩ | ⟨rfl, c_3⟩
    · --
      refine vx_catch (own := "NoteDocumentLaw") (name := "java/lang/IllegalArgumentException") (E := "java/lang/IllegalArgumentException") hown [] ⟨0, 14, 17, 13⟩ [⟨0, 14, 21, 21⟩] (by rw [hTab]; rfl) (fun z hz => nomatch hz) (by decide) (by decide) (hbg _ wd_1023) (va_Nw.use rfl (hK.2.1 _ wx_1031)) hq9 hcv hcl ?_
      refine W.widen (k := 2) (n := 12) (Nat.le_of_ble_eq_true rfl) (Nat.le_of_ble_eq_true rfl) ?_
      refine lv_astore (lv' := [(6, .ref q9), (0, .ref h0), (1, .int p0), (2, .int p1), (3, .int p2), (4, .int p3), (5, .ref ou)]) hx hb dM_L_kindIn_17 hl (by decide) rfl (fun ls hl => ?_)
      refine lv_iconst (v := 1) hx hb dM_L_kindIn_19 (by decide) ?_
      have hP9 := hP.pick (wc := [(ou, .inl (dC 101, 1, .inr (.inl f0)))]) [0] rfl
      have hD9 := hD.sub (ws' := [(ou, .inl (dC 101, 1, .inr (.inl f0)))]) [0] (by decide) rfl
      exact W.iret (v := 1) hx hb hr (fun t ht hW => ⟨⟨1, (f0), rfl, (Or.inl ⟨c_2, rfl, rfl⟩), ⟨(by rw [ht]; exact hP9), hD9⟩⟩, hS.F ht⟩) hS.2.2 dM_L_kindIn_20
    · --
      refine vx_catch (own := "NoteDocumentLaw") (name := "java/lang/IndexOutOfBoundsException") (E := "java/lang/IndexOutOfBoundsException") hown [⟨0, 14, 17, 13⟩] ⟨0, 14, 21, 21⟩ [] (by rw [hTab]; rfl) (n_pcons (Or.inr ⟨by decide, "java/lang/IllegalArgumentException", (hbg _ wd_1023), hK.2.2.2.2⟩) (fun z hz => nomatch hz)) (by decide) (by decide) (hbg _ wd_1117) (va_Nw.use rfl (hK.2.1 _ wx_1128)) hq9 hcv hcl ?_
      refine W.widen (k := 2) (n := 12) (Nat.le_of_ble_eq_true rfl) (Nat.le_of_ble_eq_true rfl) ?_
      refine lv_astore (lv' := [(6, .ref q9), (0, .ref h0), (1, .int p0), (2, .int p1), (3, .int p2), (4, .int p3), (5, .ref ou)]) hx hb dM_L_kindIn_21 hl (by decide) rfl (fun ls hl => ?_)
      refine lv_iconst (v := 2) hx hb dM_L_kindIn_23 (by decide) ?_
      have hP9 := hP.pick (wc := [(ou, .inl (dC 101, 1, .inr (.inl f0)))]) [0] rfl
      have hD9 := hD.sub (ws' := [(ou, .inl (dC 101, 1, .inr (.inl f0)))]) [0] (by decide) rfl
      exact W.iret (v := 2) hx hb hr (fun t ht hW => ⟨⟨2, (f0), rfl, (Or.inr ⟨c_3, rfl, rfl⟩), ⟨(by rw [ht]; exact hP9), hD9⟩⟩, hS.F ht⟩) hS.2.2 dM_L_kindIn_24
  · --
    exact hw.elim
set_option maxHeartbeats 4000000 in
set_option maxRecDepth 100000 in
theorem c_L_valueIn (l : Launch) (hl9 : l.stackTraces = false) (dC : Nat → ClassId) (dI : Nat → Nat → Nat) (h0 : Nat) (p0 : Int32) (p1 : Int32) (p2 : Int32) (p3 : Int32) (ou : Nat) (st : Nat) (v1 : Value) (v2 : Value) (v3 : Value) (v4 : Value) (v5 : Value) (v6 : Value) (v7 : Value) (v8 : Value) (v9 : Value) (v10 : Value) (w3 : Value) (w4 : Value) (w5 : Value) (w6 : Value) (w7 : Value) (w8 : Value) (w9 : Value) (w10 : Value) (w11 : Value) (w12 : Value) (w13 : Value) (w14 : Value) (w15 : Value) (w16 : Value) (w17 : Value) (w18 : Value) (w19 : Value) (f0 : Nat → Int64) (sz : Nat) : Met l yM_L_valueIn (wmW yM_L_valueIn cM_L_valueIn 7 (some .int) [(0, 13, 16, 13), (0, 13, 20, 21)]) ({ frames := 140, cells := 2, slots := 12, locals := 2800 }) (nPc [.ref h0, .int p0, .int p1, .int p2, .int p3, .ref ou] (dC, dI) [(h0, .inr (0, [.ref st, v1, v2, v3, v4, v5, v6, v7, v8, v9, v10])), (st, .inr (8, [.int 0, .int 0, .int 0, w3, w4, w5, w6, w7, w8, w9, w10, w11, w12, w13, w14, w15, w16, w17, w18, w19])), (ou, .inl (dC 101, 1, .inr (.inl f0)))] sz) (va_Qi (fun (r : Int32) (u : Nat → Int64) => (¬ okScen p0 ∧ r = 1 ∧ u = f0) ∨ (okScen p0 ∧ r = 2 ∧ u = f0)) (fun (u : Nat → Int64) t => nB (dC, dI) (va_A [(h0, .inr (0, [.ref st, v1, v2, v3, v4, v5, v6, v7, v8, v9, v10])), (st, .inr (8, [.int 0, .int 0, .int 0, w3, w4, w5, w6, w7, w8, w9, w10, w11, w12, w13, w14, w15, w16, w17, w18, w19])), (ou, .inl (dC 101, 1, .inr (.inl f0)))] sz) [(ou, .inl (dC 101, 1, .inr (.inl u)))] t) (va_A [(h0, .inr (0, [.ref st, v1, v2, v3, v4, v5, v6, v7, v8, v9, v10])), (st, .inr (8, [.int 0, .int 0, .int 0, w3, w4, w5, w6, w7, w8, w9, w10, w11, w12, w13, w14, w15, w16, w17, w18, w19])), (ou, .inl (dC 101, 1, .inr (.inl f0)))] sz)) 2 12 (va_A [(h0, .inr (0, [.ref st, v1, v2, v3, v4, v5, v6, v7, v8, v9, v10])), (st, .inr (8, [.int 0, .int 0, .int 0, w3, w4, w5, w6, w7, w8, w9, w10, w11, w12, w13, w14, w15, w16, w17, w18, w19])), (ou, .inl (dC 101, 1, .inr (.inl f0)))] sz) := by
  refine va_MetW (cc := cM_L_valueIn) (maxL := 7) (ret := (some .int)) (by decide) rfl ?_
  intro p e s m args below meth c s₁ B hml hv
  obtain ⟨rfl, hsz, hP, hD0, hK, hN⟩ := hv
  have hx := B.exec
  have hb := B.bytes
  have hr := B.returns
  have hbg : ∀ w ∈ BIG, w.before ([.ref h0, .int p0, .int p1, .int p2, .int p3, .ref ou] : List Value).toArray s = true := fun w h => atoms_spec (ws := (wmW yM_L_valueIn cM_L_valueIn 7 (some .int) [(0, 13, 16, 13), (0, 13, 20, 21)])) B.pre w (List.mem_cons_of_mem _ h)
  have hown : s.vm.findClass "NoteDocumentLaw" = some m.cls := findClass_of_methodNamed B.named
  have hlocks := B.notSynchronized
  have hTab : c.exceptionTable.toList = tableOf [(0, 13, 16, 13), (0, 13, 20, 21)] := vx_table (x := yM_L_valueIn) B (atoms_spec (ws := (wmW yM_L_valueIn cM_L_valueIn 7 (some .int) [(0, 13, 16, 13), (0, 13, 20, 21)])) B.pre _ List.mem_cons_self)
  subst hsz
  have hD := hD0.self (sz := s.heap.size)
  generalize hAe : va_A [(h0, .inr (0, [.ref st, v1, v2, v3, v4, v5, v6, v7, v8, v9, v10])), (st, .inr (8, [.int 0, .int 0, .int 0, w3, w4, w5, w6, w7, w8, w9, w10, w11, w12, w13, w14, w15, w16, w17, w18, w19])), (ou, .inl (dC 101, 1, .inr (.inl f0)))] s.heap.size = A at hD hN ⊢
  have hA : ∀ q : Nat, s.heap.size ≤ q → A q := fun q h => by rw [← hAe]; exact Or.inr h
  have hS : va_S A s.heap s.heap [] := va_S.rf
  have hP : va_P (dC, dI) classes [(h0, .inr (0, [.ref st, v1, v2, v3, v4, v5, v6, v7, v8, v9, v10])), (st, .inr (8, [.int 0, .int 0, .int 0, w3, w4, w5, w6, w7, w8, w9, w10, w11, w12, w13, w14, w15, w16, w17, w18, w19])), (ou, .inl (dC 101, 1, .inr (.inl f0)))] s.heap := hP
  have hl := lv_entry ([.ref h0, .int p0, .int p1, .int p2, .int p3, .ref ou] : List Value) (n := 7) (Nat.le_of_ble_eq_true rfl)
  rw [lg_entry_eq]
  generalize (lg_sl ([.ref h0, .int p0, .int p1, .int p2, .int p3, .ref ou] : List Value) ++ List.replicate (7 - (lg_sl ([.ref h0, .int p0, .int p1, .int p2, .int p3, .ref ou] : List Value)).length) Slot.unset).toArray = ls at hl ⊢
  have hl : lv_has ls 7 [(0, .ref h0), (1, .int p0), (2, .int p1), (3, .int p2), (4, .int p3), (5, .ref ou)] := hl
  refine lv_aload hx hb dM_L_valueIn_0 (lv_at hl 5 rfl) ?_
  refine lv_iconst (v := 0) hx hb dM_L_valueIn_2 (by decide) ?_
  refine lv_aload_n hx hb dM_L_valueIn_3 rfl (lv_at hl 0 rfl) ?_
  refine lv_iload_n hx hb dM_L_valueIn_4 rfl (lv_at hl 1 rfl) ?_
  refine lv_iload_n hx hb dM_L_valueIn_5 rfl (lv_at hl 2 rfl) ?_
  refine lv_iload_n hx hb dM_L_valueIn_6 rfl (lv_at hl 3 rfl) ?_
  refine lv_iload hx hb dM_L_valueIn_7 (lv_at hl 4 rfl) ?_
  have hFc := va_free (wc := [(h0, .inr (0, [.ref st, v1, v2, v3, v4, v5, v6, v7, v8, v9, v10])), (st, .inr (8, [.int 0, .int 0, .int 0, w3, w4, w5, w6, w7, w8, w9, w10, w11, w12, w13, w14, w15, w16, w17, w18, w19]))]) hD hS hA [0, 1] rfl
  refine vx_calll (vx_runV (As := [.int p0, .int p1, .int p2, .int p3]) (rest := [.int 0, .ref ou]) ⟨hx, hb, hml, hown, hbg⟩ (c_D_valueIn l hl9 dC dI h0 p0 p1 p2 p3 st v1 v2 v3 v4 v5 v6 v7 v8 v9 v10 w3 w4 w5 w6 w7 w8 w9 w10 w11 w12 w13 w14 w15 w16 w17 w18 w19 _ ) (cwV 4 hbg (gd_V (fun _ h => h) wd_1889 wd_1890 wd_1891 wd_1 (gd_wm (fun _ h => h) wd_1892)) rfl rfl rfl (by decide +kernel) ⟨Nat.le_of_ble_eq_true rfl, Nat.le_of_ble_eq_true rfl⟩) (nPreV [0, 1] hP hD hK hN hS hA (by decide) rfl 0 rfl rfl) rfl rfl hl.1 rfl (lv_room (Nat.le_of_ble_eq_true rfl)) dM_L_valueIn_9 ⟨Nat.le_of_ble_eq_true rfl, Nat.le_of_ble_eq_true rfl⟩) hS (fun q _ h => hFc q h) hFc (fun q _ h => hFc q h) (fun E ce q9 u t H1 locs ht hvm hpx hBX hz1 hk1 hS hq9 hcv hcl => ?_) (fun r_1 u t H1 locs ht hvm hw hB hz1 hk1 hS => ?_)
  · --
    obtain ⟨hP, hD⟩ := va_join (wr := [(ou, .inl (dC 101, 1, .inr (.inl f0)))]) (w1 := []) hP hD [0, 1] [2] rfl rfl (by decide) (by decide) hk1 hFc nP0 nD0
    generalize H1 = H at hP hS hq9 ⊢
    have hP : va_P (dC, dI) classes [(ou, .inl (dC 101, 1, .inr (.inl f0)))] H := hP
    have hD : va_D A [(ou, .inl (dC 101, 1, .inr (.inl f0)))] := hD
    rcases hBX with ⟨rfl, c_2⟩ | ⟨rfl, c_3⟩
    · --
      refine vx_catch (own := "NoteDocumentLaw") (name := "java/lang/IllegalArgumentException") (E := "java/lang/IllegalArgumentException") hown [] ⟨0, 13, 16, 13⟩ [⟨0, 13, 20, 21⟩] (by rw [hTab]; rfl) (fun z hz => nomatch hz) (by decide) (by decide) (hbg _ wd_1023) (va_Nw.use rfl (hK.2.1 _ wx_1031)) hq9 hcv hcl ?_
      refine W.widen (k := 2) (n := 12) (Nat.le_of_ble_eq_true rfl) (Nat.le_of_ble_eq_true rfl) ?_
      refine lv_astore (lv' := [(6, .ref q9), (0, .ref h0), (1, .int p0), (2, .int p1), (3, .int p2), (4, .int p3), (5, .ref ou)]) hx hb dM_L_valueIn_16 hl (by decide) rfl (fun ls hl => ?_)
      refine lv_iconst (v := 1) hx hb dM_L_valueIn_18 (by decide) ?_
      have hP9 := hP.pick (wc := [(ou, .inl (dC 101, 1, .inr (.inl f0)))]) [0] rfl
      have hD9 := hD.sub (ws' := [(ou, .inl (dC 101, 1, .inr (.inl f0)))]) [0] (by decide) rfl
      exact W.iret (v := 1) hx hb hr (fun t ht hW => ⟨⟨1, (f0), rfl, (Or.inl ⟨c_2, rfl, rfl⟩), ⟨(by rw [ht]; exact hP9), hD9⟩⟩, hS.F ht⟩) hS.2.2 dM_L_valueIn_19
    · --
      refine vx_catch (own := "NoteDocumentLaw") (name := "java/lang/IndexOutOfBoundsException") (E := "java/lang/IndexOutOfBoundsException") hown [⟨0, 13, 16, 13⟩] ⟨0, 13, 20, 21⟩ [] (by rw [hTab]; rfl) (n_pcons (Or.inr ⟨by decide, "java/lang/IllegalArgumentException", (hbg _ wd_1023), hK.2.2.2.2⟩) (fun z hz => nomatch hz)) (by decide) (by decide) (hbg _ wd_1117) (va_Nw.use rfl (hK.2.1 _ wx_1128)) hq9 hcv hcl ?_
      refine W.widen (k := 2) (n := 12) (Nat.le_of_ble_eq_true rfl) (Nat.le_of_ble_eq_true rfl) ?_
      refine lv_astore (lv' := [(6, .ref q9), (0, .ref h0), (1, .int p0), (2, .int p1), (3, .int p2), (4, .int p3), (5, .ref ou)]) hx hb dM_L_valueIn_20 hl (by decide) rfl (fun ls hl => ?_)
      refine lv_iconst (v := 2) hx hb dM_L_valueIn_22 (by decide) ?_
      have hP9 := hP.pick (wc := [(ou, .inl (dC 101, 1, .inr (.inl f0)))]) [0] rfl
      have hD9 := hD.sub (ws' := [(ou, .inl (dC 101, 1, .inr (.inl f0)))]) [0] (by decide) rfl
      exact W.iret (v := 2) hx hb hr (fun t ht hW => ⟨⟨2, (f0), rfl, (Or.inr ⟨c_3, rfl, rfl⟩), ⟨(by rw [ht]; exact hP9), hD9⟩⟩, hS.F ht⟩) hS.2.2 dM_L_valueIn_23
  · --
    exact hw.elim
set_option maxHeartbeats 4000000 in
set_option maxRecDepth 100000 in
theorem c_L_seek (l : Launch) (hl9 : l.stackTraces = false) (dC : Nat → ClassId) (dI : Nat → Nat → Nat) (h0 : Nat) (p0 : Int32) (p1 : Int32) (p2 : Int32) (p3 : Int64) (p4 : Int32) (p5 : Int32) (ou : Nat) (st : Nat) (v1 : Value) (v2 : Value) (v3 : Value) (v4 : Value) (v5 : Value) (v6 : Value) (v7 : Value) (v8 : Value) (v9 : Value) (v10 : Value) (w3 : Value) (w4 : Value) (w5 : Value) (w6 : Value) (w7 : Value) (w8 : Value) (w9 : Value) (w10 : Value) (w11 : Value) (w12 : Value) (w13 : Value) (w14 : Value) (w15 : Value) (w16 : Value) (w17 : Value) (w18 : Value) (w19 : Value) (f0 : Nat → Int64) (sz : Nat) : Met l yM_L_seek (wmW yM_L_seek cM_L_seek 10 (some .int) [(0, 18, 21, 21), (0, 18, 25, 13), (0, 18, 29, 15)]) ({ frames := 140, cells := 1, slots := 6, locals := 2800 }) (nPc [.ref h0, .int p0, .int p1, .int p2, .long p3, .int p4, .int p5, .ref ou] (dC, dI) [(h0, .inr (0, [.ref st, v1, v2, v3, v4, v5, v6, v7, v8, v9, v10])), (st, .inr (8, [.int 0, .int 0, .int 0, w3, w4, w5, w6, w7, w8, w9, w10, w11, w12, w13, w14, w15, w16, w17, w18, w19])), (ou, .inl (dC 101, 1, .inr (.inl f0)))] sz) (va_Qi (fun (r : Int32) (u : Nat → Int64) => r = 1 ∧ u = f0) (fun (u : Nat → Int64) t => nB (dC, dI) (va_A [(h0, .inr (0, [.ref st, v1, v2, v3, v4, v5, v6, v7, v8, v9, v10])), (st, .inr (8, [.int 0, .int 0, .int 0, w3, w4, w5, w6, w7, w8, w9, w10, w11, w12, w13, w14, w15, w16, w17, w18, w19])), (ou, .inl (dC 101, 1, .inr (.inl f0)))] sz) [(ou, .inl (dC 101, 1, .inr (.inl u)))] t) (va_A [(h0, .inr (0, [.ref st, v1, v2, v3, v4, v5, v6, v7, v8, v9, v10])), (st, .inr (8, [.int 0, .int 0, .int 0, w3, w4, w5, w6, w7, w8, w9, w10, w11, w12, w13, w14, w15, w16, w17, w18, w19])), (ou, .inl (dC 101, 1, .inr (.inl f0)))] sz)) 1 6 (va_A [(h0, .inr (0, [.ref st, v1, v2, v3, v4, v5, v6, v7, v8, v9, v10])), (st, .inr (8, [.int 0, .int 0, .int 0, w3, w4, w5, w6, w7, w8, w9, w10, w11, w12, w13, w14, w15, w16, w17, w18, w19])), (ou, .inl (dC 101, 1, .inr (.inl f0)))] sz) := by
  refine va_MetW (cc := cM_L_seek) (maxL := 10) (ret := (some .int)) (by decide) rfl ?_
  intro p e s m args below meth c s₁ B hml hv
  obtain ⟨rfl, hsz, hP, hD0, hK, hN⟩ := hv
  have hx := B.exec
  have hb := B.bytes
  have hr := B.returns
  have hbg : ∀ w ∈ BIG, w.before ([.ref h0, .int p0, .int p1, .int p2, .long p3, .int p4, .int p5, .ref ou] : List Value).toArray s = true := fun w h => atoms_spec (ws := (wmW yM_L_seek cM_L_seek 10 (some .int) [(0, 18, 21, 21), (0, 18, 25, 13), (0, 18, 29, 15)])) B.pre w (List.mem_cons_of_mem _ h)
  have hown : s.vm.findClass "NoteDocumentLaw" = some m.cls := findClass_of_methodNamed B.named
  have hlocks := B.notSynchronized
  have hTab : c.exceptionTable.toList = tableOf [(0, 18, 21, 21), (0, 18, 25, 13), (0, 18, 29, 15)] := vx_table (x := yM_L_seek) B (atoms_spec (ws := (wmW yM_L_seek cM_L_seek 10 (some .int) [(0, 18, 21, 21), (0, 18, 25, 13), (0, 18, 29, 15)])) B.pre _ List.mem_cons_self)
  subst hsz
  have hD := hD0.self (sz := s.heap.size)
  generalize hAe : va_A [(h0, .inr (0, [.ref st, v1, v2, v3, v4, v5, v6, v7, v8, v9, v10])), (st, .inr (8, [.int 0, .int 0, .int 0, w3, w4, w5, w6, w7, w8, w9, w10, w11, w12, w13, w14, w15, w16, w17, w18, w19])), (ou, .inl (dC 101, 1, .inr (.inl f0)))] s.heap.size = A at hD hN ⊢
  have hA : ∀ q : Nat, s.heap.size ≤ q → A q := fun q h => by rw [← hAe]; exact Or.inr h
  have hS : va_S A s.heap s.heap [] := va_S.rf
  have hP : va_P (dC, dI) classes [(h0, .inr (0, [.ref st, v1, v2, v3, v4, v5, v6, v7, v8, v9, v10])), (st, .inr (8, [.int 0, .int 0, .int 0, w3, w4, w5, w6, w7, w8, w9, w10, w11, w12, w13, w14, w15, w16, w17, w18, w19])), (ou, .inl (dC 101, 1, .inr (.inl f0)))] s.heap := hP
  have hl := lv_entry ([.ref h0, .int p0, .int p1, .int p2, .long p3, .int p4, .int p5, .ref ou] : List Value) (n := 10) (Nat.le_of_ble_eq_true rfl)
  rw [lg_entry_eq]
  generalize (lg_sl ([.ref h0, .int p0, .int p1, .int p2, .long p3, .int p4, .int p5, .ref ou] : List Value) ++ List.replicate (10 - (lg_sl ([.ref h0, .int p0, .int p1, .int p2, .long p3, .int p4, .int p5, .ref ou] : List Value)).length) Slot.unset).toArray = ls at hl ⊢
  have hl : lv_has ls 10 [(0, .ref h0), (1, .int p0), (2, .int p1), (3, .int p2), (4, .long p3), (6, .int p4), (7, .int p5), (8, .ref ou)] := hl
  refine lv_aload hx hb dM_L_seek_0 (lv_at hl 7 rfl) ?_
  refine lv_iconst (v := 0) hx hb dM_L_seek_2 (by decide) ?_
  refine lv_aload_n hx hb dM_L_seek_3 rfl (lv_at hl 0 rfl) ?_
  refine lv_iload_n hx hb dM_L_seek_4 rfl (lv_at hl 1 rfl) ?_
  refine lv_iload_n hx hb dM_L_seek_5 rfl (lv_at hl 2 rfl) ?_
  refine lv_iload_n hx hb dM_L_seek_6 rfl (lv_at hl 3 rfl) ?_
  refine lv_lload hx hb dM_L_seek_7 (lv_at hl 4 rfl) ?_
  refine lv_iload hx hb dM_L_seek_9 (lv_at hl 5 rfl) ?_
  refine lv_iload hx hb dM_L_seek_11 (lv_at hl 6 rfl) ?_
  have hFc := va_free (wc := [(h0, .inr (0, [.ref st, v1, v2, v3, v4, v5, v6, v7, v8, v9, v10])), (st, .inr (8, [.int 0, .int 0, .int 0, w3, w4, w5, w6, w7, w8, w9, w10, w11, w12, w13, w14, w15, w16, w17, w18, w19]))]) hD hS hA [0, 1] rfl
  refine vx_calli (vx_runV (As := [.int p0, .int p1, .int p2, .long p3, .int p4, .int p5]) (rest := [.int 0, .ref ou]) ⟨hx, hb, hml, hown, hbg⟩ (c_D_seek l hl9 dC dI h0 p0 p1 p2 p3 p4 p5 st v1 v2 v3 v4 v5 v6 v7 v8 v9 v10 w3 w4 w5 w6 w7 w8 w9 w10 w11 w12 w13 w14 w15 w16 w17 w18 w19 _ ) (cwV 6 hbg (gd_V (fun _ h => h) wd_1896 wd_1897 wd_1898 wd_1 (gd_wm (fun _ h => h) wd_1899)) rfl rfl rfl (by decide +kernel) ⟨Nat.le_of_ble_eq_true rfl, Nat.le_of_ble_eq_true rfl⟩) (nPreV [0, 1] hP hD hK hN hS hA (by decide) rfl 0 rfl rfl) rfl rfl hl.1 rfl (lv_room (Nat.le_of_ble_eq_true rfl)) dM_L_seek_13 ⟨Nat.le_of_ble_eq_true rfl, Nat.le_of_ble_eq_true rfl⟩) hS (fun q _ h => hFc q h) hFc (fun q _ h => hFc q h) (fun E ce q9 u t H1 locs ht hvm hpx hBX hz1 hk1 hS hq9 hcv hcl => ?_) (fun r_1 u t H1 locs ht hvm hw hB hz1 hk1 hS => ?_)
  · --
    obtain ⟨hP, hD⟩ := va_join (wr := [(ou, .inl (dC 101, 1, .inr (.inl f0)))]) (w1 := []) hP hD [0, 1] [2] rfl rfl (by decide) (by decide) hk1 hFc nP0 nD0
    generalize H1 = H at hP hS hq9 ⊢
    have hP : va_P (dC, dI) classes [(ou, .inl (dC 101, 1, .inr (.inl f0)))] H := hP
    have hD : va_D A [(ou, .inl (dC 101, 1, .inr (.inl f0)))] := hD
    obtain rfl := hBX
    refine vx_catch (own := "NoteDocumentLaw") (name := "java/lang/IndexOutOfBoundsException") (E := "java/lang/IndexOutOfBoundsException") hown [] ⟨0, 18, 21, 21⟩ [⟨0, 18, 25, 13⟩, ⟨0, 18, 29, 15⟩] (by rw [hTab]; rfl) (fun z hz => nomatch hz) (by decide) (by decide) (hbg _ wd_1117) (va_Nw.use rfl (hK.2.1 _ wx_1128)) hq9 hcv hcl ?_
    refine W.widen (k := 1) (n := 6) (Nat.le_of_ble_eq_true rfl) (Nat.le_of_ble_eq_true rfl) ?_
    refine lv_astore (lv' := [(9, .ref q9), (0, .ref h0), (1, .int p0), (2, .int p1), (3, .int p2), (4, .long p3), (6, .int p4), (7, .int p5), (8, .ref ou)]) hx hb dM_L_seek_21 hl (by decide) rfl (fun ls hl => ?_)
    refine lv_iconst (v := 1) hx hb dM_L_seek_23 (by decide) ?_
    have hP9 := hP.pick (wc := [(ou, .inl (dC 101, 1, .inr (.inl f0)))]) [0] rfl
    have hD9 := hD.sub (ws' := [(ou, .inl (dC 101, 1, .inr (.inl f0)))]) [0] (by decide) rfl
    exact W.iret (v := 1) hx hb hr (fun t ht hW => ⟨⟨1, (f0), rfl, ⟨rfl, rfl⟩, ⟨(by rw [ht]; exact hP9), hD9⟩⟩, hS.F ht⟩) hS.2.2 dM_L_seek_24
  · --
    exact hw.elim
set_option maxHeartbeats 4000000 in
set_option maxRecDepth 100000 in
theorem c_L_undo (l : Launch) (hl9 : l.stackTraces = false) (dC : Nat → ClassId) (dI : Nat → Nat → Nat) (h0 : Nat) (ou : Nat) (st : Nat) (no : Nat) (ch : Nat) (he : Nat) (de : Nat) (fi : Nat) (v6 : Value) (kp : Nat) (f0 : Nat → Int64) (sz : Nat) : Met l yM_L_undo (wmW yM_L_undo cM_L_undo 3 (some .int) [(0, 8, 11, 15)]) ({ frames := 140, cells := 1, slots := 6, locals := 2800 }) (nPc [.ref h0, .ref ou] (dC, dI) [(h0, .inr (0, [.ref st, .ref no, .ref ch, .ref he, .ref de, .ref fi, v6, .ref kp, .int 0, .int 0, .int 0])), (ou, .inl (dC 101, 1, .inr (.inl f0)))] sz) (va_Qi (fun (r : Int32) (u : Nat → Int64) => r = 1 ∧ u = f0) (fun (u : Nat → Int64) t => nB (dC, dI) (va_A [(h0, .inr (0, [.ref st, .ref no, .ref ch, .ref he, .ref de, .ref fi, v6, .ref kp, .int 0, .int 0, .int 0])), (ou, .inl (dC 101, 1, .inr (.inl f0)))] sz) [(ou, .inl (dC 101, 1, .inr (.inl u)))] t) (va_A [(h0, .inr (0, [.ref st, .ref no, .ref ch, .ref he, .ref de, .ref fi, v6, .ref kp, .int 0, .int 0, .int 0])), (ou, .inl (dC 101, 1, .inr (.inl f0)))] sz)) 1 6 (va_A [(h0, .inr (0, [.ref st, .ref no, .ref ch, .ref he, .ref de, .ref fi, v6, .ref kp, .int 0, .int 0, .int 0])), (ou, .inl (dC 101, 1, .inr (.inl f0)))] sz) := by
  refine va_MetW (cc := cM_L_undo) (maxL := 3) (ret := (some .int)) (by decide) rfl ?_
  intro p e s m args below meth c s₁ B hml hv
  obtain ⟨rfl, hsz, hP, hD0, hK, hN⟩ := hv
  have hx := B.exec
  have hb := B.bytes
  have hr := B.returns
  have hbg : ∀ w ∈ BIG, w.before ([.ref h0, .ref ou] : List Value).toArray s = true := fun w h => atoms_spec (ws := (wmW yM_L_undo cM_L_undo 3 (some .int) [(0, 8, 11, 15)])) B.pre w (List.mem_cons_of_mem _ h)
  have hown : s.vm.findClass "NoteDocumentLaw" = some m.cls := findClass_of_methodNamed B.named
  have hlocks := B.notSynchronized
  have hTab : c.exceptionTable.toList = tableOf [(0, 8, 11, 15)] := vx_table (x := yM_L_undo) B (atoms_spec (ws := (wmW yM_L_undo cM_L_undo 3 (some .int) [(0, 8, 11, 15)])) B.pre _ List.mem_cons_self)
  subst hsz
  have hD := hD0.self (sz := s.heap.size)
  generalize hAe : va_A [(h0, .inr (0, [.ref st, .ref no, .ref ch, .ref he, .ref de, .ref fi, v6, .ref kp, .int 0, .int 0, .int 0])), (ou, .inl (dC 101, 1, .inr (.inl f0)))] s.heap.size = A at hD hN ⊢
  have hA : ∀ q : Nat, s.heap.size ≤ q → A q := fun q h => by rw [← hAe]; exact Or.inr h
  have hS : va_S A s.heap s.heap [] := va_S.rf
  have hP : va_P (dC, dI) classes [(h0, .inr (0, [.ref st, .ref no, .ref ch, .ref he, .ref de, .ref fi, v6, .ref kp, .int 0, .int 0, .int 0])), (ou, .inl (dC 101, 1, .inr (.inl f0)))] s.heap := hP
  have hl := lv_entry ([.ref h0, .ref ou] : List Value) (n := 3) (Nat.le_of_ble_eq_true rfl)
  rw [lg_entry_eq]
  generalize (lg_sl ([.ref h0, .ref ou] : List Value) ++ List.replicate (3 - (lg_sl ([.ref h0, .ref ou] : List Value)).length) Slot.unset).toArray = ls at hl ⊢
  have hl : lv_has ls 3 [(0, .ref h0), (1, .ref ou)] := hl
  refine lv_aload_n hx hb dM_L_undo_0 rfl (lv_at hl 1 rfl) ?_
  refine lv_iconst (v := 0) hx hb dM_L_undo_1 (by decide) ?_
  refine lv_aload_n hx hb dM_L_undo_2 rfl (lv_at hl 0 rfl) ?_
  have hFc := va_free (wc := [(h0, .inr (0, [.ref st, .ref no, .ref ch, .ref he, .ref de, .ref fi, v6, .ref kp, .int 0, .int 0, .int 0]))]) hD hS hA [0] rfl
  refine vx_calli (vx_runV (As := []) (rest := [.int 0, .ref ou]) ⟨hx, hb, hml, hown, hbg⟩ (c_D_undo l hl9 dC dI h0 st no ch he de fi v6 kp _ ) (cwV 0 hbg (gd_V (fun _ h => h) wd_1905 wd_1906 wd_1907 wd_1 (gd_wm (fun _ h => h) wd_1908)) rfl rfl rfl (by decide +kernel) ⟨Nat.le_of_ble_eq_true rfl, Nat.le_of_ble_eq_true rfl⟩) (nPreV [0] hP hD hK hN hS hA (by decide) rfl 0 rfl rfl) rfl rfl hl.1 rfl (lv_room (Nat.le_of_ble_eq_true rfl)) dM_L_undo_3 ⟨Nat.le_of_ble_eq_true rfl, Nat.le_of_ble_eq_true rfl⟩) hS (fun q _ h => hFc q h) hFc (fun q _ h => hFc q h) (fun E ce q9 u t H1 locs ht hvm hpx hBX hz1 hk1 hS hq9 hcv hcl => ?_) (fun r_1 u t H1 locs ht hvm hw hB hz1 hk1 hS => ?_)
  · --
    obtain ⟨hP, hD⟩ := va_join (wr := [(ou, .inl (dC 101, 1, .inr (.inl f0)))]) (w1 := []) hP hD [0] [1] rfl rfl (by decide) (by decide) hk1 hFc nP0 nD0
    generalize H1 = H at hP hS hq9 ⊢
    have hP : va_P (dC, dI) classes [(ou, .inl (dC 101, 1, .inr (.inl f0)))] H := hP
    have hD : va_D A [(ou, .inl (dC 101, 1, .inr (.inl f0)))] := hD
    obtain rfl := hBX
    refine vx_catch (own := "NoteDocumentLaw") (name := "java/lang/IllegalStateException") (E := "java/lang/IllegalStateException") hown [] ⟨0, 8, 11, 15⟩ [] (by rw [hTab]; rfl) (fun z hz => nomatch hz) (by decide) (by decide) (hbg _ wd_1024) (va_Nw.use rfl (hK.2.1 _ wx_1100)) hq9 hcv hcl ?_
    refine W.widen (k := 1) (n := 6) (Nat.le_of_ble_eq_true rfl) (Nat.le_of_ble_eq_true rfl) ?_
    refine lv_astore_n (lv' := [(2, .ref q9), (0, .ref h0), (1, .ref ou)]) hx hb dM_L_undo_11 rfl hl (by decide) rfl (fun ls hl => ?_)
    refine lv_iconst (v := 1) hx hb dM_L_undo_12 (by decide) ?_
    have hP9 := hP.pick (wc := [(ou, .inl (dC 101, 1, .inr (.inl f0)))]) [0] rfl
    have hD9 := hD.sub (ws' := [(ou, .inl (dC 101, 1, .inr (.inl f0)))]) [0] (by decide) rfl
    exact W.iret (v := 1) hx hb hr (fun t ht hW => ⟨⟨1, (f0), rfl, ⟨rfl, rfl⟩, ⟨(by rw [ht]; exact hP9), hD9⟩⟩, hS.F ht⟩) hS.2.2 dM_L_undo_13
  · --
    exact hw.elim
