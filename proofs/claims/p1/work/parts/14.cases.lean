theorem dM_L_law_228 : decode cM_L_law 228 = .ok (.aload_n 1, 1) := dz_o43 (lT_7 4)
theorem dM_L_law_229 : decode cM_L_law 229 = .ok (.aload_n 0, 1) := dz_o42 (lT_7 5)
theorem dM_L_law_230 : decode cM_L_law 230 = .ok (.iload 4, 2) := dz_o21 (lT_7 6) (lT_7 7) (by decide +kernel)
theorem dM_L_law_232 : decode cM_L_law 232 = .ok (.iconst 1, 1) := dz_o4 (lT_7 8)
theorem dM_L_law_233 : decode cM_L_law 233 = .ok (.iadd, 1) := dz_o96 (lT_7 9)
theorem dM_L_law_234 : decode cM_L_law 234 = .ok (.iaload, 1) := dz_o46 (lT_7 10)
theorem dM_L_law_235 : decode cM_L_law 235 = .ok (.aload_n 0, 1) := dz_o42 (lT_7 11)
theorem dM_L_law_236 : decode cM_L_law 236 = .ok (.iload 4, 2) := dz_o21 (lT_7 12) (lT_7 13) (by decide +kernel)
theorem dM_L_law_238 : decode cM_L_law 238 = .ok (.iconst 2, 1) := dz_o5 (lT_7 14)
theorem dM_L_law_239 : decode cM_L_law 239 = .ok (.iadd, 1) := dz_o96 (lT_7 15)
theorem dM_L_law_240 : decode cM_L_law 240 = .ok (.iaload, 1) := dz_o46 (lT_7 16)
theorem dM_L_law_241 : decode cM_L_law 241 = .ok (.aload_n 3, 1) := dz_o45 (lT_7 17)
theorem dM_L_law_242 : decode cM_L_law 242 = .ok (.invokestatic 152, 3) := dz_o184 (lT_7 18) (lT_7 19) (lT_7 20) (by decide +kernel)
theorem wd_1022 : (Jvm.Cond.codeWith ({ cls := "NoteDocumentLaw", name := "grid", desc := "(LNoteDocument;II[J)I" } : Jvm.MethodName) method_3_code (5 : Nat) (Option.some Jvm.ClassFile.FieldType.int) [((0 : Nat), (10 : Nat), (13 : Nat), (13 : Nat)), ((0 : Nat), (10 : Nat), (17 : Nat), (15 : Nat))]) ∈ BIG := big_t (List.mem_of_getElem? (i := 1022) (by decide +kernel)) (by decide +kernel)
theorem wd_0 : (Jvm.Cond.initialized "NoteDocumentLaw") ∈ BIG := big_t (List.mem_of_getElem? (i := 0) (by decide +kernel)) (by decide +kernel)
theorem wd_1020 : (Jvm.Cond.methodLink "NoteDocumentLaw" (152 : Nat) ({ cls := "NoteDocumentLaw", name := "grid", desc := "(LNoteDocument;II[J)I" } : Jvm.MethodName)) ∈ BIG := big_t (List.mem_of_getElem? (i := 1020) (by decide +kernel)) (by decide +kernel)
theorem wd_1021 : (Jvm.Cond.static ({ cls := "NoteDocumentLaw", name := "grid", desc := "(LNoteDocument;II[J)I" } : Jvm.MethodName)) ∈ BIG := big_t (List.mem_of_getElem? (i := 1021) (by decide +kernel)) (by decide +kernel)
theorem dM_L_law_245 : decode cM_L_law 245 = .ok (.istore 5, 2) := dz_o54 (lT_7 21) (lT_7 22) (by decide +kernel)
theorem dM_L_law_247 : decode cM_L_law 247 = .ok (.aload_n 2, 1) := dz_o44 (lT_7 23)
theorem dM_L_law_248 : decode cM_L_law 248 = .ok (.aload_n 0, 1) := dz_o42 (lT_7 24)
theorem dM_L_law_249 : decode cM_L_law 249 = .ok (.iload 4, 2) := dz_o21 (lT_7 25) (lT_7 26) (by decide +kernel)
theorem dM_L_law_251 : decode cM_L_law 251 = .ok (.iconst 1, 1) := dz_o4 (lT_7 27)
theorem dM_L_law_252 : decode cM_L_law 252 = .ok (.iadd, 1) := dz_o96 (lT_7 28)
theorem dM_L_law_253 : decode cM_L_law 253 = .ok (.iaload, 1) := dz_o46 (lT_7 29)
theorem dM_L_law_254 : decode cM_L_law 254 = .ok (.aload_n 0, 1) := dz_o42 (lT_7 30)
theorem dM_L_law_255 : decode cM_L_law 255 = .ok (.iload 4, 2) := dz_o21 (lT_7 31) (lT_8 0) (by decide +kernel)
theorem dM_L_law_257 : decode cM_L_law 257 = .ok (.iconst 2, 1) := dz_o5 (lT_8 1)
theorem dM_L_law_258 : decode cM_L_law 258 = .ok (.iadd, 1) := dz_o96 (lT_8 2)
theorem dM_L_law_259 : decode cM_L_law 259 = .ok (.iaload, 1) := dz_o46 (lT_8 3)
theorem dM_L_law_260 : decode cM_L_law 260 = .ok (.invokevirtual 157, 3) := dz_o182 (lT_8 4) (lT_8 5) (lT_8 6) (by decide +kernel)
theorem wd_2197 : (Jvm.Cond.code ({ cls := "NoteDocumentModel", name := "grid", desc := "(II)I" } : Jvm.MethodName) prog_13_method_15_code (3 : Nat) (Option.some Jvm.ClassFile.FieldType.int)) ∈ BIG := big_t (List.mem_of_getElem? (i := 2197) (by decide +kernel)) (by decide +kernel)
theorem wd_2194 : (Jvm.Cond.methodLink "NoteDocumentLaw" (157 : Nat) ({ cls := "NoteDocumentModel", name := "grid", desc := "(II)I" } : Jvm.MethodName)) ∈ BIG := big_t (List.mem_of_getElem? (i := 2194) (by decide +kernel)) (by decide +kernel)
theorem wd_2195 : (Jvm.Cond.instanceMethod ({ cls := "NoteDocumentModel", name := "grid", desc := "(II)I" } : Jvm.MethodName)) ∈ BIG := big_t (List.mem_of_getElem? (i := 2195) (by decide +kernel)) (by decide +kernel)
theorem wd_2196 : (Jvm.Cond.selects "NoteDocumentModel" ({ cls := "NoteDocumentModel", name := "grid", desc := "(II)I" } : Jvm.MethodName) ({ cls := "NoteDocumentModel", name := "grid", desc := "(II)I" } : Jvm.MethodName)) ∈ BIG := big_t (List.mem_of_getElem? (i := 2196) (by decide +kernel)) (by decide +kernel)
theorem dM_L_law_263 : decode cM_L_law 263 = .ok (.istore 6, 2) := dz_o54 (lT_8 7) (lT_8 8) (by decide +kernel)
theorem dM_L_law_265 : decode cM_L_law 265 = .ok (.aload_n 2, 1) := dz_o44 (lT_8 9)
theorem dM_L_law_266 : decode cM_L_law 266 = .ok (.invokevirtual 158, 3) := dz_o182 (lT_8 10) (lT_8 11) (lT_8 12) (by decide +kernel)
theorem wd_2193 : (Jvm.Cond.code ({ cls := "NoteDocumentModel", name := "thrown", desc := "()I" } : Jvm.MethodName) prog_13_method_4_code (1 : Nat) (Option.some Jvm.ClassFile.FieldType.int)) ∈ BIG := big_t (List.mem_of_getElem? (i := 2193) (by decide +kernel)) (by decide +kernel)
theorem wd_2190 : (Jvm.Cond.methodLink "NoteDocumentLaw" (158 : Nat) ({ cls := "NoteDocumentModel", name := "thrown", desc := "()I" } : Jvm.MethodName)) ∈ BIG := big_t (List.mem_of_getElem? (i := 2190) (by decide +kernel)) (by decide +kernel)
theorem wd_2191 : (Jvm.Cond.instanceMethod ({ cls := "NoteDocumentModel", name := "thrown", desc := "()I" } : Jvm.MethodName)) ∈ BIG := big_t (List.mem_of_getElem? (i := 2191) (by decide +kernel)) (by decide +kernel)
theorem wd_2192 : (Jvm.Cond.selects "NoteDocumentModel" ({ cls := "NoteDocumentModel", name := "thrown", desc := "()I" } : Jvm.MethodName) ({ cls := "NoteDocumentModel", name := "thrown", desc := "()I" } : Jvm.MethodName)) ∈ BIG := big_t (List.mem_of_getElem? (i := 2192) (by decide +kernel)) (by decide +kernel)
theorem dM_L_law_269 : decode cM_L_law 269 = .ok (.iload 5, 2) := dz_o21 (lT_8 13) (lT_8 14) (by decide +kernel)
theorem dM_L_law_271 : decode cM_L_law 271 = .ok (.if_icmp .eq 5, 3) := dz_o159 (lT_8 15) (lT_8 16) (lT_8 17) (by decide +kernel)
theorem dM_L_law_276 : decode cM_L_law 276 = .ok (.iload 5, 2) := dz_o21 (lT_8 20) (lT_8 21) (by decide +kernel)
theorem dM_L_law_278 : decode cM_L_law 278 = .ok (.ifCond .ne 15, 3) := dz_o154 (lT_8 22) (lT_8 23) (lT_8 24) (by decide +kernel)
theorem dM_L_law_281 : decode cM_L_law 281 = .ok (.aload_n 3, 1) := dz_o45 (lT_8 25)
theorem dM_L_law_282 : decode cM_L_law 282 = .ok (.iconst 0, 1) := dz_o3 (lT_8 26)
theorem dM_L_law_283 : decode cM_L_law 283 = .ok (.laload, 1) := dz_o47 (lT_8 27)
theorem dM_L_law_284 : decode cM_L_law 284 = .ok (.iload 6, 2) := dz_o21 (lT_8 28) (lT_8 29) (by decide +kernel)
theorem dM_L_law_286 : decode cM_L_law 286 = .ok (.i2l, 1) := dz_o133 (lT_8 30)
theorem dM_L_law_287 : decode cM_L_law 287 = .ok (.lcmp, 1) := dz_o148 (lT_8 31)
theorem dM_L_law_288 : decode cM_L_law 288 = .ok (.ifCond .eq 5, 3) := dz_o153 (lT_9 0) (lT_9 1) (lT_9 2) (by decide +kernel)
theorem dM_L_law_293 : decode cM_L_law 293 = .ok (.goto 3117, 3) := dz_o167 (lT_9 5) (lT_9 6) (lT_9 7) (by decide +kernel)
theorem dM_L_law_296 : decode cM_L_law 296 = .ok (.aload_n 1, 1) := dz_o43 (lT_9 8)
theorem dM_L_law_297 : decode cM_L_law 297 = .ok (.aload_n 0, 1) := dz_o42 (lT_9 9)
theorem dM_L_law_298 : decode cM_L_law 298 = .ok (.iload 4, 2) := dz_o21 (lT_9 10) (lT_9 11) (by decide +kernel)
theorem dM_L_law_300 : decode cM_L_law 300 = .ok (.iconst 1, 1) := dz_o4 (lT_9 12)
theorem dM_L_law_301 : decode cM_L_law 301 = .ok (.iadd, 1) := dz_o96 (lT_9 13)
theorem dM_L_law_302 : decode cM_L_law 302 = .ok (.iaload, 1) := dz_o46 (lT_9 14)
theorem dM_L_law_303 : decode cM_L_law 303 = .ok (.aload_n 3, 1) := dz_o45 (lT_9 15)
theorem dM_L_law_304 : decode cM_L_law 304 = .ok (.invokestatic 161, 3) := dz_o184 (lT_9 16) (lT_9 17) (lT_9 18) (by decide +kernel)
theorem wd_1116 : (Jvm.Cond.codeWith ({ cls := "NoteDocumentLaw", name := "rows", desc := "(LNoteDocument;I[J)I" } : Jvm.MethodName) method_4_code (4 : Nat) (Option.some Jvm.ClassFile.FieldType.int) [((0 : Nat), (9 : Nat), (12 : Nat), (21 : Nat))]) ∈ BIG := big_t (List.mem_of_getElem? (i := 1116) (by decide +kernel)) (by decide +kernel)
theorem wd_1114 : (Jvm.Cond.methodLink "NoteDocumentLaw" (161 : Nat) ({ cls := "NoteDocumentLaw", name := "rows", desc := "(LNoteDocument;I[J)I" } : Jvm.MethodName)) ∈ BIG := big_t (List.mem_of_getElem? (i := 1114) (by decide +kernel)) (by decide +kernel)
theorem wd_1115 : (Jvm.Cond.static ({ cls := "NoteDocumentLaw", name := "rows", desc := "(LNoteDocument;I[J)I" } : Jvm.MethodName)) ∈ BIG := big_t (List.mem_of_getElem? (i := 1115) (by decide +kernel)) (by decide +kernel)
theorem dM_L_law_307 : decode cM_L_law 307 = .ok (.istore 5, 2) := dz_o54 (lT_9 19) (lT_9 20) (by decide +kernel)
theorem dM_L_law_309 : decode cM_L_law 309 = .ok (.aload_n 2, 1) := dz_o44 (lT_9 21)
theorem dM_L_law_310 : decode cM_L_law 310 = .ok (.aload_n 0, 1) := dz_o42 (lT_9 22)
theorem dM_L_law_311 : decode cM_L_law 311 = .ok (.iload 4, 2) := dz_o21 (lT_9 23) (lT_9 24) (by decide +kernel)
theorem dM_L_law_313 : decode cM_L_law 313 = .ok (.iconst 1, 1) := dz_o4 (lT_9 25)
theorem dM_L_law_314 : decode cM_L_law 314 = .ok (.iadd, 1) := dz_o96 (lT_9 26)
theorem dM_L_law_315 : decode cM_L_law 315 = .ok (.iaload, 1) := dz_o46 (lT_9 27)
theorem dM_L_law_316 : decode cM_L_law 316 = .ok (.invokevirtual 164, 3) := dz_o182 (lT_9 28) (lT_9 29) (lT_9 30) (by decide +kernel)
theorem wd_2210 : (Jvm.Cond.code ({ cls := "NoteDocumentModel", name := "rows", desc := "(I)I" } : Jvm.MethodName) prog_13_method_16_code (2 : Nat) (Option.some Jvm.ClassFile.FieldType.int)) ∈ BIG := big_t (List.mem_of_getElem? (i := 2210) (by decide +kernel)) (by decide +kernel)
theorem wd_2207 : (Jvm.Cond.methodLink "NoteDocumentLaw" (164 : Nat) ({ cls := "NoteDocumentModel", name := "rows", desc := "(I)I" } : Jvm.MethodName)) ∈ BIG := big_t (List.mem_of_getElem? (i := 2207) (by decide +kernel)) (by decide +kernel)
theorem wd_2208 : (Jvm.Cond.instanceMethod ({ cls := "NoteDocumentModel", name := "rows", desc := "(I)I" } : Jvm.MethodName)) ∈ BIG := big_t (List.mem_of_getElem? (i := 2208) (by decide +kernel)) (by decide +kernel)
theorem wd_2209 : (Jvm.Cond.selects "NoteDocumentModel" ({ cls := "NoteDocumentModel", name := "rows", desc := "(I)I" } : Jvm.MethodName) ({ cls := "NoteDocumentModel", name := "rows", desc := "(I)I" } : Jvm.MethodName)) ∈ BIG := big_t (List.mem_of_getElem? (i := 2209) (by decide +kernel)) (by decide +kernel)
theorem dM_L_law_319 : decode cM_L_law 319 = .ok (.istore 6, 2) := dz_o54 (lT_9 31) (lT_10 0) (by decide +kernel)
theorem dM_L_law_321 : decode cM_L_law 321 = .ok (.aload_n 2, 1) := dz_o44 (lT_10 1)
theorem dM_L_law_322 : decode cM_L_law 322 = .ok (.invokevirtual 158, 3) := dz_o182 (lT_10 2) (lT_10 3) (lT_10 4) (by decide +kernel)
theorem dM_L_law_325 : decode cM_L_law 325 = .ok (.iload 5, 2) := dz_o21 (lT_10 5) (lT_10 6) (by decide +kernel)
theorem dM_L_law_327 : decode cM_L_law 327 = .ok (.if_icmp .eq 5, 3) := dz_o159 (lT_10 7) (lT_10 8) (lT_10 9) (by decide +kernel)
theorem dM_L_law_332 : decode cM_L_law 332 = .ok (.iload 5, 2) := dz_o21 (lT_10 12) (lT_10 13) (by decide +kernel)
theorem dM_L_law_334 : decode cM_L_law 334 = .ok (.ifCond .ne 15, 3) := dz_o154 (lT_10 14) (lT_10 15) (lT_10 16) (by decide +kernel)
theorem dM_L_law_349 : decode cM_L_law 349 = .ok (.goto 3061, 3) := dz_o167 (lT_10 29) (lT_10 30) (lT_10 31) (by decide +kernel)
theorem dM_L_law_352 : decode cM_L_law 352 = .ok (.aload_n 1, 1) := dz_o43 (lT_11 0)
theorem dM_L_law_353 : decode cM_L_law 353 = .ok (.aload_n 0, 1) := dz_o42 (lT_11 1)
theorem dM_L_law_354 : decode cM_L_law 354 = .ok (.iload 4, 2) := dz_o21 (lT_11 2) (lT_11 3) (by decide +kernel)
theorem dM_L_law_356 : decode cM_L_law 356 = .ok (.iconst 1, 1) := dz_o4 (lT_11 4)
theorem dM_L_law_357 : decode cM_L_law 357 = .ok (.iadd, 1) := dz_o96 (lT_11 5)
theorem dM_L_law_358 : decode cM_L_law 358 = .ok (.iaload, 1) := dz_o46 (lT_11 6)
theorem dM_L_law_359 : decode cM_L_law 359 = .ok (.aload_n 0, 1) := dz_o42 (lT_11 7)
theorem dM_L_law_360 : decode cM_L_law 360 = .ok (.iload 4, 2) := dz_o21 (lT_11 8) (lT_11 9) (by decide +kernel)
theorem dM_L_law_362 : decode cM_L_law 362 = .ok (.iconst 2, 1) := dz_o5 (lT_11 10)
theorem dM_L_law_363 : decode cM_L_law 363 = .ok (.iadd, 1) := dz_o96 (lT_11 11)
theorem dM_L_law_364 : decode cM_L_law 364 = .ok (.iaload, 1) := dz_o46 (lT_11 12)
theorem dM_L_law_365 : decode cM_L_law 365 = .ok (.aload_n 0, 1) := dz_o42 (lT_11 13)
theorem dM_L_law_366 : decode cM_L_law 366 = .ok (.iload 4, 2) := dz_o21 (lT_11 14) (lT_11 15) (by decide +kernel)
theorem dM_L_law_368 : decode cM_L_law 368 = .ok (.iconst 3, 1) := dz_o6 (lT_11 16)
theorem dM_L_law_369 : decode cM_L_law 369 = .ok (.iadd, 1) := dz_o96 (lT_11 17)
theorem dM_L_law_370 : decode cM_L_law 370 = .ok (.iaload, 1) := dz_o46 (lT_11 18)
theorem dM_L_law_371 : decode cM_L_law 371 = .ok (.aload_n 0, 1) := dz_o42 (lT_11 19)
theorem dM_L_law_372 : decode cM_L_law 372 = .ok (.iload 4, 2) := dz_o21 (lT_11 20) (lT_11 21) (by decide +kernel)
theorem dM_L_law_374 : decode cM_L_law 374 = .ok (.iconst 4, 1) := dz_o7 (lT_11 22)
theorem dM_L_law_375 : decode cM_L_law 375 = .ok (.iadd, 1) := dz_o96 (lT_11 23)
theorem dM_L_law_376 : decode cM_L_law 376 = .ok (.iaload, 1) := dz_o46 (lT_11 24)
theorem dM_L_law_377 : decode cM_L_law 377 = .ok (.i2l, 1) := dz_o133 (lT_11 25)
theorem dM_L_law_378 : decode cM_L_law 378 = .ok (.bipush 32, 2) := dz_o16 (lT_11 26) (lT_11 27) (by decide +kernel)
theorem dM_L_law_380 : decode cM_L_law 380 = .ok (.lshl, 1) := dz_o121 (lT_11 28)
theorem dM_L_law_381 : decode cM_L_law 381 = .ok (.aload_n 0, 1) := dz_o42 (lT_11 29)
theorem dM_L_law_382 : decode cM_L_law 382 = .ok (.iload 4, 2) := dz_o21 (lT_11 30) (lT_11 31) (by decide +kernel)
theorem dM_L_law_384 : decode cM_L_law 384 = .ok (.iconst 5, 1) := dz_o8 (lT_12 0)
theorem dM_L_law_385 : decode cM_L_law 385 = .ok (.iadd, 1) := dz_o96 (lT_12 1)
theorem dM_L_law_386 : decode cM_L_law 386 = .ok (.iaload, 1) := dz_o46 (lT_12 2)
theorem dM_L_law_387 : decode cM_L_law 387 = .ok (.i2l, 1) := dz_o133 (lT_12 3)
theorem dM_L_law_388 : decode cM_L_law 388 = .ok (.ldc2_w 165, 3) := dz_o20 (lT_12 4) (lT_12 5) (lT_12 6) (by decide +kernel)
theorem wd_2851 : (Jvm.Cond.constantLong "NoteDocumentLaw" (165 : Nat) (4294967295 : Int64)) ∈ BIG := big_t (List.mem_of_getElem? (i := 2851) (by decide +kernel)) (by decide +kernel)
theorem dM_L_law_391 : decode cM_L_law 391 = .ok (.land, 1) := dz_o127 (lT_12 7)
theorem dM_L_law_392 : decode cM_L_law 392 = .ok (.lor, 1) := dz_o129 (lT_12 8)
theorem dM_L_law_393 : decode cM_L_law 393 = .ok (.invokestatic 167, 3) := dz_o184 (lT_12 9) (lT_12 10) (lT_12 11) (by decide +kernel)
theorem wd_1144 : (Jvm.Cond.codeWith ({ cls := "NoteDocumentLaw", name := "set", desc := "(LNoteDocument;IIIJ)I" } : Jvm.MethodName) method_5_code (7 : Nat) (Option.some Jvm.ClassFile.FieldType.int) [((0 : Nat), (9 : Nat), (12 : Nat), (21 : Nat)), ((0 : Nat), (9 : Nat), (16 : Nat), (13 : Nat))]) ∈ BIG := big_t (List.mem_of_getElem? (i := 1144) (by decide +kernel)) (by decide +kernel)
theorem wd_1142 : (Jvm.Cond.methodLink "NoteDocumentLaw" (167 : Nat) ({ cls := "NoteDocumentLaw", name := "set", desc := "(LNoteDocument;IIIJ)I" } : Jvm.MethodName)) ∈ BIG := big_t (List.mem_of_getElem? (i := 1142) (by decide +kernel)) (by decide +kernel)
theorem wd_1143 : (Jvm.Cond.static ({ cls := "NoteDocumentLaw", name := "set", desc := "(LNoteDocument;IIIJ)I" } : Jvm.MethodName)) ∈ BIG := big_t (List.mem_of_getElem? (i := 1143) (by decide +kernel)) (by decide +kernel)
theorem dM_L_law_396 : decode cM_L_law 396 = .ok (.istore 5, 2) := dz_o54 (lT_12 12) (lT_12 13) (by decide +kernel)
theorem dM_L_law_398 : decode cM_L_law 398 = .ok (.aload_n 2, 1) := dz_o44 (lT_12 14)
theorem dM_L_law_399 : decode cM_L_law 399 = .ok (.aload_n 0, 1) := dz_o42 (lT_12 15)
theorem dM_L_law_400 : decode cM_L_law 400 = .ok (.iload 4, 2) := dz_o21 (lT_12 16) (lT_12 17) (by decide +kernel)
theorem dM_L_law_402 : decode cM_L_law 402 = .ok (.iconst 1, 1) := dz_o4 (lT_12 18)
theorem dM_L_law_403 : decode cM_L_law 403 = .ok (.iadd, 1) := dz_o96 (lT_12 19)
theorem dM_L_law_404 : decode cM_L_law 404 = .ok (.iaload, 1) := dz_o46 (lT_12 20)
theorem dM_L_law_405 : decode cM_L_law 405 = .ok (.aload_n 0, 1) := dz_o42 (lT_12 21)
theorem dM_L_law_406 : decode cM_L_law 406 = .ok (.iload 4, 2) := dz_o21 (lT_12 22) (lT_12 23) (by decide +kernel)
theorem dM_L_law_408 : decode cM_L_law 408 = .ok (.iconst 2, 1) := dz_o5 (lT_12 24)
theorem dM_L_law_409 : decode cM_L_law 409 = .ok (.iadd, 1) := dz_o96 (lT_12 25)
theorem dM_L_law_410 : decode cM_L_law 410 = .ok (.iaload, 1) := dz_o46 (lT_12 26)
theorem dM_L_law_411 : decode cM_L_law 411 = .ok (.aload_n 0, 1) := dz_o42 (lT_12 27)
theorem dM_L_law_412 : decode cM_L_law 412 = .ok (.iload 4, 2) := dz_o21 (lT_12 28) (lT_12 29) (by decide +kernel)
theorem dM_L_law_414 : decode cM_L_law 414 = .ok (.iconst 3, 1) := dz_o6 (lT_12 30)
theorem dM_L_law_415 : decode cM_L_law 415 = .ok (.iadd, 1) := dz_o96 (lT_12 31)
theorem dM_L_law_416 : decode cM_L_law 416 = .ok (.iaload, 1) := dz_o46 (lT_13 0)
theorem dM_L_law_417 : decode cM_L_law 417 = .ok (.aload_n 0, 1) := dz_o42 (lT_13 1)
theorem dM_L_law_418 : decode cM_L_law 418 = .ok (.iload 4, 2) := dz_o21 (lT_13 2) (lT_13 3) (by decide +kernel)
theorem dM_L_law_420 : decode cM_L_law 420 = .ok (.iconst 4, 1) := dz_o7 (lT_13 4)
theorem dM_L_law_421 : decode cM_L_law 421 = .ok (.iadd, 1) := dz_o96 (lT_13 5)
theorem dM_L_law_422 : decode cM_L_law 422 = .ok (.iaload, 1) := dz_o46 (lT_13 6)
theorem dM_L_law_423 : decode cM_L_law 423 = .ok (.i2l, 1) := dz_o133 (lT_13 7)
theorem dM_L_law_424 : decode cM_L_law 424 = .ok (.bipush 32, 2) := dz_o16 (lT_13 8) (lT_13 9) (by decide +kernel)
theorem dM_L_law_426 : decode cM_L_law 426 = .ok (.lshl, 1) := dz_o121 (lT_13 10)
theorem dM_L_law_427 : decode cM_L_law 427 = .ok (.aload_n 0, 1) := dz_o42 (lT_13 11)
theorem dM_L_law_428 : decode cM_L_law 428 = .ok (.iload 4, 2) := dz_o21 (lT_13 12) (lT_13 13) (by decide +kernel)
theorem dM_L_law_430 : decode cM_L_law 430 = .ok (.iconst 5, 1) := dz_o8 (lT_13 14)
theorem dM_L_law_431 : decode cM_L_law 431 = .ok (.iadd, 1) := dz_o96 (lT_13 15)
theorem dM_L_law_432 : decode cM_L_law 432 = .ok (.iaload, 1) := dz_o46 (lT_13 16)
theorem dM_L_law_433 : decode cM_L_law 433 = .ok (.i2l, 1) := dz_o133 (lT_13 17)
theorem dM_L_law_434 : decode cM_L_law 434 = .ok (.ldc2_w 165, 3) := dz_o20 (lT_13 18) (lT_13 19) (lT_13 20) (by decide +kernel)
theorem dM_L_law_437 : decode cM_L_law 437 = .ok (.land, 1) := dz_o127 (lT_13 21)
theorem dM_L_law_438 : decode cM_L_law 438 = .ok (.lor, 1) := dz_o129 (lT_13 22)
theorem dM_L_law_439 : decode cM_L_law 439 = .ok (.invokevirtual 170, 3) := dz_o182 (lT_13 23) (lT_13 24) (lT_13 25) (by decide +kernel)
theorem wd_2218 : (Jvm.Cond.code ({ cls := "NoteDocumentModel", name := "set", desc := "(IIIJ)V" } : Jvm.MethodName) prog_13_method_18_code (6 : Nat) (Option.none : Option Jvm.ClassFile.FieldType)) ∈ BIG := big_t (List.mem_of_getElem? (i := 2218) (by decide +kernel)) (by decide +kernel)
theorem wd_2215 : (Jvm.Cond.methodLink "NoteDocumentLaw" (170 : Nat) ({ cls := "NoteDocumentModel", name := "set", desc := "(IIIJ)V" } : Jvm.MethodName)) ∈ BIG := big_t (List.mem_of_getElem? (i := 2215) (by decide +kernel)) (by decide +kernel)
theorem wd_2216 : (Jvm.Cond.instanceMethod ({ cls := "NoteDocumentModel", name := "set", desc := "(IIIJ)V" } : Jvm.MethodName)) ∈ BIG := big_t (List.mem_of_getElem? (i := 2216) (by decide +kernel)) (by decide +kernel)
theorem wd_2217 : (Jvm.Cond.selects "NoteDocumentModel" ({ cls := "NoteDocumentModel", name := "set", desc := "(IIIJ)V" } : Jvm.MethodName) ({ cls := "NoteDocumentModel", name := "set", desc := "(IIIJ)V" } : Jvm.MethodName)) ∈ BIG := big_t (List.mem_of_getElem? (i := 2217) (by decide +kernel)) (by decide +kernel)
theorem dM_L_law_442 : decode cM_L_law 442 = .ok (.aload_n 2, 1) := dz_o44 (lT_13 26)
theorem dM_L_law_443 : decode cM_L_law 443 = .ok (.invokevirtual 158, 3) := dz_o182 (lT_13 27) (lT_13 28) (lT_13 29) (by decide +kernel)
theorem dM_L_law_446 : decode cM_L_law 446 = .ok (.iload 5, 2) := dz_o21 (lT_13 30) (lT_13 31) (by decide +kernel)
theorem dM_L_law_448 : decode cM_L_law 448 = .ok (.if_icmp .eq 5, 3) := dz_o159 (lT_14 0) (lT_14 1) (lT_14 2) (by decide +kernel)
theorem dM_L_law_453 : decode cM_L_law 453 = .ok (.goto 2957, 3) := dz_o167 (lT_14 5) (lT_14 6) (lT_14 7) (by decide +kernel)
theorem dM_L_law_456 : decode cM_L_law 456 = .ok (.aload_n 1, 1) := dz_o43 (lT_14 8)
theorem dM_L_law_457 : decode cM_L_law 457 = .ok (.aload_n 0, 1) := dz_o42 (lT_14 9)
theorem dM_L_law_458 : decode cM_L_law 458 = .ok (.iload 4, 2) := dz_o21 (lT_14 10) (lT_14 11) (by decide +kernel)
theorem dM_L_law_460 : decode cM_L_law 460 = .ok (.iconst 1, 1) := dz_o4 (lT_14 12)
theorem dM_L_law_461 : decode cM_L_law 461 = .ok (.iadd, 1) := dz_o96 (lT_14 13)
theorem dM_L_law_462 : decode cM_L_law 462 = .ok (.iaload, 1) := dz_o46 (lT_14 14)
theorem dM_L_law_463 : decode cM_L_law 463 = .ok (.aload_n 0, 1) := dz_o42 (lT_14 15)
theorem dM_L_law_464 : decode cM_L_law 464 = .ok (.iload 4, 2) := dz_o21 (lT_14 16) (lT_14 17) (by decide +kernel)
theorem dM_L_law_466 : decode cM_L_law 466 = .ok (.iconst 2, 1) := dz_o5 (lT_14 18)
theorem dM_L_law_467 : decode cM_L_law 467 = .ok (.iadd, 1) := dz_o96 (lT_14 19)
theorem dM_L_law_468 : decode cM_L_law 468 = .ok (.iaload, 1) := dz_o46 (lT_14 20)
theorem dM_L_law_469 : decode cM_L_law 469 = .ok (.aload_n 0, 1) := dz_o42 (lT_14 21)
theorem dM_L_law_470 : decode cM_L_law 470 = .ok (.iload 4, 2) := dz_o21 (lT_14 22) (lT_14 23) (by decide +kernel)
theorem dM_L_law_472 : decode cM_L_law 472 = .ok (.iconst 3, 1) := dz_o6 (lT_14 24)
theorem dM_L_law_473 : decode cM_L_law 473 = .ok (.iadd, 1) := dz_o96 (lT_14 25)
theorem dM_L_law_474 : decode cM_L_law 474 = .ok (.iaload, 1) := dz_o46 (lT_14 26)
theorem dM_L_law_475 : decode cM_L_law 475 = .ok (.aload_n 0, 1) := dz_o42 (lT_14 27)
theorem dM_L_law_476 : decode cM_L_law 476 = .ok (.iload 4, 2) := dz_o21 (lT_14 28) (lT_14 29) (by decide +kernel)
theorem dM_L_law_478 : decode cM_L_law 478 = .ok (.iconst 4, 1) := dz_o7 (lT_14 30)
theorem dM_L_law_479 : decode cM_L_law 479 = .ok (.iadd, 1) := dz_o96 (lT_14 31)
theorem dM_L_law_480 : decode cM_L_law 480 = .ok (.iaload, 1) := dz_o46 (lT_15 0)
theorem dM_L_law_481 : decode cM_L_law 481 = .ok (.invokestatic 171, 3) := dz_o184 (lT_15 1) (lT_15 2) (lT_15 3) (by decide +kernel)
theorem wd_1177 : (Jvm.Cond.codeWith ({ cls := "NoteDocumentLaw", name := "put", desc := "(LNoteDocument;IIII)I" } : Jvm.MethodName) method_6_code (6 : Nat) (Option.some Jvm.ClassFile.FieldType.int) [((0 : Nat), (9 : Nat), (12 : Nat), (21 : Nat))]) ∈ BIG := big_t (List.mem_of_getElem? (i := 1177) (by decide +kernel)) (by decide +kernel)
theorem wd_1175 : (Jvm.Cond.methodLink "NoteDocumentLaw" (171 : Nat) ({ cls := "NoteDocumentLaw", name := "put", desc := "(LNoteDocument;IIII)I" } : Jvm.MethodName)) ∈ BIG := big_t (List.mem_of_getElem? (i := 1175) (by decide +kernel)) (by decide +kernel)
theorem wd_1176 : (Jvm.Cond.static ({ cls := "NoteDocumentLaw", name := "put", desc := "(LNoteDocument;IIII)I" } : Jvm.MethodName)) ∈ BIG := big_t (List.mem_of_getElem? (i := 1176) (by decide +kernel)) (by decide +kernel)
theorem dM_L_law_484 : decode cM_L_law 484 = .ok (.istore 5, 2) := dz_o54 (lT_15 4) (lT_15 5) (by decide +kernel)
theorem dM_L_law_486 : decode cM_L_law 486 = .ok (.aload_n 2, 1) := dz_o44 (lT_15 6)
theorem dM_L_law_487 : decode cM_L_law 487 = .ok (.aload_n 0, 1) := dz_o42 (lT_15 7)
theorem dM_L_law_488 : decode cM_L_law 488 = .ok (.iload 4, 2) := dz_o21 (lT_15 8) (lT_15 9) (by decide +kernel)
theorem dM_L_law_490 : decode cM_L_law 490 = .ok (.iconst 1, 1) := dz_o4 (lT_15 10)
theorem dM_L_law_491 : decode cM_L_law 491 = .ok (.iadd, 1) := dz_o96 (lT_15 11)
theorem dM_L_law_492 : decode cM_L_law 492 = .ok (.iaload, 1) := dz_o46 (lT_15 12)
theorem dM_L_law_493 : decode cM_L_law 493 = .ok (.aload_n 0, 1) := dz_o42 (lT_15 13)
theorem dM_L_law_494 : decode cM_L_law 494 = .ok (.iload 4, 2) := dz_o21 (lT_15 14) (lT_15 15) (by decide +kernel)
theorem dM_L_law_496 : decode cM_L_law 496 = .ok (.iconst 2, 1) := dz_o5 (lT_15 16)
theorem dM_L_law_497 : decode cM_L_law 497 = .ok (.iadd, 1) := dz_o96 (lT_15 17)
theorem dM_L_law_498 : decode cM_L_law 498 = .ok (.iaload, 1) := dz_o46 (lT_15 18)
theorem dM_L_law_499 : decode cM_L_law 499 = .ok (.aload_n 0, 1) := dz_o42 (lT_15 19)
theorem dM_L_law_500 : decode cM_L_law 500 = .ok (.iload 4, 2) := dz_o21 (lT_15 20) (lT_15 21) (by decide +kernel)
theorem dM_L_law_502 : decode cM_L_law 502 = .ok (.iconst 3, 1) := dz_o6 (lT_15 22)
theorem dM_L_law_503 : decode cM_L_law 503 = .ok (.iadd, 1) := dz_o96 (lT_15 23)
theorem dM_L_law_504 : decode cM_L_law 504 = .ok (.iaload, 1) := dz_o46 (lT_15 24)
theorem dM_L_law_505 : decode cM_L_law 505 = .ok (.aload_n 0, 1) := dz_o42 (lT_15 25)
theorem dM_L_law_506 : decode cM_L_law 506 = .ok (.iload 4, 2) := dz_o21 (lT_15 26) (lT_15 27) (by decide +kernel)
theorem dM_L_law_508 : decode cM_L_law 508 = .ok (.iconst 4, 1) := dz_o7 (lT_15 28)
theorem dM_L_law_509 : decode cM_L_law 509 = .ok (.iadd, 1) := dz_o96 (lT_15 29)
theorem dM_L_law_510 : decode cM_L_law 510 = .ok (.iaload, 1) := dz_o46 (lT_15 30)
theorem dM_L_law_511 : decode cM_L_law 511 = .ok (.invokevirtual 174, 3) := dz_o182 (lT_15 31) (lT_16 0) (lT_16 1) (by decide +kernel)
theorem wd_2574 : (Jvm.Cond.code ({ cls := "NoteDocumentModel", name := "put", desc := "(IIII)V" } : Jvm.MethodName) prog_13_method_19_code (5 : Nat) (Option.none : Option Jvm.ClassFile.FieldType)) ∈ BIG := big_t (List.mem_of_getElem? (i := 2574) (by decide +kernel)) (by decide +kernel)
theorem wd_2571 : (Jvm.Cond.methodLink "NoteDocumentLaw" (174 : Nat) ({ cls := "NoteDocumentModel", name := "put", desc := "(IIII)V" } : Jvm.MethodName)) ∈ BIG := big_t (List.mem_of_getElem? (i := 2571) (by decide +kernel)) (by decide +kernel)
theorem wd_2572 : (Jvm.Cond.instanceMethod ({ cls := "NoteDocumentModel", name := "put", desc := "(IIII)V" } : Jvm.MethodName)) ∈ BIG := big_t (List.mem_of_getElem? (i := 2572) (by decide +kernel)) (by decide +kernel)
theorem wd_2573 : (Jvm.Cond.selects "NoteDocumentModel" ({ cls := "NoteDocumentModel", name := "put", desc := "(IIII)V" } : Jvm.MethodName) ({ cls := "NoteDocumentModel", name := "put", desc := "(IIII)V" } : Jvm.MethodName)) ∈ BIG := big_t (List.mem_of_getElem? (i := 2573) (by decide +kernel)) (by decide +kernel)
theorem dM_L_law_514 : decode cM_L_law 514 = .ok (.aload_n 2, 1) := dz_o44 (lT_16 2)
theorem dM_L_law_515 : decode cM_L_law 515 = .ok (.invokevirtual 158, 3) := dz_o182 (lT_16 3) (lT_16 4) (lT_16 5) (by decide +kernel)
theorem dM_L_law_518 : decode cM_L_law 518 = .ok (.iload 5, 2) := dz_o21 (lT_16 6) (lT_16 7) (by decide +kernel)
theorem dM_L_law_520 : decode cM_L_law 520 = .ok (.if_icmp .eq 5, 3) := dz_o159 (lT_16 8) (lT_16 9) (lT_16 10) (by decide +kernel)
theorem dM_L_law_525 : decode cM_L_law 525 = .ok (.goto 2885, 3) := dz_o167 (lT_16 13) (lT_16 14) (lT_16 15) (by decide +kernel)
theorem dM_L_law_528 : decode cM_L_law 528 = .ok (.aload_n 1, 1) := dz_o43 (lT_16 16)
theorem dM_L_law_529 : decode cM_L_law 529 = .ok (.aload_n 0, 1) := dz_o42 (lT_16 17)
theorem dM_L_law_530 : decode cM_L_law 530 = .ok (.iload 4, 2) := dz_o21 (lT_16 18) (lT_16 19) (by decide +kernel)
theorem dM_L_law_532 : decode cM_L_law 532 = .ok (.iconst 1, 1) := dz_o4 (lT_16 20)
theorem dM_L_law_533 : decode cM_L_law 533 = .ok (.iadd, 1) := dz_o96 (lT_16 21)
theorem dM_L_law_534 : decode cM_L_law 534 = .ok (.iaload, 1) := dz_o46 (lT_16 22)
theorem dM_L_law_535 : decode cM_L_law 535 = .ok (.aload_n 0, 1) := dz_o42 (lT_16 23)
theorem dM_L_law_536 : decode cM_L_law 536 = .ok (.iload 4, 2) := dz_o21 (lT_16 24) (lT_16 25) (by decide +kernel)
theorem dM_L_law_538 : decode cM_L_law 538 = .ok (.iconst 2, 1) := dz_o5 (lT_16 26)
theorem dM_L_law_539 : decode cM_L_law 539 = .ok (.iadd, 1) := dz_o96 (lT_16 27)
theorem dM_L_law_540 : decode cM_L_law 540 = .ok (.iaload, 1) := dz_o46 (lT_16 28)
theorem dM_L_law_541 : decode cM_L_law 541 = .ok (.aload_n 0, 1) := dz_o42 (lT_16 29)
theorem dM_L_law_542 : decode cM_L_law 542 = .ok (.iload 4, 2) := dz_o21 (lT_16 30) (lT_16 31) (by decide +kernel)
theorem dM_L_law_544 : decode cM_L_law 544 = .ok (.iconst 3, 1) := dz_o6 (lT_17 0)
theorem dM_L_law_545 : decode cM_L_law 545 = .ok (.iadd, 1) := dz_o96 (lT_17 1)
theorem dM_L_law_546 : decode cM_L_law 546 = .ok (.iaload, 1) := dz_o46 (lT_17 2)
theorem dM_L_law_547 : decode cM_L_law 547 = .ok (.aload_n 3, 1) := dz_o45 (lT_17 3)
theorem dM_L_law_548 : decode cM_L_law 548 = .ok (.invokestatic 175, 3) := dz_o184 (lT_17 4) (lT_17 5) (lT_17 6) (by decide +kernel)
theorem wd_1197 : (Jvm.Cond.codeWith ({ cls := "NoteDocumentLaw", name := "erase", desc := "(LNoteDocument;III[J)I" } : Jvm.MethodName) method_7_code (6 : Nat) (Option.some Jvm.ClassFile.FieldType.int) [((0 : Nat), (12 : Nat), (15 : Nat), (21 : Nat))]) ∈ BIG := big_t (List.mem_of_getElem? (i := 1197) (by decide +kernel)) (by decide +kernel)
theorem wd_1195 : (Jvm.Cond.methodLink "NoteDocumentLaw" (175 : Nat) ({ cls := "NoteDocumentLaw", name := "erase", desc := "(LNoteDocument;III[J)I" } : Jvm.MethodName)) ∈ BIG := big_t (List.mem_of_getElem? (i := 1195) (by decide +kernel)) (by decide +kernel)
theorem wd_1196 : (Jvm.Cond.static ({ cls := "NoteDocumentLaw", name := "erase", desc := "(LNoteDocument;III[J)I" } : Jvm.MethodName)) ∈ BIG := big_t (List.mem_of_getElem? (i := 1196) (by decide +kernel)) (by decide +kernel)
theorem dM_L_law_551 : decode cM_L_law 551 = .ok (.istore 5, 2) := dz_o54 (lT_17 7) (lT_17 8) (by decide +kernel)
theorem dM_L_law_553 : decode cM_L_law 553 = .ok (.aload_n 2, 1) := dz_o44 (lT_17 9)
theorem dM_L_law_554 : decode cM_L_law 554 = .ok (.aload_n 0, 1) := dz_o42 (lT_17 10)
theorem dM_L_law_555 : decode cM_L_law 555 = .ok (.iload 4, 2) := dz_o21 (lT_17 11) (lT_17 12) (by decide +kernel)
theorem dM_L_law_557 : decode cM_L_law 557 = .ok (.iconst 1, 1) := dz_o4 (lT_17 13)
theorem dM_L_law_558 : decode cM_L_law 558 = .ok (.iadd, 1) := dz_o96 (lT_17 14)
theorem dM_L_law_559 : decode cM_L_law 559 = .ok (.iaload, 1) := dz_o46 (lT_17 15)
theorem dM_L_law_560 : decode cM_L_law 560 = .ok (.aload_n 0, 1) := dz_o42 (lT_17 16)
theorem dM_L_law_561 : decode cM_L_law 561 = .ok (.iload 4, 2) := dz_o21 (lT_17 17) (lT_17 18) (by decide +kernel)
theorem dM_L_law_563 : decode cM_L_law 563 = .ok (.iconst 2, 1) := dz_o5 (lT_17 19)
theorem dM_L_law_564 : decode cM_L_law 564 = .ok (.iadd, 1) := dz_o96 (lT_17 20)
theorem dM_L_law_565 : decode cM_L_law 565 = .ok (.iaload, 1) := dz_o46 (lT_17 21)
theorem dM_L_law_566 : decode cM_L_law 566 = .ok (.aload_n 0, 1) := dz_o42 (lT_17 22)
theorem dM_L_law_567 : decode cM_L_law 567 = .ok (.iload 4, 2) := dz_o21 (lT_17 23) (lT_17 24) (by decide +kernel)
theorem dM_L_law_569 : decode cM_L_law 569 = .ok (.iconst 3, 1) := dz_o6 (lT_17 25)
theorem dM_L_law_570 : decode cM_L_law 570 = .ok (.iadd, 1) := dz_o96 (lT_17 26)
theorem dM_L_law_571 : decode cM_L_law 571 = .ok (.iaload, 1) := dz_o46 (lT_17 27)
theorem dM_L_law_572 : decode cM_L_law 572 = .ok (.invokevirtual 178, 3) := dz_o182 (lT_17 28) (lT_17 29) (lT_17 30) (by decide +kernel)
theorem wd_2582 : (Jvm.Cond.code ({ cls := "NoteDocumentModel", name := "erase", desc := "(III)I" } : Jvm.MethodName) prog_13_method_20_code (5 : Nat) (Option.some Jvm.ClassFile.FieldType.int)) ∈ BIG := big_t (List.mem_of_getElem? (i := 2582) (by decide +kernel)) (by decide +kernel)
theorem wd_2579 : (Jvm.Cond.methodLink "NoteDocumentLaw" (178 : Nat) ({ cls := "NoteDocumentModel", name := "erase", desc := "(III)I" } : Jvm.MethodName)) ∈ BIG := big_t (List.mem_of_getElem? (i := 2579) (by decide +kernel)) (by decide +kernel)
theorem wd_2580 : (Jvm.Cond.instanceMethod ({ cls := "NoteDocumentModel", name := "erase", desc := "(III)I" } : Jvm.MethodName)) ∈ BIG := big_t (List.mem_of_getElem? (i := 2580) (by decide +kernel)) (by decide +kernel)
theorem wd_2581 : (Jvm.Cond.selects "NoteDocumentModel" ({ cls := "NoteDocumentModel", name := "erase", desc := "(III)I" } : Jvm.MethodName) ({ cls := "NoteDocumentModel", name := "erase", desc := "(III)I" } : Jvm.MethodName)) ∈ BIG := big_t (List.mem_of_getElem? (i := 2581) (by decide +kernel)) (by decide +kernel)
theorem dM_L_law_575 : decode cM_L_law 575 = .ok (.istore 6, 2) := dz_o54 (lT_17 31) (lT_18 0) (by decide +kernel)
theorem dM_L_law_577 : decode cM_L_law 577 = .ok (.aload_n 2, 1) := dz_o44 (lT_18 1)
theorem dM_L_law_578 : decode cM_L_law 578 = .ok (.invokevirtual 158, 3) := dz_o182 (lT_18 2) (lT_18 3) (lT_18 4) (by decide +kernel)
theorem dM_L_law_581 : decode cM_L_law 581 = .ok (.iload 5, 2) := dz_o21 (lT_18 5) (lT_18 6) (by decide +kernel)
theorem dM_L_law_583 : decode cM_L_law 583 = .ok (.if_icmp .eq 5, 3) := dz_o159 (lT_18 7) (lT_18 8) (lT_18 9) (by decide +kernel)
theorem dM_L_law_588 : decode cM_L_law 588 = .ok (.iload 5, 2) := dz_o21 (lT_18 12) (lT_18 13) (by decide +kernel)
theorem dM_L_law_590 : decode cM_L_law 590 = .ok (.ifCond .ne 15, 3) := dz_o154 (lT_18 14) (lT_18 15) (lT_18 16) (by decide +kernel)
theorem dM_L_law_605 : decode cM_L_law 605 = .ok (.goto 2805, 3) := dz_o167 (lT_18 29) (lT_18 30) (lT_18 31) (by decide +kernel)
theorem dM_L_law_608 : decode cM_L_law 608 = .ok (.aload_n 1, 1) := dz_o43 (lT_19 0)
theorem dM_L_law_609 : decode cM_L_law 609 = .ok (.aload_n 0, 1) := dz_o42 (lT_19 1)
theorem dM_L_law_610 : decode cM_L_law 610 = .ok (.iload 4, 2) := dz_o21 (lT_19 2) (lT_19 3) (by decide +kernel)
theorem dM_L_law_612 : decode cM_L_law 612 = .ok (.iconst 1, 1) := dz_o4 (lT_19 4)
theorem dM_L_law_613 : decode cM_L_law 613 = .ok (.iadd, 1) := dz_o96 (lT_19 5)
theorem dM_L_law_614 : decode cM_L_law 614 = .ok (.iaload, 1) := dz_o46 (lT_19 6)
theorem dM_L_law_615 : decode cM_L_law 615 = .ok (.aload_n 0, 1) := dz_o42 (lT_19 7)
theorem dM_L_law_616 : decode cM_L_law 616 = .ok (.iload 4, 2) := dz_o21 (lT_19 8) (lT_19 9) (by decide +kernel)
theorem dM_L_law_618 : decode cM_L_law 618 = .ok (.iconst 2, 1) := dz_o5 (lT_19 10)
theorem dM_L_law_619 : decode cM_L_law 619 = .ok (.iadd, 1) := dz_o96 (lT_19 11)
theorem dM_L_law_620 : decode cM_L_law 620 = .ok (.iaload, 1) := dz_o46 (lT_19 12)
theorem dM_L_law_621 : decode cM_L_law 621 = .ok (.aload_n 0, 1) := dz_o42 (lT_19 13)
theorem dM_L_law_622 : decode cM_L_law 622 = .ok (.iload 4, 2) := dz_o21 (lT_19 14) (lT_19 15) (by decide +kernel)
theorem dM_L_law_624 : decode cM_L_law 624 = .ok (.iconst 3, 1) := dz_o6 (lT_19 16)
theorem dM_L_law_625 : decode cM_L_law 625 = .ok (.iadd, 1) := dz_o96 (lT_19 17)
theorem dM_L_law_626 : decode cM_L_law 626 = .ok (.iaload, 1) := dz_o46 (lT_19 18)
theorem dM_L_law_627 : decode cM_L_law 627 = .ok (.aload_n 0, 1) := dz_o42 (lT_19 19)
theorem dM_L_law_628 : decode cM_L_law 628 = .ok (.iload 4, 2) := dz_o21 (lT_19 20) (lT_19 21) (by decide +kernel)
theorem dM_L_law_630 : decode cM_L_law 630 = .ok (.iconst 4, 1) := dz_o7 (lT_19 22)
theorem dM_L_law_631 : decode cM_L_law 631 = .ok (.iadd, 1) := dz_o96 (lT_19 23)
theorem dM_L_law_632 : decode cM_L_law 632 = .ok (.iaload, 1) := dz_o46 (lT_19 24)
theorem dM_L_law_633 : decode cM_L_law 633 = .ok (.i2l, 1) := dz_o133 (lT_19 25)
theorem dM_L_law_634 : decode cM_L_law 634 = .ok (.bipush 32, 2) := dz_o16 (lT_19 26) (lT_19 27) (by decide +kernel)
theorem dM_L_law_636 : decode cM_L_law 636 = .ok (.lshl, 1) := dz_o121 (lT_19 28)
theorem dM_L_law_637 : decode cM_L_law 637 = .ok (.aload_n 0, 1) := dz_o42 (lT_19 29)
theorem dM_L_law_638 : decode cM_L_law 638 = .ok (.iload 4, 2) := dz_o21 (lT_19 30) (lT_19 31) (by decide +kernel)
theorem dM_L_law_640 : decode cM_L_law 640 = .ok (.iconst 5, 1) := dz_o8 (lT_20 0)
theorem dM_L_law_641 : decode cM_L_law 641 = .ok (.iadd, 1) := dz_o96 (lT_20 1)
theorem dM_L_law_642 : decode cM_L_law 642 = .ok (.iaload, 1) := dz_o46 (lT_20 2)
theorem dM_L_law_643 : decode cM_L_law 643 = .ok (.i2l, 1) := dz_o133 (lT_20 3)
theorem dM_L_law_644 : decode cM_L_law 644 = .ok (.ldc2_w 165, 3) := dz_o20 (lT_20 4) (lT_20 5) (lT_20 6) (by decide +kernel)
theorem dM_L_law_647 : decode cM_L_law 647 = .ok (.land, 1) := dz_o127 (lT_20 7)
theorem dM_L_law_648 : decode cM_L_law 648 = .ok (.lor, 1) := dz_o129 (lT_20 8)
theorem dM_L_law_649 : decode cM_L_law 649 = .ok (.aload_n 3, 1) := dz_o45 (lT_20 9)
theorem dM_L_law_650 : decode cM_L_law 650 = .ok (.invokestatic 179, 3) := dz_o184 (lT_20 10) (lT_20 11) (lT_20 12) (by decide +kernel)
theorem wd_1206 : (Jvm.Cond.codeWith ({ cls := "NoteDocumentLaw", name := "hold", desc := "(LNoteDocument;IIIJ[J)I" } : Jvm.MethodName) method_8_code (8 : Nat) (Option.some Jvm.ClassFile.FieldType.int) [((0 : Nat), (21 : Nat), (24 : Nat), (21 : Nat)), ((0 : Nat), (21 : Nat), (28 : Nat), (13 : Nat)), ((0 : Nat), (21 : Nat), (32 : Nat), (15 : Nat))]) ∈ BIG := big_t (List.mem_of_getElem? (i := 1206) (by decide +kernel)) (by decide +kernel)
theorem wd_1204 : (Jvm.Cond.methodLink "NoteDocumentLaw" (179 : Nat) ({ cls := "NoteDocumentLaw", name := "hold", desc := "(LNoteDocument;IIIJ[J)I" } : Jvm.MethodName)) ∈ BIG := big_t (List.mem_of_getElem? (i := 1204) (by decide +kernel)) (by decide +kernel)
theorem wd_1205 : (Jvm.Cond.static ({ cls := "NoteDocumentLaw", name := "hold", desc := "(LNoteDocument;IIIJ[J)I" } : Jvm.MethodName)) ∈ BIG := big_t (List.mem_of_getElem? (i := 1205) (by decide +kernel)) (by decide +kernel)
theorem dM_L_law_653 : decode cM_L_law 653 = .ok (.istore 5, 2) := dz_o54 (lT_20 13) (lT_20 14) (by decide +kernel)
theorem dM_L_law_655 : decode cM_L_law 655 = .ok (.aload_n 2, 1) := dz_o44 (lT_20 15)
theorem dM_L_law_656 : decode cM_L_law 656 = .ok (.aload_n 0, 1) := dz_o42 (lT_20 16)
theorem dM_L_law_657 : decode cM_L_law 657 = .ok (.iload 4, 2) := dz_o21 (lT_20 17) (lT_20 18) (by decide +kernel)
theorem dM_L_law_659 : decode cM_L_law 659 = .ok (.iconst 1, 1) := dz_o4 (lT_20 19)
theorem dM_L_law_660 : decode cM_L_law 660 = .ok (.iadd, 1) := dz_o96 (lT_20 20)
theorem dM_L_law_661 : decode cM_L_law 661 = .ok (.iaload, 1) := dz_o46 (lT_20 21)
theorem dM_L_law_662 : decode cM_L_law 662 = .ok (.aload_n 0, 1) := dz_o42 (lT_20 22)
theorem dM_L_law_663 : decode cM_L_law 663 = .ok (.iload 4, 2) := dz_o21 (lT_20 23) (lT_20 24) (by decide +kernel)
theorem dM_L_law_665 : decode cM_L_law 665 = .ok (.iconst 2, 1) := dz_o5 (lT_20 25)
theorem dM_L_law_666 : decode cM_L_law 666 = .ok (.iadd, 1) := dz_o96 (lT_20 26)
theorem dM_L_law_667 : decode cM_L_law 667 = .ok (.iaload, 1) := dz_o46 (lT_20 27)
theorem dM_L_law_668 : decode cM_L_law 668 = .ok (.aload_n 0, 1) := dz_o42 (lT_20 28)
theorem dM_L_law_669 : decode cM_L_law 669 = .ok (.iload 4, 2) := dz_o21 (lT_20 29) (lT_20 30) (by decide +kernel)
theorem dM_L_law_671 : decode cM_L_law 671 = .ok (.iconst 3, 1) := dz_o6 (lT_20 31)
theorem dM_L_law_672 : decode cM_L_law 672 = .ok (.iadd, 1) := dz_o96 (lT_21 0)
theorem dM_L_law_673 : decode cM_L_law 673 = .ok (.iaload, 1) := dz_o46 (lT_21 1)
theorem dM_L_law_674 : decode cM_L_law 674 = .ok (.aload_n 0, 1) := dz_o42 (lT_21 2)
theorem dM_L_law_675 : decode cM_L_law 675 = .ok (.iload 4, 2) := dz_o21 (lT_21 3) (lT_21 4) (by decide +kernel)
theorem dM_L_law_677 : decode cM_L_law 677 = .ok (.iconst 4, 1) := dz_o7 (lT_21 5)
theorem dM_L_law_678 : decode cM_L_law 678 = .ok (.iadd, 1) := dz_o96 (lT_21 6)
theorem dM_L_law_679 : decode cM_L_law 679 = .ok (.iaload, 1) := dz_o46 (lT_21 7)
theorem dM_L_law_680 : decode cM_L_law 680 = .ok (.i2l, 1) := dz_o133 (lT_21 8)
theorem dM_L_law_681 : decode cM_L_law 681 = .ok (.bipush 32, 2) := dz_o16 (lT_21 9) (lT_21 10) (by decide +kernel)
theorem dM_L_law_683 : decode cM_L_law 683 = .ok (.lshl, 1) := dz_o121 (lT_21 11)
theorem dM_L_law_684 : decode cM_L_law 684 = .ok (.aload_n 0, 1) := dz_o42 (lT_21 12)
theorem dM_L_law_685 : decode cM_L_law 685 = .ok (.iload 4, 2) := dz_o21 (lT_21 13) (lT_21 14) (by decide +kernel)
theorem dM_L_law_687 : decode cM_L_law 687 = .ok (.iconst 5, 1) := dz_o8 (lT_21 15)
theorem dM_L_law_688 : decode cM_L_law 688 = .ok (.iadd, 1) := dz_o96 (lT_21 16)
theorem dM_L_law_689 : decode cM_L_law 689 = .ok (.iaload, 1) := dz_o46 (lT_21 17)
theorem dM_L_law_690 : decode cM_L_law 690 = .ok (.i2l, 1) := dz_o133 (lT_21 18)
theorem dM_L_law_691 : decode cM_L_law 691 = .ok (.ldc2_w 165, 3) := dz_o20 (lT_21 19) (lT_21 20) (lT_21 21) (by decide +kernel)
theorem dM_L_law_694 : decode cM_L_law 694 = .ok (.land, 1) := dz_o127 (lT_21 22)
theorem dM_L_law_695 : decode cM_L_law 695 = .ok (.lor, 1) := dz_o129 (lT_21 23)
theorem dM_L_law_696 : decode cM_L_law 696 = .ok (.invokevirtual 182, 3) := dz_o182 (lT_21 24) (lT_21 25) (lT_21 26) (by decide +kernel)
theorem wd_2586 : (Jvm.Cond.code ({ cls := "NoteDocumentModel", name := "hold", desc := "(IIIJ)Z" } : Jvm.MethodName) prog_13_method_21_code (8 : Nat) (Option.some Jvm.ClassFile.FieldType.boolean)) ∈ BIG := big_t (List.mem_of_getElem? (i := 2586) (by decide +kernel)) (by decide +kernel)
theorem wd_2583 : (Jvm.Cond.methodLink "NoteDocumentLaw" (182 : Nat) ({ cls := "NoteDocumentModel", name := "hold", desc := "(IIIJ)Z" } : Jvm.MethodName)) ∈ BIG := big_t (List.mem_of_getElem? (i := 2583) (by decide +kernel)) (by decide +kernel)
theorem wd_2584 : (Jvm.Cond.instanceMethod ({ cls := "NoteDocumentModel", name := "hold", desc := "(IIIJ)Z" } : Jvm.MethodName)) ∈ BIG := big_t (List.mem_of_getElem? (i := 2584) (by decide +kernel)) (by decide +kernel)
theorem wd_2585 : (Jvm.Cond.selects "NoteDocumentModel" ({ cls := "NoteDocumentModel", name := "hold", desc := "(IIIJ)Z" } : Jvm.MethodName) ({ cls := "NoteDocumentModel", name := "hold", desc := "(IIIJ)Z" } : Jvm.MethodName)) ∈ BIG := big_t (List.mem_of_getElem? (i := 2585) (by decide +kernel)) (by decide +kernel)
theorem dM_L_law_699 : decode cM_L_law 699 = .ok (.istore 6, 2) := dz_o54 (lT_21 27) (lT_21 28) (by decide +kernel)
theorem dM_L_law_701 : decode cM_L_law 701 = .ok (.aload_n 2, 1) := dz_o44 (lT_21 29)
theorem dM_L_law_702 : decode cM_L_law 702 = .ok (.invokevirtual 158, 3) := dz_o182 (lT_21 30) (lT_21 31) (lT_22 0) (by decide +kernel)
theorem dM_L_law_705 : decode cM_L_law 705 = .ok (.iload 5, 2) := dz_o21 (lT_22 1) (lT_22 2) (by decide +kernel)
theorem dM_L_law_707 : decode cM_L_law 707 = .ok (.if_icmp .eq 5, 3) := dz_o159 (lT_22 3) (lT_22 4) (lT_22 5) (by decide +kernel)
theorem dM_L_law_712 : decode cM_L_law 712 = .ok (.iload 5, 2) := dz_o21 (lT_22 8) (lT_22 9) (by decide +kernel)
theorem dM_L_law_714 : decode cM_L_law 714 = .ok (.ifCond .ne 22, 3) := dz_o154 (lT_22 10) (lT_22 11) (lT_22 12) (by decide +kernel)
theorem dM_L_law_736 : decode cM_L_law 736 = .ok (.goto 2674, 3) := dz_o167 (lT_23 0) (lT_23 1) (lT_23 2) (by decide +kernel)
theorem dM_L_law_739 : decode cM_L_law 739 = .ok (.aload_n 1, 1) := dz_o43 (lT_23 3)
theorem dM_L_law_740 : decode cM_L_law 740 = .ok (.aload_n 0, 1) := dz_o42 (lT_23 4)
theorem dM_L_law_741 : decode cM_L_law 741 = .ok (.iload 4, 2) := dz_o21 (lT_23 5) (lT_23 6) (by decide +kernel)
theorem dM_L_law_743 : decode cM_L_law 743 = .ok (.iconst 1, 1) := dz_o4 (lT_23 7)
theorem dM_L_law_744 : decode cM_L_law 744 = .ok (.iadd, 1) := dz_o96 (lT_23 8)
theorem dM_L_law_745 : decode cM_L_law 745 = .ok (.iaload, 1) := dz_o46 (lT_23 9)
theorem dM_L_law_746 : decode cM_L_law 746 = .ok (.aload_n 3, 1) := dz_o45 (lT_23 10)
theorem dM_L_law_747 : decode cM_L_law 747 = .ok (.invokestatic 183, 3) := dz_o184 (lT_23 11) (lT_23 12) (lT_23 13) (by decide +kernel)
theorem wd_1215 : (Jvm.Cond.codeWith ({ cls := "NoteDocumentLaw", name := "rounds", desc := "(LNoteDocument;I[J)I" } : Jvm.MethodName) method_9_code (4 : Nat) (Option.some Jvm.ClassFile.FieldType.int) [((0 : Nat), (9 : Nat), (12 : Nat), (13 : Nat))]) ∈ BIG := big_t (List.mem_of_getElem? (i := 1215) (by decide +kernel)) (by decide +kernel)
theorem wd_1213 : (Jvm.Cond.methodLink "NoteDocumentLaw" (183 : Nat) ({ cls := "NoteDocumentLaw", name := "rounds", desc := "(LNoteDocument;I[J)I" } : Jvm.MethodName)) ∈ BIG := big_t (List.mem_of_getElem? (i := 1213) (by decide +kernel)) (by decide +kernel)
theorem wd_1214 : (Jvm.Cond.static ({ cls := "NoteDocumentLaw", name := "rounds", desc := "(LNoteDocument;I[J)I" } : Jvm.MethodName)) ∈ BIG := big_t (List.mem_of_getElem? (i := 1214) (by decide +kernel)) (by decide +kernel)
theorem dM_L_law_750 : decode cM_L_law 750 = .ok (.istore 5, 2) := dz_o54 (lT_23 14) (lT_23 15) (by decide +kernel)
theorem dM_L_law_752 : decode cM_L_law 752 = .ok (.aload_n 2, 1) := dz_o44 (lT_23 16)
theorem dM_L_law_753 : decode cM_L_law 753 = .ok (.aload_n 0, 1) := dz_o42 (lT_23 17)
theorem dM_L_law_754 : decode cM_L_law 754 = .ok (.iload 4, 2) := dz_o21 (lT_23 18) (lT_23 19) (by decide +kernel)
theorem dM_L_law_756 : decode cM_L_law 756 = .ok (.iconst 1, 1) := dz_o4 (lT_23 20)
theorem dM_L_law_757 : decode cM_L_law 757 = .ok (.iadd, 1) := dz_o96 (lT_23 21)
theorem dM_L_law_758 : decode cM_L_law 758 = .ok (.iaload, 1) := dz_o46 (lT_23 22)
theorem dM_L_law_759 : decode cM_L_law 759 = .ok (.invokevirtual 185, 3) := dz_o182 (lT_23 23) (lT_23 24) (lT_23 25) (by decide +kernel)
theorem wd_2590 : (Jvm.Cond.code ({ cls := "NoteDocumentModel", name := "rounds", desc := "(I)I" } : Jvm.MethodName) prog_13_method_23_code (3 : Nat) (Option.some Jvm.ClassFile.FieldType.int)) ∈ BIG := big_t (List.mem_of_getElem? (i := 2590) (by decide +kernel)) (by decide +kernel)
theorem wd_2587 : (Jvm.Cond.methodLink "NoteDocumentLaw" (185 : Nat) ({ cls := "NoteDocumentModel", name := "rounds", desc := "(I)I" } : Jvm.MethodName)) ∈ BIG := big_t (List.mem_of_getElem? (i := 2587) (by decide +kernel)) (by decide +kernel)
theorem wd_2588 : (Jvm.Cond.instanceMethod ({ cls := "NoteDocumentModel", name := "rounds", desc := "(I)I" } : Jvm.MethodName)) ∈ BIG := big_t (List.mem_of_getElem? (i := 2588) (by decide +kernel)) (by decide +kernel)
theorem wd_2589 : (Jvm.Cond.selects "NoteDocumentModel" ({ cls := "NoteDocumentModel", name := "rounds", desc := "(I)I" } : Jvm.MethodName) ({ cls := "NoteDocumentModel", name := "rounds", desc := "(I)I" } : Jvm.MethodName)) ∈ BIG := big_t (List.mem_of_getElem? (i := 2589) (by decide +kernel)) (by decide +kernel)
theorem dM_L_law_762 : decode cM_L_law 762 = .ok (.istore 6, 2) := dz_o54 (lT_23 26) (lT_23 27) (by decide +kernel)
theorem dM_L_law_764 : decode cM_L_law 764 = .ok (.aload_n 2, 1) := dz_o44 (lT_23 28)
theorem dM_L_law_765 : decode cM_L_law 765 = .ok (.invokevirtual 158, 3) := dz_o182 (lT_23 29) (lT_23 30) (lT_23 31) (by decide +kernel)
theorem dM_L_law_768 : decode cM_L_law 768 = .ok (.iload 5, 2) := dz_o21 (lT_24 0) (lT_24 1) (by decide +kernel)
theorem dM_L_law_770 : decode cM_L_law 770 = .ok (.if_icmp .eq 5, 3) := dz_o159 (lT_24 2) (lT_24 3) (lT_24 4) (by decide +kernel)
theorem dM_L_law_775 : decode cM_L_law 775 = .ok (.iload 5, 2) := dz_o21 (lT_24 7) (lT_24 8) (by decide +kernel)
theorem dM_L_law_777 : decode cM_L_law 777 = .ok (.ifCond .ne 15, 3) := dz_o154 (lT_24 9) (lT_24 10) (lT_24 11) (by decide +kernel)
theorem dM_L_law_780 : decode cM_L_law 780 = .ok (.aload_n 3, 1) := dz_o45 (lT_24 12)
theorem dM_L_law_781 : decode cM_L_law 781 = .ok (.iconst 0, 1) := dz_o3 (lT_24 13)
theorem dM_L_law_782 : decode cM_L_law 782 = .ok (.laload, 1) := dz_o47 (lT_24 14)
theorem dM_L_law_783 : decode cM_L_law 783 = .ok (.iload 6, 2) := dz_o21 (lT_24 15) (lT_24 16) (by decide +kernel)
theorem dM_L_law_785 : decode cM_L_law 785 = .ok (.i2l, 1) := dz_o133 (lT_24 17)
theorem dM_L_law_786 : decode cM_L_law 786 = .ok (.lcmp, 1) := dz_o148 (lT_24 18)
theorem dM_L_law_787 : decode cM_L_law 787 = .ok (.ifCond .eq 5, 3) := dz_o153 (lT_24 19) (lT_24 20) (lT_24 21) (by decide +kernel)
theorem dM_L_law_792 : decode cM_L_law 792 = .ok (.goto 2618, 3) := dz_o167 (lT_24 24) (lT_24 25) (lT_24 26) (by decide +kernel)
theorem dM_L_law_795 : decode cM_L_law 795 = .ok (.aload_n 1, 1) := dz_o43 (lT_24 27)
theorem dM_L_law_796 : decode cM_L_law 796 = .ok (.aload_n 0, 1) := dz_o42 (lT_24 28)
theorem dM_L_law_797 : decode cM_L_law 797 = .ok (.iload 4, 2) := dz_o21 (lT_24 29) (lT_24 30) (by decide +kernel)
theorem dM_L_law_799 : decode cM_L_law 799 = .ok (.iconst 1, 1) := dz_o4 (lT_24 31)
theorem dM_L_law_800 : decode cM_L_law 800 = .ok (.iadd, 1) := dz_o96 (lT_25 0)
theorem dM_L_law_801 : decode cM_L_law 801 = .ok (.iaload, 1) := dz_o46 (lT_25 1)
theorem dM_L_law_802 : decode cM_L_law 802 = .ok (.i2l, 1) := dz_o133 (lT_25 2)
theorem dM_L_law_803 : decode cM_L_law 803 = .ok (.bipush 32, 2) := dz_o16 (lT_25 3) (lT_25 4) (by decide +kernel)
theorem dM_L_law_805 : decode cM_L_law 805 = .ok (.lshl, 1) := dz_o121 (lT_25 5)
theorem dM_L_law_806 : decode cM_L_law 806 = .ok (.aload_n 0, 1) := dz_o42 (lT_25 6)
theorem dM_L_law_807 : decode cM_L_law 807 = .ok (.iload 4, 2) := dz_o21 (lT_25 7) (lT_25 8) (by decide +kernel)
theorem dM_L_law_809 : decode cM_L_law 809 = .ok (.iconst 2, 1) := dz_o5 (lT_25 9)
theorem dM_L_law_810 : decode cM_L_law 810 = .ok (.iadd, 1) := dz_o96 (lT_25 10)
theorem dM_L_law_811 : decode cM_L_law 811 = .ok (.iaload, 1) := dz_o46 (lT_25 11)
theorem dM_L_law_812 : decode cM_L_law 812 = .ok (.i2l, 1) := dz_o133 (lT_25 12)
theorem dM_L_law_813 : decode cM_L_law 813 = .ok (.ldc2_w 165, 3) := dz_o20 (lT_25 13) (lT_25 14) (lT_25 15) (by decide +kernel)
theorem dM_L_law_816 : decode cM_L_law 816 = .ok (.land, 1) := dz_o127 (lT_25 16)
theorem dM_L_law_817 : decode cM_L_law 817 = .ok (.lor, 1) := dz_o129 (lT_25 17)
theorem dM_L_law_818 : decode cM_L_law 818 = .ok (.aload_n 3, 1) := dz_o45 (lT_25 18)
theorem dM_L_law_819 : decode cM_L_law 819 = .ok (.invokestatic 186, 3) := dz_o184 (lT_25 19) (lT_25 20) (lT_25 21) (by decide +kernel)
theorem wd_1234 : (Jvm.Cond.codeWith ({ cls := "NoteDocumentLaw", name := "numbe\x72", desc := "(LNoteDocument;J[J)I" } : Jvm.MethodName) method_10_code (5 : Nat) (Option.some Jvm.ClassFile.FieldType.int) [((0 : Nat), (9 : Nat), (12 : Nat), (13 : Nat)), ((0 : Nat), (9 : Nat), (16 : Nat), (15 : Nat))]) ∈ BIG := big_t (List.mem_of_getElem? (i := 1234) (by decide +kernel)) (by decide +kernel)
theorem wd_1232 : (Jvm.Cond.methodLink "NoteDocumentLaw" (186 : Nat) ({ cls := "NoteDocumentLaw", name := "numbe\x72", desc := "(LNoteDocument;J[J)I" } : Jvm.MethodName)) ∈ BIG := big_t (List.mem_of_getElem? (i := 1232) (by decide +kernel)) (by decide +kernel)
theorem wd_1233 : (Jvm.Cond.static ({ cls := "NoteDocumentLaw", name := "numbe\x72", desc := "(LNoteDocument;J[J)I" } : Jvm.MethodName)) ∈ BIG := big_t (List.mem_of_getElem? (i := 1233) (by decide +kernel)) (by decide +kernel)
theorem dM_L_law_822 : decode cM_L_law 822 = .ok (.istore 5, 2) := dz_o54 (lT_25 22) (lT_25 23) (by decide +kernel)
theorem dM_L_law_824 : decode cM_L_law 824 = .ok (.aload_n 2, 1) := dz_o44 (lT_25 24)
theorem dM_L_law_825 : decode cM_L_law 825 = .ok (.aload_n 0, 1) := dz_o42 (lT_25 25)
theorem dM_L_law_826 : decode cM_L_law 826 = .ok (.iload 4, 2) := dz_o21 (lT_25 26) (lT_25 27) (by decide +kernel)
theorem dM_L_law_828 : decode cM_L_law 828 = .ok (.iconst 1, 1) := dz_o4 (lT_25 28)
theorem dM_L_law_829 : decode cM_L_law 829 = .ok (.iadd, 1) := dz_o96 (lT_25 29)
theorem dM_L_law_830 : decode cM_L_law 830 = .ok (.iaload, 1) := dz_o46 (lT_25 30)
theorem dM_L_law_831 : decode cM_L_law 831 = .ok (.i2l, 1) := dz_o133 (lT_25 31)
theorem dM_L_law_832 : decode cM_L_law 832 = .ok (.bipush 32, 2) := dz_o16 (lT_26 0) (lT_26 1) (by decide +kernel)
theorem dM_L_law_834 : decode cM_L_law 834 = .ok (.lshl, 1) := dz_o121 (lT_26 2)
theorem dM_L_law_835 : decode cM_L_law 835 = .ok (.aload_n 0, 1) := dz_o42 (lT_26 3)
theorem dM_L_law_836 : decode cM_L_law 836 = .ok (.iload 4, 2) := dz_o21 (lT_26 4) (lT_26 5) (by decide +kernel)
theorem dM_L_law_838 : decode cM_L_law 838 = .ok (.iconst 2, 1) := dz_o5 (lT_26 6)
theorem dM_L_law_839 : decode cM_L_law 839 = .ok (.iadd, 1) := dz_o96 (lT_26 7)
theorem dM_L_law_840 : decode cM_L_law 840 = .ok (.iaload, 1) := dz_o46 (lT_26 8)
theorem dM_L_law_841 : decode cM_L_law 841 = .ok (.i2l, 1) := dz_o133 (lT_26 9)
theorem dM_L_law_842 : decode cM_L_law 842 = .ok (.ldc2_w 165, 3) := dz_o20 (lT_26 10) (lT_26 11) (lT_26 12) (by decide +kernel)
theorem dM_L_law_845 : decode cM_L_law 845 = .ok (.land, 1) := dz_o127 (lT_26 13)
theorem dM_L_law_846 : decode cM_L_law 846 = .ok (.lor, 1) := dz_o129 (lT_26 14)
theorem dM_L_law_847 : decode cM_L_law 847 = .ok (.invokevirtual 189, 3) := dz_o182 (lT_26 15) (lT_26 16) (lT_26 17) (by decide +kernel)
theorem wd_2599 : (Jvm.Cond.code ({ cls := "NoteDocumentModel", name := "numbe\x72", desc := "(J)I" } : Jvm.MethodName) prog_13_method_26_code (3 : Nat) (Option.some Jvm.ClassFile.FieldType.int)) ∈ BIG := big_t (List.mem_of_getElem? (i := 2599) (by decide +kernel)) (by decide +kernel)
theorem wd_2596 : (Jvm.Cond.methodLink "NoteDocumentLaw" (189 : Nat) ({ cls := "NoteDocumentModel", name := "numbe\x72", desc := "(J)I" } : Jvm.MethodName)) ∈ BIG := big_t (List.mem_of_getElem? (i := 2596) (by decide +kernel)) (by decide +kernel)
theorem wd_2597 : (Jvm.Cond.instanceMethod ({ cls := "NoteDocumentModel", name := "numbe\x72", desc := "(J)I" } : Jvm.MethodName)) ∈ BIG := big_t (List.mem_of_getElem? (i := 2597) (by decide +kernel)) (by decide +kernel)
theorem wd_2598 : (Jvm.Cond.selects "NoteDocumentModel" ({ cls := "NoteDocumentModel", name := "numbe\x72", desc := "(J)I" } : Jvm.MethodName) ({ cls := "NoteDocumentModel", name := "numbe\x72", desc := "(J)I" } : Jvm.MethodName)) ∈ BIG := big_t (List.mem_of_getElem? (i := 2598) (by decide +kernel)) (by decide +kernel)
theorem dM_L_law_850 : decode cM_L_law 850 = .ok (.istore 6, 2) := dz_o54 (lT_26 18) (lT_26 19) (by decide +kernel)
theorem dM_L_law_852 : decode cM_L_law 852 = .ok (.aload_n 2, 1) := dz_o44 (lT_26 20)
theorem dM_L_law_853 : decode cM_L_law 853 = .ok (.invokevirtual 158, 3) := dz_o182 (lT_26 21) (lT_26 22) (lT_26 23) (by decide +kernel)
theorem dM_L_law_856 : decode cM_L_law 856 = .ok (.iload 5, 2) := dz_o21 (lT_26 24) (lT_26 25) (by decide +kernel)
theorem dM_L_law_858 : decode cM_L_law 858 = .ok (.if_icmp .eq 5, 3) := dz_o159 (lT_26 26) (lT_26 27) (lT_26 28) (by decide +kernel)
theorem dM_L_law_863 : decode cM_L_law 863 = .ok (.iload 5, 2) := dz_o21 (lT_26 31) (lT_27 0) (by decide +kernel)
theorem dM_L_law_865 : decode cM_L_law 865 = .ok (.ifCond .ne 15, 3) := dz_o154 (lT_27 1) (lT_27 2) (lT_27 3) (by decide +kernel)
theorem dM_L_law_868 : decode cM_L_law 868 = .ok (.aload_n 3, 1) := dz_o45 (lT_27 4)
theorem dM_L_law_869 : decode cM_L_law 869 = .ok (.iconst 0, 1) := dz_o3 (lT_27 5)
theorem dM_L_law_870 : decode cM_L_law 870 = .ok (.laload, 1) := dz_o47 (lT_27 6)
theorem dM_L_law_871 : decode cM_L_law 871 = .ok (.iload 6, 2) := dz_o21 (lT_27 7) (lT_27 8) (by decide +kernel)
theorem dM_L_law_873 : decode cM_L_law 873 = .ok (.i2l, 1) := dz_o133 (lT_27 9)
theorem dM_L_law_874 : decode cM_L_law 874 = .ok (.lcmp, 1) := dz_o148 (lT_27 10)
theorem dM_L_law_875 : decode cM_L_law 875 = .ok (.ifCond .eq 5, 3) := dz_o153 (lT_27 11) (lT_27 12) (lT_27 13) (by decide +kernel)
theorem dM_L_law_880 : decode cM_L_law 880 = .ok (.goto 2530, 3) := dz_o167 (lT_27 16) (lT_27 17) (lT_27 18) (by decide +kernel)
theorem dM_L_law_883 : decode cM_L_law 883 = .ok (.aload_n 1, 1) := dz_o43 (lT_27 19)
theorem dM_L_law_884 : decode cM_L_law 884 = .ok (.aload_n 0, 1) := dz_o42 (lT_27 20)
theorem dM_L_law_885 : decode cM_L_law 885 = .ok (.iload 4, 2) := dz_o21 (lT_27 21) (lT_27 22) (by decide +kernel)
theorem dM_L_law_887 : decode cM_L_law 887 = .ok (.iconst 1, 1) := dz_o4 (lT_27 23)
theorem dM_L_law_888 : decode cM_L_law 888 = .ok (.iadd, 1) := dz_o96 (lT_27 24)
theorem dM_L_law_889 : decode cM_L_law 889 = .ok (.iaload, 1) := dz_o46 (lT_27 25)
theorem dM_L_law_890 : decode cM_L_law 890 = .ok (.aload_n 0, 1) := dz_o42 (lT_27 26)
theorem dM_L_law_891 : decode cM_L_law 891 = .ok (.iload 4, 2) := dz_o21 (lT_27 27) (lT_27 28) (by decide +kernel)
theorem dM_L_law_893 : decode cM_L_law 893 = .ok (.iconst 2, 1) := dz_o5 (lT_27 29)
theorem dM_L_law_894 : decode cM_L_law 894 = .ok (.iadd, 1) := dz_o96 (lT_27 30)
theorem dM_L_law_895 : decode cM_L_law 895 = .ok (.iaload, 1) := dz_o46 (lT_27 31)
theorem dM_L_law_896 : decode cM_L_law 896 = .ok (.aload_n 0, 1) := dz_o42 (lT_28 0)
theorem dM_L_law_897 : decode cM_L_law 897 = .ok (.iload 4, 2) := dz_o21 (lT_28 1) (lT_28 2) (by decide +kernel)
theorem dM_L_law_899 : decode cM_L_law 899 = .ok (.iconst 3, 1) := dz_o6 (lT_28 3)
theorem dM_L_law_900 : decode cM_L_law 900 = .ok (.iadd, 1) := dz_o96 (lT_28 4)
theorem dM_L_law_901 : decode cM_L_law 901 = .ok (.iaload, 1) := dz_o46 (lT_28 5)
theorem dM_L_law_902 : decode cM_L_law 902 = .ok (.aload_n 0, 1) := dz_o42 (lT_28 6)
theorem dM_L_law_903 : decode cM_L_law 903 = .ok (.iload 4, 2) := dz_o21 (lT_28 7) (lT_28 8) (by decide +kernel)
theorem dM_L_law_905 : decode cM_L_law 905 = .ok (.iconst 4, 1) := dz_o7 (lT_28 9)
theorem dM_L_law_906 : decode cM_L_law 906 = .ok (.iadd, 1) := dz_o96 (lT_28 10)
theorem dM_L_law_907 : decode cM_L_law 907 = .ok (.iaload, 1) := dz_o46 (lT_28 11)
theorem dM_L_law_908 : decode cM_L_law 908 = .ok (.ifCond .eq 7, 3) := dz_o153 (lT_28 12) (lT_28 13) (lT_28 14) (by decide +kernel)
theorem dM_L_law_915 : decode cM_L_law 915 = .ok (.iconst 0, 1) := dz_o3 (lT_28 19)
theorem dM_L_law_916 : decode cM_L_law 916 = .ok (.aload_n 3, 1) := dz_o45 (lT_28 20)
theorem dM_L_law_917 : decode cM_L_law 917 = .ok (.invokestatic 190, 3) := dz_o184 (lT_28 21) (lT_28 22) (lT_28 23) (by decide +kernel)
theorem wd_1250 : (Jvm.Cond.codeWith ({ cls := "NoteDocumentLaw", name := "cell", desc := "(LNoteDocument;IIIZ[J)I" } : Jvm.MethodName) method_11_code (7 : Nat) (Option.some Jvm.ClassFile.FieldType.int) [((0 : Nat), (14 : Nat), (17 : Nat), (21 : Nat)), ((0 : Nat), (14 : Nat), (21 : Nat), (15 : Nat))]) ∈ BIG := big_t (List.mem_of_getElem? (i := 1250) (by decide +kernel)) (by decide +kernel)
theorem wd_1248 : (Jvm.Cond.methodLink "NoteDocumentLaw" (190 : Nat) ({ cls := "NoteDocumentLaw", name := "cell", desc := "(LNoteDocument;IIIZ[J)I" } : Jvm.MethodName)) ∈ BIG := big_t (List.mem_of_getElem? (i := 1248) (by decide +kernel)) (by decide +kernel)
theorem wd_1249 : (Jvm.Cond.static ({ cls := "NoteDocumentLaw", name := "cell", desc := "(LNoteDocument;IIIZ[J)I" } : Jvm.MethodName)) ∈ BIG := big_t (List.mem_of_getElem? (i := 1249) (by decide +kernel)) (by decide +kernel)
theorem dM_L_law_920 : decode cM_L_law 920 = .ok (.istore 5, 2) := dz_o54 (lT_28 24) (lT_28 25) (by decide +kernel)
theorem dM_L_law_922 : decode cM_L_law 922 = .ok (.aload_n 2, 1) := dz_o44 (lT_28 26)
theorem dM_L_law_923 : decode cM_L_law 923 = .ok (.aload_n 0, 1) := dz_o42 (lT_28 27)
theorem dM_L_law_924 : decode cM_L_law 924 = .ok (.iload 4, 2) := dz_o21 (lT_28 28) (lT_28 29) (by decide +kernel)
theorem dM_L_law_926 : decode cM_L_law 926 = .ok (.iconst 1, 1) := dz_o4 (lT_28 30)
theorem dM_L_law_927 : decode cM_L_law 927 = .ok (.iadd, 1) := dz_o96 (lT_28 31)
theorem dM_L_law_928 : decode cM_L_law 928 = .ok (.iaload, 1) := dz_o46 (lT_29 0)
theorem dM_L_law_929 : decode cM_L_law 929 = .ok (.aload_n 0, 1) := dz_o42 (lT_29 1)
theorem dM_L_law_930 : decode cM_L_law 930 = .ok (.iload 4, 2) := dz_o21 (lT_29 2) (lT_29 3) (by decide +kernel)
theorem dM_L_law_932 : decode cM_L_law 932 = .ok (.iconst 2, 1) := dz_o5 (lT_29 4)
theorem dM_L_law_933 : decode cM_L_law 933 = .ok (.iadd, 1) := dz_o96 (lT_29 5)
theorem dM_L_law_934 : decode cM_L_law 934 = .ok (.iaload, 1) := dz_o46 (lT_29 6)
theorem dM_L_law_935 : decode cM_L_law 935 = .ok (.aload_n 0, 1) := dz_o42 (lT_29 7)
theorem dM_L_law_936 : decode cM_L_law 936 = .ok (.iload 4, 2) := dz_o21 (lT_29 8) (lT_29 9) (by decide +kernel)
theorem dM_L_law_938 : decode cM_L_law 938 = .ok (.iconst 3, 1) := dz_o6 (lT_29 10)
theorem dM_L_law_939 : decode cM_L_law 939 = .ok (.iadd, 1) := dz_o96 (lT_29 11)
theorem dM_L_law_940 : decode cM_L_law 940 = .ok (.iaload, 1) := dz_o46 (lT_29 12)
theorem dM_L_law_941 : decode cM_L_law 941 = .ok (.aload_n 0, 1) := dz_o42 (lT_29 13)
theorem dM_L_law_942 : decode cM_L_law 942 = .ok (.iload 4, 2) := dz_o21 (lT_29 14) (lT_29 15) (by decide +kernel)
theorem dM_L_law_944 : decode cM_L_law 944 = .ok (.iconst 4, 1) := dz_o7 (lT_29 16)
theorem dM_L_law_945 : decode cM_L_law 945 = .ok (.iadd, 1) := dz_o96 (lT_29 17)
theorem dM_L_law_946 : decode cM_L_law 946 = .ok (.iaload, 1) := dz_o46 (lT_29 18)
theorem dM_L_law_947 : decode cM_L_law 947 = .ok (.ifCond .eq 7, 3) := dz_o153 (lT_29 19) (lT_29 20) (lT_29 21) (by decide +kernel)
theorem dM_L_law_954 : decode cM_L_law 954 = .ok (.iconst 0, 1) := dz_o3 (lT_29 26)
theorem dM_L_law_955 : decode cM_L_law 955 = .ok (.invokevirtual 193, 3) := dz_o182 (lT_29 27) (lT_29 28) (lT_29 29) (by decide +kernel)
theorem wd_2611 : (Jvm.Cond.code ({ cls := "NoteDocumentModel", name := "cell", desc := "(IIIZ)I" } : Jvm.MethodName) prog_13_method_28_code (5 : Nat) (Option.some Jvm.ClassFile.FieldType.int)) ∈ BIG := big_t (List.mem_of_getElem? (i := 2611) (by decide +kernel)) (by decide +kernel)
theorem wd_2608 : (Jvm.Cond.methodLink "NoteDocumentLaw" (193 : Nat) ({ cls := "NoteDocumentModel", name := "cell", desc := "(IIIZ)I" } : Jvm.MethodName)) ∈ BIG := big_t (List.mem_of_getElem? (i := 2608) (by decide +kernel)) (by decide +kernel)
theorem wd_2609 : (Jvm.Cond.instanceMethod ({ cls := "NoteDocumentModel", name := "cell", desc := "(IIIZ)I" } : Jvm.MethodName)) ∈ BIG := big_t (List.mem_of_getElem? (i := 2609) (by decide +kernel)) (by decide +kernel)
theorem wd_2610 : (Jvm.Cond.selects "NoteDocumentModel" ({ cls := "NoteDocumentModel", name := "cell", desc := "(IIIZ)I" } : Jvm.MethodName) ({ cls := "NoteDocumentModel", name := "cell", desc := "(IIIZ)I" } : Jvm.MethodName)) ∈ BIG := big_t (List.mem_of_getElem? (i := 2610) (by decide +kernel)) (by decide +kernel)
theorem dM_L_law_958 : decode cM_L_law 958 = .ok (.istore 6, 2) := dz_o54 (lT_29 30) (lT_29 31) (by decide +kernel)
theorem dM_L_law_960 : decode cM_L_law 960 = .ok (.aload_n 2, 1) := dz_o44 (lT_30 0)
theorem dM_L_law_961 : decode cM_L_law 961 = .ok (.invokevirtual 158, 3) := dz_o182 (lT_30 1) (lT_30 2) (lT_30 3) (by decide +kernel)
theorem dM_L_law_964 : decode cM_L_law 964 = .ok (.iload 5, 2) := dz_o21 (lT_30 4) (lT_30 5) (by decide +kernel)
theorem dM_L_law_966 : decode cM_L_law 966 = .ok (.if_icmp .eq 5, 3) := dz_o159 (lT_30 6) (lT_30 7) (lT_30 8) (by decide +kernel)
theorem dM_L_law_971 : decode cM_L_law 971 = .ok (.iload 5, 2) := dz_o21 (lT_30 11) (lT_30 12) (by decide +kernel)
theorem dM_L_law_973 : decode cM_L_law 973 = .ok (.ifCond .ne 15, 3) := dz_o154 (lT_30 13) (lT_30 14) (lT_30 15) (by decide +kernel)
theorem dM_L_law_988 : decode cM_L_law 988 = .ok (.goto 2422, 3) := dz_o167 (lT_30 28) (lT_30 29) (lT_30 30) (by decide +kernel)
theorem dM_L_law_911 : decode cM_L_law 911 = .ok (.iconst 1, 1) := dz_o4 (lT_28 15)
theorem dM_L_law_912 : decode cM_L_law 912 = .ok (.goto 4, 3) := dz_o167 (lT_28 16) (lT_28 17) (lT_28 18) (by decide +kernel)
theorem dM_L_law_950 : decode cM_L_law 950 = .ok (.iconst 1, 1) := dz_o4 (lT_29 22)
theorem dM_L_law_951 : decode cM_L_law 951 = .ok (.goto 4, 3) := dz_o167 (lT_29 23) (lT_29 24) (lT_29 25) (by decide +kernel)
theorem dM_L_law_991 : decode cM_L_law 991 = .ok (.aload_n 1, 1) := dz_o43 (lT_30 31)
theorem dM_L_law_992 : decode cM_L_law 992 = .ok (.aload_n 0, 1) := dz_o42 (lT_31 0)
theorem dM_L_law_993 : decode cM_L_law 993 = .ok (.iload 4, 2) := dz_o21 (lT_31 1) (lT_31 2) (by decide +kernel)
theorem dM_L_law_995 : decode cM_L_law 995 = .ok (.iconst 1, 1) := dz_o4 (lT_31 3)
theorem dM_L_law_996 : decode cM_L_law 996 = .ok (.iadd, 1) := dz_o96 (lT_31 4)
theorem dM_L_law_997 : decode cM_L_law 997 = .ok (.iaload, 1) := dz_o46 (lT_31 5)
theorem dM_L_law_998 : decode cM_L_law 998 = .ok (.aload_n 0, 1) := dz_o42 (lT_31 6)
theorem dM_L_law_999 : decode cM_L_law 999 = .ok (.iload 4, 2) := dz_o21 (lT_31 7) (lT_31 8) (by decide +kernel)
theorem dM_L_law_1001 : decode cM_L_law 1001 = .ok (.iconst 2, 1) := dz_o5 (lT_31 9)
theorem dM_L_law_1002 : decode cM_L_law 1002 = .ok (.iadd, 1) := dz_o96 (lT_31 10)
theorem dM_L_law_1003 : decode cM_L_law 1003 = .ok (.iaload, 1) := dz_o46 (lT_31 11)
theorem dM_L_law_1004 : decode cM_L_law 1004 = .ok (.aload_n 0, 1) := dz_o42 (lT_31 12)
theorem dM_L_law_1005 : decode cM_L_law 1005 = .ok (.iload 4, 2) := dz_o21 (lT_31 13) (lT_31 14) (by decide +kernel)
theorem dM_L_law_1007 : decode cM_L_law 1007 = .ok (.iconst 3, 1) := dz_o6 (lT_31 15)
theorem dM_L_law_1008 : decode cM_L_law 1008 = .ok (.iadd, 1) := dz_o96 (lT_31 16)
theorem dM_L_law_1009 : decode cM_L_law 1009 = .ok (.iaload, 1) := dz_o46 (lT_31 17)
theorem dM_L_law_1010 : decode cM_L_law 1010 = .ok (.aload_n 0, 1) := dz_o42 (lT_31 18)
theorem dM_L_law_1011 : decode cM_L_law 1011 = .ok (.iload 4, 2) := dz_o21 (lT_31 19) (lT_31 20) (by decide +kernel)
theorem dM_L_law_1013 : decode cM_L_law 1013 = .ok (.iconst 4, 1) := dz_o7 (lT_31 21)
theorem dM_L_law_1014 : decode cM_L_law 1014 = .ok (.iadd, 1) := dz_o96 (lT_31 22)
theorem dM_L_law_1015 : decode cM_L_law 1015 = .ok (.iaload, 1) := dz_o46 (lT_31 23)
theorem dM_L_law_1016 : decode cM_L_law 1016 = .ok (.aload_n 0, 1) := dz_o42 (lT_31 24)
theorem dM_L_law_1017 : decode cM_L_law 1017 = .ok (.iload 4, 2) := dz_o21 (lT_31 25) (lT_31 26) (by decide +kernel)
theorem dM_L_law_1019 : decode cM_L_law 1019 = .ok (.iconst 5, 1) := dz_o8 (lT_31 27)
theorem dM_L_law_1020 : decode cM_L_law 1020 = .ok (.iadd, 1) := dz_o96 (lT_31 28)
theorem dM_L_law_1021 : decode cM_L_law 1021 = .ok (.iaload, 1) := dz_o46 (lT_31 29)
theorem dM_L_law_1022 : decode cM_L_law 1022 = .ok (.aload_n 3, 1) := dz_o45 (lT_31 30)
theorem dM_L_law_1023 : decode cM_L_law 1023 = .ok (.invokestatic 194, 3) := dz_o184 (lT_31 31) (lT_32 0) (lT_32 1) (by decide +kernel)
theorem wd_1261 : (Jvm.Cond.codeWith ({ cls := "NoteDocumentLaw", name := "range", desc := "(LNoteDocument;IIIII[J)I" } : Jvm.MethodName) method_12_code (8 : Nat) (Option.some Jvm.ClassFile.FieldType.int) [((0 : Nat), (16 : Nat), (19 : Nat), (21 : Nat)), ((0 : Nat), (16 : Nat), (23 : Nat), (13 : Nat)), ((0 : Nat), (16 : Nat), (27 : Nat), (15 : Nat))]) ∈ BIG := big_t (List.mem_of_getElem? (i := 1261) (by decide +kernel)) (by decide +kernel)
theorem wd_1259 : (Jvm.Cond.methodLink "NoteDocumentLaw" (194 : Nat) ({ cls := "NoteDocumentLaw", name := "range", desc := "(LNoteDocument;IIIII[J)I" } : Jvm.MethodName)) ∈ BIG := big_t (List.mem_of_getElem? (i := 1259) (by decide +kernel)) (by decide +kernel)
theorem wd_1260 : (Jvm.Cond.static ({ cls := "NoteDocumentLaw", name := "range", desc := "(LNoteDocument;IIIII[J)I" } : Jvm.MethodName)) ∈ BIG := big_t (List.mem_of_getElem? (i := 1260) (by decide +kernel)) (by decide +kernel)
theorem dM_L_law_1026 : decode cM_L_law 1026 = .ok (.istore 5, 2) := dz_o54 (lT_32 2) (lT_32 3) (by decide +kernel)
theorem dM_L_law_1028 : decode cM_L_law 1028 = .ok (.aload_n 2, 1) := dz_o44 (lT_32 4)
theorem dM_L_law_1029 : decode cM_L_law 1029 = .ok (.aload_n 0, 1) := dz_o42 (lT_32 5)
theorem dM_L_law_1030 : decode cM_L_law 1030 = .ok (.iload 4, 2) := dz_o21 (lT_32 6) (lT_32 7) (by decide +kernel)
theorem dM_L_law_1032 : decode cM_L_law 1032 = .ok (.iconst 1, 1) := dz_o4 (lT_32 8)
theorem dM_L_law_1033 : decode cM_L_law 1033 = .ok (.iadd, 1) := dz_o96 (lT_32 9)
theorem dM_L_law_1034 : decode cM_L_law 1034 = .ok (.iaload, 1) := dz_o46 (lT_32 10)
theorem dM_L_law_1035 : decode cM_L_law 1035 = .ok (.aload_n 0, 1) := dz_o42 (lT_32 11)
theorem dM_L_law_1036 : decode cM_L_law 1036 = .ok (.iload 4, 2) := dz_o21 (lT_32 12) (lT_32 13) (by decide +kernel)
theorem dM_L_law_1038 : decode cM_L_law 1038 = .ok (.iconst 2, 1) := dz_o5 (lT_32 14)
theorem dM_L_law_1039 : decode cM_L_law 1039 = .ok (.iadd, 1) := dz_o96 (lT_32 15)
theorem dM_L_law_1040 : decode cM_L_law 1040 = .ok (.iaload, 1) := dz_o46 (lT_32 16)
theorem dM_L_law_1041 : decode cM_L_law 1041 = .ok (.aload_n 0, 1) := dz_o42 (lT_32 17)
theorem dM_L_law_1042 : decode cM_L_law 1042 = .ok (.iload 4, 2) := dz_o21 (lT_32 18) (lT_32 19) (by decide +kernel)
theorem dM_L_law_1044 : decode cM_L_law 1044 = .ok (.iconst 3, 1) := dz_o6 (lT_32 20)
theorem dM_L_law_1045 : decode cM_L_law 1045 = .ok (.iadd, 1) := dz_o96 (lT_32 21)
theorem dM_L_law_1046 : decode cM_L_law 1046 = .ok (.iaload, 1) := dz_o46 (lT_32 22)
theorem dM_L_law_1047 : decode cM_L_law 1047 = .ok (.aload_n 0, 1) := dz_o42 (lT_32 23)
theorem dM_L_law_1048 : decode cM_L_law 1048 = .ok (.iload 4, 2) := dz_o21 (lT_32 24) (lT_32 25) (by decide +kernel)
theorem dM_L_law_1050 : decode cM_L_law 1050 = .ok (.iconst 4, 1) := dz_o7 (lT_32 26)
theorem dM_L_law_1051 : decode cM_L_law 1051 = .ok (.iadd, 1) := dz_o96 (lT_32 27)
theorem dM_L_law_1052 : decode cM_L_law 1052 = .ok (.iaload, 1) := dz_o46 (lT_32 28)
theorem dM_L_law_1053 : decode cM_L_law 1053 = .ok (.aload_n 0, 1) := dz_o42 (lT_32 29)
theorem dM_L_law_1054 : decode cM_L_law 1054 = .ok (.iload 4, 2) := dz_o21 (lT_32 30) (lT_32 31) (by decide +kernel)
theorem dM_L_law_1056 : decode cM_L_law 1056 = .ok (.iconst 5, 1) := dz_o8 (lT_33 0)
theorem dM_L_law_1057 : decode cM_L_law 1057 = .ok (.iadd, 1) := dz_o96 (lT_33 1)
theorem dM_L_law_1058 : decode cM_L_law 1058 = .ok (.iaload, 1) := dz_o46 (lT_33 2)
theorem dM_L_law_1059 : decode cM_L_law 1059 = .ok (.invokevirtual 197, 3) := dz_o182 (lT_33 3) (lT_33 4) (lT_33 5) (by decide +kernel)
theorem wd_2619 : (Jvm.Cond.code ({ cls := "NoteDocumentModel", name := "range", desc := "(IIIII)I" } : Jvm.MethodName) prog_13_method_29_code (7 : Nat) (Option.some Jvm.ClassFile.FieldType.int)) ∈ BIG := big_t (List.mem_of_getElem? (i := 2619) (by decide +kernel)) (by decide +kernel)
theorem wd_2616 : (Jvm.Cond.methodLink "NoteDocumentLaw" (197 : Nat) ({ cls := "NoteDocumentModel", name := "range", desc := "(IIIII)I" } : Jvm.MethodName)) ∈ BIG := big_t (List.mem_of_getElem? (i := 2616) (by decide +kernel)) (by decide +kernel)
theorem wd_2617 : (Jvm.Cond.instanceMethod ({ cls := "NoteDocumentModel", name := "range", desc := "(IIIII)I" } : Jvm.MethodName)) ∈ BIG := big_t (List.mem_of_getElem? (i := 2617) (by decide +kernel)) (by decide +kernel)
theorem wd_2618 : (Jvm.Cond.selects "NoteDocumentModel" ({ cls := "NoteDocumentModel", name := "range", desc := "(IIIII)I" } : Jvm.MethodName) ({ cls := "NoteDocumentModel", name := "range", desc := "(IIIII)I" } : Jvm.MethodName)) ∈ BIG := big_t (List.mem_of_getElem? (i := 2618) (by decide +kernel)) (by decide +kernel)
theorem dM_L_law_1062 : decode cM_L_law 1062 = .ok (.istore 6, 2) := dz_o54 (lT_33 6) (lT_33 7) (by decide +kernel)
theorem dM_L_law_1064 : decode cM_L_law 1064 = .ok (.aload_n 2, 1) := dz_o44 (lT_33 8)
theorem dM_L_law_1065 : decode cM_L_law 1065 = .ok (.invokevirtual 158, 3) := dz_o182 (lT_33 9) (lT_33 10) (lT_33 11) (by decide +kernel)
theorem dM_L_law_1068 : decode cM_L_law 1068 = .ok (.iload 5, 2) := dz_o21 (lT_33 12) (lT_33 13) (by decide +kernel)
theorem dM_L_law_1070 : decode cM_L_law 1070 = .ok (.if_icmp .eq 5, 3) := dz_o159 (lT_33 14) (lT_33 15) (lT_33 16) (by decide +kernel)
theorem dM_L_law_1075 : decode cM_L_law 1075 = .ok (.iload 5, 2) := dz_o21 (lT_33 19) (lT_33 20) (by decide +kernel)
theorem dM_L_law_1077 : decode cM_L_law 1077 = .ok (.ifCond .ne 15, 3) := dz_o154 (lT_33 21) (lT_33 22) (lT_33 23) (by decide +kernel)
theorem dM_L_law_1092 : decode cM_L_law 1092 = .ok (.goto 2318, 3) := dz_o167 (lT_34 4) (lT_34 5) (lT_34 6) (by decide +kernel)
theorem dM_L_law_1095 : decode cM_L_law 1095 = .ok (.aload_n 1, 1) := dz_o43 (lT_34 7)
theorem dM_L_law_1096 : decode cM_L_law 1096 = .ok (.aload_n 0, 1) := dz_o42 (lT_34 8)
theorem dM_L_law_1097 : decode cM_L_law 1097 = .ok (.iload 4, 2) := dz_o21 (lT_34 9) (lT_34 10) (by decide +kernel)
theorem dM_L_law_1099 : decode cM_L_law 1099 = .ok (.iconst 1, 1) := dz_o4 (lT_34 11)
theorem dM_L_law_1100 : decode cM_L_law 1100 = .ok (.iadd, 1) := dz_o96 (lT_34 12)
theorem dM_L_law_1101 : decode cM_L_law 1101 = .ok (.iaload, 1) := dz_o46 (lT_34 13)
theorem dM_L_law_1102 : decode cM_L_law 1102 = .ok (.aload_n 0, 1) := dz_o42 (lT_34 14)
theorem dM_L_law_1103 : decode cM_L_law 1103 = .ok (.iload 4, 2) := dz_o21 (lT_34 15) (lT_34 16) (by decide +kernel)
theorem dM_L_law_1105 : decode cM_L_law 1105 = .ok (.iconst 2, 1) := dz_o5 (lT_34 17)
theorem dM_L_law_1106 : decode cM_L_law 1106 = .ok (.iadd, 1) := dz_o96 (lT_34 18)
theorem dM_L_law_1107 : decode cM_L_law 1107 = .ok (.iaload, 1) := dz_o46 (lT_34 19)
theorem dM_L_law_1108 : decode cM_L_law 1108 = .ok (.aload_n 3, 1) := dz_o45 (lT_34 20)
theorem dM_L_law_1109 : decode cM_L_law 1109 = .ok (.invokestatic 198, 3) := dz_o184 (lT_34 21) (lT_34 22) (lT_34 23) (by decide +kernel)
theorem wd_1269 : (Jvm.Cond.codeWith ({ cls := "NoteDocumentLaw", name := "leaf", desc := "(LNoteDocument;II[J)I" } : Jvm.MethodName) method_13_code (5 : Nat) (Option.some Jvm.ClassFile.FieldType.int) [((0 : Nat), (10 : Nat), (13 : Nat), (13 : Nat)), ((0 : Nat), (10 : Nat), (17 : Nat), (15 : Nat))]) ∈ BIG := big_t (List.mem_of_getElem? (i := 1269) (by decide +kernel)) (by decide +kernel)
theorem wd_1267 : (Jvm.Cond.methodLink "NoteDocumentLaw" (198 : Nat) ({ cls := "NoteDocumentLaw", name := "leaf", desc := "(LNoteDocument;II[J)I" } : Jvm.MethodName)) ∈ BIG := big_t (List.mem_of_getElem? (i := 1267) (by decide +kernel)) (by decide +kernel)
theorem wd_1268 : (Jvm.Cond.static ({ cls := "NoteDocumentLaw", name := "leaf", desc := "(LNoteDocument;II[J)I" } : Jvm.MethodName)) ∈ BIG := big_t (List.mem_of_getElem? (i := 1268) (by decide +kernel)) (by decide +kernel)
theorem dM_L_law_1112 : decode cM_L_law 1112 = .ok (.istore 5, 2) := dz_o54 (lT_34 24) (lT_34 25) (by decide +kernel)
theorem dM_L_law_1114 : decode cM_L_law 1114 = .ok (.aload_n 2, 1) := dz_o44 (lT_34 26)
theorem dM_L_law_1115 : decode cM_L_law 1115 = .ok (.aload_n 0, 1) := dz_o42 (lT_34 27)
theorem dM_L_law_1116 : decode cM_L_law 1116 = .ok (.iload 4, 2) := dz_o21 (lT_34 28) (lT_34 29) (by decide +kernel)
theorem dM_L_law_1118 : decode cM_L_law 1118 = .ok (.iconst 1, 1) := dz_o4 (lT_34 30)
theorem dM_L_law_1119 : decode cM_L_law 1119 = .ok (.iadd, 1) := dz_o96 (lT_34 31)
theorem dM_L_law_1120 : decode cM_L_law 1120 = .ok (.iaload, 1) := dz_o46 (lT_35 0)
theorem dM_L_law_1121 : decode cM_L_law 1121 = .ok (.aload_n 0, 1) := dz_o42 (lT_35 1)
theorem dM_L_law_1122 : decode cM_L_law 1122 = .ok (.iload 4, 2) := dz_o21 (lT_35 2) (lT_35 3) (by decide +kernel)
theorem dM_L_law_1124 : decode cM_L_law 1124 = .ok (.iconst 2, 1) := dz_o5 (lT_35 4)
theorem dM_L_law_1125 : decode cM_L_law 1125 = .ok (.iadd, 1) := dz_o96 (lT_35 5)
theorem dM_L_law_1126 : decode cM_L_law 1126 = .ok (.iaload, 1) := dz_o46 (lT_35 6)
theorem dM_L_law_1127 : decode cM_L_law 1127 = .ok (.invokevirtual 200, 3) := dz_o182 (lT_35 7) (lT_35 8) (lT_35 9) (by decide +kernel)
theorem wd_2623 : (Jvm.Cond.code ({ cls := "NoteDocumentModel", name := "leaf", desc := "(II)I" } : Jvm.MethodName) prog_13_method_30_code (4 : Nat) (Option.some Jvm.ClassFile.FieldType.int)) ∈ BIG := big_t (List.mem_of_getElem? (i := 2623) (by decide +kernel)) (by decide +kernel)
theorem wd_2620 : (Jvm.Cond.methodLink "NoteDocumentLaw" (200 : Nat) ({ cls := "NoteDocumentModel", name := "leaf", desc := "(II)I" } : Jvm.MethodName)) ∈ BIG := big_t (List.mem_of_getElem? (i := 2620) (by decide +kernel)) (by decide +kernel)
theorem wd_2621 : (Jvm.Cond.instanceMethod ({ cls := "NoteDocumentModel", name := "leaf", desc := "(II)I" } : Jvm.MethodName)) ∈ BIG := big_t (List.mem_of_getElem? (i := 2621) (by decide +kernel)) (by decide +kernel)
theorem wd_2622 : (Jvm.Cond.selects "NoteDocumentModel" ({ cls := "NoteDocumentModel", name := "leaf", desc := "(II)I" } : Jvm.MethodName) ({ cls := "NoteDocumentModel", name := "leaf", desc := "(II)I" } : Jvm.MethodName)) ∈ BIG := big_t (List.mem_of_getElem? (i := 2622) (by decide +kernel)) (by decide +kernel)
theorem dM_L_law_1130 : decode cM_L_law 1130 = .ok (.istore 6, 2) := dz_o54 (lT_35 10) (lT_35 11) (by decide +kernel)
theorem dM_L_law_1132 : decode cM_L_law 1132 = .ok (.aload_n 2, 1) := dz_o44 (lT_35 12)
theorem dM_L_law_1133 : decode cM_L_law 1133 = .ok (.invokevirtual 158, 3) := dz_o182 (lT_35 13) (lT_35 14) (lT_35 15) (by decide +kernel)
theorem dM_L_law_1136 : decode cM_L_law 1136 = .ok (.iload 5, 2) := dz_o21 (lT_35 16) (lT_35 17) (by decide +kernel)
theorem dM_L_law_1138 : decode cM_L_law 1138 = .ok (.if_icmp .eq 5, 3) := dz_o159 (lT_35 18) (lT_35 19) (lT_35 20) (by decide +kernel)
theorem dM_L_law_1143 : decode cM_L_law 1143 = .ok (.iload 5, 2) := dz_o21 (lT_35 23) (lT_35 24) (by decide +kernel)
theorem dM_L_law_1145 : decode cM_L_law 1145 = .ok (.ifCond .ne 15, 3) := dz_o154 (lT_35 25) (lT_35 26) (lT_35 27) (by decide +kernel)
theorem dM_L_law_1148 : decode cM_L_law 1148 = .ok (.aload_n 3, 1) := dz_o45 (lT_35 28)
theorem dM_L_law_1149 : decode cM_L_law 1149 = .ok (.iconst 0, 1) := dz_o3 (lT_35 29)
theorem dM_L_law_1150 : decode cM_L_law 1150 = .ok (.laload, 1) := dz_o47 (lT_35 30)
theorem dM_L_law_1151 : decode cM_L_law 1151 = .ok (.iload 6, 2) := dz_o21 (lT_35 31) (lT_36 0) (by decide +kernel)
theorem dM_L_law_1153 : decode cM_L_law 1153 = .ok (.i2l, 1) := dz_o133 (lT_36 1)
theorem dM_L_law_1154 : decode cM_L_law 1154 = .ok (.lcmp, 1) := dz_o148 (lT_36 2)
theorem dM_L_law_1155 : decode cM_L_law 1155 = .ok (.ifCond .eq 5, 3) := dz_o153 (lT_36 3) (lT_36 4) (lT_36 5) (by decide +kernel)
theorem dM_L_law_1160 : decode cM_L_law 1160 = .ok (.goto 2250, 3) := dz_o167 (lT_36 8) (lT_36 9) (lT_36 10) (by decide +kernel)
theorem dM_L_law_1163 : decode cM_L_law 1163 = .ok (.aload_n 1, 1) := dz_o43 (lT_36 11)
theorem dM_L_law_1164 : decode cM_L_law 1164 = .ok (.aload_n 0, 1) := dz_o42 (lT_36 12)
theorem dM_L_law_1165 : decode cM_L_law 1165 = .ok (.iload 4, 2) := dz_o21 (lT_36 13) (lT_36 14) (by decide +kernel)
theorem dM_L_law_1167 : decode cM_L_law 1167 = .ok (.iconst 1, 1) := dz_o4 (lT_36 15)
theorem dM_L_law_1168 : decode cM_L_law 1168 = .ok (.iadd, 1) := dz_o96 (lT_36 16)
theorem dM_L_law_1169 : decode cM_L_law 1169 = .ok (.iaload, 1) := dz_o46 (lT_36 17)
theorem dM_L_law_1170 : decode cM_L_law 1170 = .ok (.aload_n 0, 1) := dz_o42 (lT_36 18)
theorem dM_L_law_1171 : decode cM_L_law 1171 = .ok (.iload 4, 2) := dz_o21 (lT_36 19) (lT_36 20) (by decide +kernel)
theorem dM_L_law_1173 : decode cM_L_law 1173 = .ok (.iconst 2, 1) := dz_o5 (lT_36 21)
theorem dM_L_law_1174 : decode cM_L_law 1174 = .ok (.iadd, 1) := dz_o96 (lT_36 22)
theorem dM_L_law_1175 : decode cM_L_law 1175 = .ok (.iaload, 1) := dz_o46 (lT_36 23)
theorem dM_L_law_1176 : decode cM_L_law 1176 = .ok (.aload_n 0, 1) := dz_o42 (lT_36 24)
theorem dM_L_law_1177 : decode cM_L_law 1177 = .ok (.iload 4, 2) := dz_o21 (lT_36 25) (lT_36 26) (by decide +kernel)
theorem dM_L_law_1179 : decode cM_L_law 1179 = .ok (.iconst 3, 1) := dz_o6 (lT_36 27)
theorem dM_L_law_1180 : decode cM_L_law 1180 = .ok (.iadd, 1) := dz_o96 (lT_36 28)
theorem dM_L_law_1181 : decode cM_L_law 1181 = .ok (.iaload, 1) := dz_o46 (lT_36 29)
theorem dM_L_law_1182 : decode cM_L_law 1182 = .ok (.aload_n 0, 1) := dz_o42 (lT_36 30)
theorem dM_L_law_1183 : decode cM_L_law 1183 = .ok (.iload 4, 2) := dz_o21 (lT_36 31) (lT_37 0) (by decide +kernel)
theorem dM_L_law_1185 : decode cM_L_law 1185 = .ok (.iconst 4, 1) := dz_o7 (lT_37 1)
theorem dM_L_law_1186 : decode cM_L_law 1186 = .ok (.iadd, 1) := dz_o96 (lT_37 2)
theorem dM_L_law_1187 : decode cM_L_law 1187 = .ok (.iaload, 1) := dz_o46 (lT_37 3)
theorem dM_L_law_1188 : decode cM_L_law 1188 = .ok (.aload_n 3, 1) := dz_o45 (lT_37 4)
theorem dM_L_law_1189 : decode cM_L_law 1189 = .ok (.invokestatic 201, 3) := dz_o184 (lT_37 5) (lT_37 6) (lT_37 7) (by decide +kernel)
theorem wd_1281 : (Jvm.Cond.codeWith ({ cls := "NoteDocumentLaw", name := "node", desc := "(LNoteDocument;IIII[J)I" } : Jvm.MethodName) method_14_code (7 : Nat) (Option.some Jvm.ClassFile.FieldType.int) [((0 : Nat), (14 : Nat), (17 : Nat), (13 : Nat)), ((0 : Nat), (14 : Nat), (21 : Nat), (21 : Nat)), ((0 : Nat), (14 : Nat), (25 : Nat), (15 : Nat))]) ∈ BIG := big_t (List.mem_of_getElem? (i := 1281) (by decide +kernel)) (by decide +kernel)
theorem wd_1279 : (Jvm.Cond.methodLink "NoteDocumentLaw" (201 : Nat) ({ cls := "NoteDocumentLaw", name := "node", desc := "(LNoteDocument;IIII[J)I" } : Jvm.MethodName)) ∈ BIG := big_t (List.mem_of_getElem? (i := 1279) (by decide +kernel)) (by decide +kernel)
theorem wd_1280 : (Jvm.Cond.static ({ cls := "NoteDocumentLaw", name := "node", desc := "(LNoteDocument;IIII[J)I" } : Jvm.MethodName)) ∈ BIG := big_t (List.mem_of_getElem? (i := 1280) (by decide +kernel)) (by decide +kernel)
theorem dM_L_law_1192 : decode cM_L_law 1192 = .ok (.istore 5, 2) := dz_o54 (lT_37 8) (lT_37 9) (by decide +kernel)
theorem dM_L_law_1194 : decode cM_L_law 1194 = .ok (.aload_n 2, 1) := dz_o44 (lT_37 10)
theorem dM_L_law_1195 : decode cM_L_law 1195 = .ok (.aload_n 0, 1) := dz_o42 (lT_37 11)
theorem dM_L_law_1196 : decode cM_L_law 1196 = .ok (.iload 4, 2) := dz_o21 (lT_37 12) (lT_37 13) (by decide +kernel)
theorem dM_L_law_1198 : decode cM_L_law 1198 = .ok (.iconst 1, 1) := dz_o4 (lT_37 14)
theorem dM_L_law_1199 : decode cM_L_law 1199 = .ok (.iadd, 1) := dz_o96 (lT_37 15)
theorem dM_L_law_1200 : decode cM_L_law 1200 = .ok (.iaload, 1) := dz_o46 (lT_37 16)
theorem dM_L_law_1201 : decode cM_L_law 1201 = .ok (.aload_n 0, 1) := dz_o42 (lT_37 17)
theorem dM_L_law_1202 : decode cM_L_law 1202 = .ok (.iload 4, 2) := dz_o21 (lT_37 18) (lT_37 19) (by decide +kernel)
theorem dM_L_law_1204 : decode cM_L_law 1204 = .ok (.iconst 2, 1) := dz_o5 (lT_37 20)
theorem dM_L_law_1205 : decode cM_L_law 1205 = .ok (.iadd, 1) := dz_o96 (lT_37 21)
theorem dM_L_law_1206 : decode cM_L_law 1206 = .ok (.iaload, 1) := dz_o46 (lT_37 22)
theorem dM_L_law_1207 : decode cM_L_law 1207 = .ok (.aload_n 0, 1) := dz_o42 (lT_37 23)
theorem dM_L_law_1208 : decode cM_L_law 1208 = .ok (.iload 4, 2) := dz_o21 (lT_37 24) (lT_37 25) (by decide +kernel)
theorem dM_L_law_1210 : decode cM_L_law 1210 = .ok (.iconst 3, 1) := dz_o6 (lT_37 26)
theorem dM_L_law_1211 : decode cM_L_law 1211 = .ok (.iadd, 1) := dz_o96 (lT_37 27)
theorem dM_L_law_1212 : decode cM_L_law 1212 = .ok (.iaload, 1) := dz_o46 (lT_37 28)
theorem dM_L_law_1213 : decode cM_L_law 1213 = .ok (.aload_n 0, 1) := dz_o42 (lT_37 29)
theorem dM_L_law_1214 : decode cM_L_law 1214 = .ok (.iload 4, 2) := dz_o21 (lT_37 30) (lT_37 31) (by decide +kernel)
theorem dM_L_law_1216 : decode cM_L_law 1216 = .ok (.iconst 4, 1) := dz_o7 (lT_38 0)
theorem dM_L_law_1217 : decode cM_L_law 1217 = .ok (.iadd, 1) := dz_o96 (lT_38 1)
theorem dM_L_law_1218 : decode cM_L_law 1218 = .ok (.iaload, 1) := dz_o46 (lT_38 2)
theorem dM_L_law_1219 : decode cM_L_law 1219 = .ok (.invokevirtual 204, 3) := dz_o182 (lT_38 3) (lT_38 4) (lT_38 5) (by decide +kernel)
theorem wd_2629 : (Jvm.Cond.code ({ cls := "NoteDocumentModel", name := "node", desc := "(IIII)I" } : Jvm.MethodName) prog_13_method_32_code (8 : Nat) (Option.some Jvm.ClassFile.FieldType.int)) ∈ BIG := big_t (List.mem_of_getElem? (i := 2629) (by decide +kernel)) (by decide +kernel)
theorem wd_2626 : (Jvm.Cond.methodLink "NoteDocumentLaw" (204 : Nat) ({ cls := "NoteDocumentModel", name := "node", desc := "(IIII)I" } : Jvm.MethodName)) ∈ BIG := big_t (List.mem_of_getElem? (i := 2626) (by decide +kernel)) (by decide +kernel)
theorem wd_2627 : (Jvm.Cond.instanceMethod ({ cls := "NoteDocumentModel", name := "node", desc := "(IIII)I" } : Jvm.MethodName)) ∈ BIG := big_t (List.mem_of_getElem? (i := 2627) (by decide +kernel)) (by decide +kernel)
theorem wd_2628 : (Jvm.Cond.selects "NoteDocumentModel" ({ cls := "NoteDocumentModel", name := "node", desc := "(IIII)I" } : Jvm.MethodName) ({ cls := "NoteDocumentModel", name := "node", desc := "(IIII)I" } : Jvm.MethodName)) ∈ BIG := big_t (List.mem_of_getElem? (i := 2628) (by decide +kernel)) (by decide +kernel)
theorem dM_L_law_1222 : decode cM_L_law 1222 = .ok (.istore 6, 2) := dz_o54 (lT_38 6) (lT_38 7) (by decide +kernel)
theorem dM_L_law_1224 : decode cM_L_law 1224 = .ok (.aload_n 2, 1) := dz_o44 (lT_38 8)
theorem dM_L_law_1225 : decode cM_L_law 1225 = .ok (.invokevirtual 158, 3) := dz_o182 (lT_38 9) (lT_38 10) (lT_38 11) (by decide +kernel)
theorem dM_L_law_1228 : decode cM_L_law 1228 = .ok (.iload 5, 2) := dz_o21 (lT_38 12) (lT_38 13) (by decide +kernel)
theorem dM_L_law_1230 : decode cM_L_law 1230 = .ok (.if_icmp .eq 5, 3) := dz_o159 (lT_38 14) (lT_38 15) (lT_38 16) (by decide +kernel)
theorem dM_L_law_1235 : decode cM_L_law 1235 = .ok (.iload 5, 2) := dz_o21 (lT_38 19) (lT_38 20) (by decide +kernel)
theorem dM_L_law_1237 : decode cM_L_law 1237 = .ok (.ifCond .ne 15, 3) := dz_o154 (lT_38 21) (lT_38 22) (lT_38 23) (by decide +kernel)
theorem dM_L_law_1252 : decode cM_L_law 1252 = .ok (.goto 2158, 3) := dz_o167 (lT_39 4) (lT_39 5) (lT_39 6) (by decide +kernel)
theorem dM_L_law_1255 : decode cM_L_law 1255 = .ok (.aload_n 1, 1) := dz_o43 (lT_39 7)
theorem dM_L_law_1256 : decode cM_L_law 1256 = .ok (.aload_n 0, 1) := dz_o42 (lT_39 8)
theorem dM_L_law_1257 : decode cM_L_law 1257 = .ok (.iload 4, 2) := dz_o21 (lT_39 9) (lT_39 10) (by decide +kernel)
theorem dM_L_law_1259 : decode cM_L_law 1259 = .ok (.iconst 1, 1) := dz_o4 (lT_39 11)
theorem dM_L_law_1260 : decode cM_L_law 1260 = .ok (.iadd, 1) := dz_o96 (lT_39 12)
theorem dM_L_law_1261 : decode cM_L_law 1261 = .ok (.iaload, 1) := dz_o46 (lT_39 13)
theorem dM_L_law_1262 : decode cM_L_law 1262 = .ok (.aload_n 0, 1) := dz_o42 (lT_39 14)
theorem dM_L_law_1263 : decode cM_L_law 1263 = .ok (.iload 4, 2) := dz_o21 (lT_39 15) (lT_39 16) (by decide +kernel)
theorem dM_L_law_1265 : decode cM_L_law 1265 = .ok (.iconst 2, 1) := dz_o5 (lT_39 17)
theorem dM_L_law_1266 : decode cM_L_law 1266 = .ok (.iadd, 1) := dz_o96 (lT_39 18)
theorem dM_L_law_1267 : decode cM_L_law 1267 = .ok (.iaload, 1) := dz_o46 (lT_39 19)
theorem dM_L_law_1268 : decode cM_L_law 1268 = .ok (.aload_n 0, 1) := dz_o42 (lT_39 20)
theorem dM_L_law_1269 : decode cM_L_law 1269 = .ok (.iload 4, 2) := dz_o21 (lT_39 21) (lT_39 22) (by decide +kernel)
theorem dM_L_law_1271 : decode cM_L_law 1271 = .ok (.iconst 3, 1) := dz_o6 (lT_39 23)
theorem dM_L_law_1272 : decode cM_L_law 1272 = .ok (.iadd, 1) := dz_o96 (lT_39 24)
theorem dM_L_law_1273 : decode cM_L_law 1273 = .ok (.iaload, 1) := dz_o46 (lT_39 25)
theorem dM_L_law_1274 : decode cM_L_law 1274 = .ok (.aload_n 3, 1) := dz_o45 (lT_39 26)
theorem dM_L_law_1275 : decode cM_L_law 1275 = .ok (.invokestatic 205, 3) := dz_o184 (lT_39 27) (lT_39 28) (lT_39 29) (by decide +kernel)
theorem wd_1298 : (Jvm.Cond.codeWith ({ cls := "NoteDocumentLaw", name := "when", desc := "(LNoteDocument;III[J)I" } : Jvm.MethodName) method_15_code (6 : Nat) (Option.some Jvm.ClassFile.FieldType.int) [((0 : Nat), (12 : Nat), (15 : Nat), (21 : Nat)), ((0 : Nat), (12 : Nat), (19 : Nat), (15 : Nat))]) ∈ BIG := big_t (List.mem_of_getElem? (i := 1298) (by decide +kernel)) (by decide +kernel)
theorem wd_1296 : (Jvm.Cond.methodLink "NoteDocumentLaw" (205 : Nat) ({ cls := "NoteDocumentLaw", name := "when", desc := "(LNoteDocument;III[J)I" } : Jvm.MethodName)) ∈ BIG := big_t (List.mem_of_getElem? (i := 1296) (by decide +kernel)) (by decide +kernel)
theorem wd_1297 : (Jvm.Cond.static ({ cls := "NoteDocumentLaw", name := "when", desc := "(LNoteDocument;III[J)I" } : Jvm.MethodName)) ∈ BIG := big_t (List.mem_of_getElem? (i := 1297) (by decide +kernel)) (by decide +kernel)
theorem dM_L_law_1278 : decode cM_L_law 1278 = .ok (.istore 5, 2) := dz_o54 (lT_39 30) (lT_39 31) (by decide +kernel)
theorem dM_L_law_1280 : decode cM_L_law 1280 = .ok (.aload_n 2, 1) := dz_o44 (lT_40 0)
theorem dM_L_law_1281 : decode cM_L_law 1281 = .ok (.aload_n 0, 1) := dz_o42 (lT_40 1)
theorem dM_L_law_1282 : decode cM_L_law 1282 = .ok (.iload 4, 2) := dz_o21 (lT_40 2) (lT_40 3) (by decide +kernel)
theorem dM_L_law_1284 : decode cM_L_law 1284 = .ok (.iconst 1, 1) := dz_o4 (lT_40 4)
theorem dM_L_law_1285 : decode cM_L_law 1285 = .ok (.iadd, 1) := dz_o96 (lT_40 5)
theorem dM_L_law_1286 : decode cM_L_law 1286 = .ok (.iaload, 1) := dz_o46 (lT_40 6)
theorem dM_L_law_1287 : decode cM_L_law 1287 = .ok (.aload_n 0, 1) := dz_o42 (lT_40 7)
theorem dM_L_law_1288 : decode cM_L_law 1288 = .ok (.iload 4, 2) := dz_o21 (lT_40 8) (lT_40 9) (by decide +kernel)
theorem dM_L_law_1290 : decode cM_L_law 1290 = .ok (.iconst 2, 1) := dz_o5 (lT_40 10)
theorem dM_L_law_1291 : decode cM_L_law 1291 = .ok (.iadd, 1) := dz_o96 (lT_40 11)
theorem dM_L_law_1292 : decode cM_L_law 1292 = .ok (.iaload, 1) := dz_o46 (lT_40 12)
theorem dM_L_law_1293 : decode cM_L_law 1293 = .ok (.aload_n 0, 1) := dz_o42 (lT_40 13)
theorem dM_L_law_1294 : decode cM_L_law 1294 = .ok (.iload 4, 2) := dz_o21 (lT_40 14) (lT_40 15) (by decide +kernel)
theorem dM_L_law_1296 : decode cM_L_law 1296 = .ok (.iconst 3, 1) := dz_o6 (lT_40 16)
theorem dM_L_law_1297 : decode cM_L_law 1297 = .ok (.iadd, 1) := dz_o96 (lT_40 17)
theorem dM_L_law_1298 : decode cM_L_law 1298 = .ok (.iaload, 1) := dz_o46 (lT_40 18)
theorem dM_L_law_1299 : decode cM_L_law 1299 = .ok (.invokevirtual 207, 3) := dz_o182 (lT_40 19) (lT_40 20) (lT_40 21) (by decide +kernel)
theorem wd_2639 : (Jvm.Cond.code ({ cls := "NoteDocumentModel", name := "when", desc := "(III)I" } : Jvm.MethodName) prog_13_method_33_code (5 : Nat) (Option.some Jvm.ClassFile.FieldType.int)) ∈ BIG := big_t (List.mem_of_getElem? (i := 2639) (by decide +kernel)) (by decide +kernel)
theorem wd_2636 : (Jvm.Cond.methodLink "NoteDocumentLaw" (207 : Nat) ({ cls := "NoteDocumentModel", name := "when", desc := "(III)I" } : Jvm.MethodName)) ∈ BIG := big_t (List.mem_of_getElem? (i := 2636) (by decide +kernel)) (by decide +kernel)
theorem wd_2637 : (Jvm.Cond.instanceMethod ({ cls := "NoteDocumentModel", name := "when", desc := "(III)I" } : Jvm.MethodName)) ∈ BIG := big_t (List.mem_of_getElem? (i := 2637) (by decide +kernel)) (by decide +kernel)
theorem wd_2638 : (Jvm.Cond.selects "NoteDocumentModel" ({ cls := "NoteDocumentModel", name := "when", desc := "(III)I" } : Jvm.MethodName) ({ cls := "NoteDocumentModel", name := "when", desc := "(III)I" } : Jvm.MethodName)) ∈ BIG := big_t (List.mem_of_getElem? (i := 2638) (by decide +kernel)) (by decide +kernel)
theorem dM_L_law_1302 : decode cM_L_law 1302 = .ok (.istore 6, 2) := dz_o54 (lT_40 22) (lT_40 23) (by decide +kernel)
theorem dM_L_law_1304 : decode cM_L_law 1304 = .ok (.aload_n 2, 1) := dz_o44 (lT_40 24)
theorem dM_L_law_1305 : decode cM_L_law 1305 = .ok (.invokevirtual 158, 3) := dz_o182 (lT_40 25) (lT_40 26) (lT_40 27) (by decide +kernel)
theorem dM_L_law_1308 : decode cM_L_law 1308 = .ok (.iload 5, 2) := dz_o21 (lT_40 28) (lT_40 29) (by decide +kernel)
theorem dM_L_law_1310 : decode cM_L_law 1310 = .ok (.if_icmp .eq 5, 3) := dz_o159 (lT_40 30) (lT_40 31) (lT_41 0) (by decide +kernel)
theorem dM_L_law_1315 : decode cM_L_law 1315 = .ok (.iload 5, 2) := dz_o21 (lT_41 3) (lT_41 4) (by decide +kernel)
theorem dM_L_law_1317 : decode cM_L_law 1317 = .ok (.ifCond .ne 15, 3) := dz_o154 (lT_41 5) (lT_41 6) (lT_41 7) (by decide +kernel)
theorem dM_L_law_1332 : decode cM_L_law 1332 = .ok (.goto 2078, 3) := dz_o167 (lT_41 20) (lT_41 21) (lT_41 22) (by decide +kernel)
theorem dM_L_law_1335 : decode cM_L_law 1335 = .ok (.aload_n 1, 1) := dz_o43 (lT_41 23)
theorem dM_L_law_1336 : decode cM_L_law 1336 = .ok (.invokevirtual 208, 3) := dz_o182 (lT_41 24) (lT_41 25) (lT_41 26) (by decide +kernel)
theorem wd_497 : (Jvm.Cond.code ({ cls := "NoteDocument", name := "torn", desc := "()I" } : Jvm.MethodName) prog_1_method_15_code (3 : Nat) (Option.some Jvm.ClassFile.FieldType.int)) ∈ BIG := big_t (List.mem_of_getElem? (i := 497) (by decide +kernel)) (by decide +kernel)
theorem wd_494 : (Jvm.Cond.methodLink "NoteDocumentLaw" (208 : Nat) ({ cls := "NoteDocument", name := "torn", desc := "()I" } : Jvm.MethodName)) ∈ BIG := big_t (List.mem_of_getElem? (i := 494) (by decide +kernel)) (by decide +kernel)
theorem wd_495 : (Jvm.Cond.instanceMethod ({ cls := "NoteDocument", name := "torn", desc := "()I" } : Jvm.MethodName)) ∈ BIG := big_t (List.mem_of_getElem? (i := 495) (by decide +kernel)) (by decide +kernel)
theorem wd_496 : (Jvm.Cond.selects "NoteDocument" ({ cls := "NoteDocument", name := "torn", desc := "()I" } : Jvm.MethodName) ({ cls := "NoteDocument", name := "torn", desc := "()I" } : Jvm.MethodName)) ∈ BIG := big_t (List.mem_of_getElem? (i := 496) (by decide +kernel)) (by decide +kernel)
theorem dM_L_law_1339 : decode cM_L_law 1339 = .ok (.aload_n 2, 1) := dz_o44 (lT_41 27)
theorem dM_L_law_1340 : decode cM_L_law 1340 = .ok (.invokevirtual 211, 3) := dz_o182 (lT_41 28) (lT_41 29) (lT_41 30) (by decide +kernel)
theorem wd_2643 : (Jvm.Cond.code ({ cls := "NoteDocumentModel", name := "torn", desc := "()I" } : Jvm.MethodName) prog_13_method_34_code (3 : Nat) (Option.some Jvm.ClassFile.FieldType.int)) ∈ BIG := big_t (List.mem_of_getElem? (i := 2643) (by decide +kernel)) (by decide +kernel)
theorem wd_2640 : (Jvm.Cond.methodLink "NoteDocumentLaw" (211 : Nat) ({ cls := "NoteDocumentModel", name := "torn", desc := "()I" } : Jvm.MethodName)) ∈ BIG := big_t (List.mem_of_getElem? (i := 2640) (by decide +kernel)) (by decide +kernel)
theorem wd_2641 : (Jvm.Cond.instanceMethod ({ cls := "NoteDocumentModel", name := "torn", desc := "()I" } : Jvm.MethodName)) ∈ BIG := big_t (List.mem_of_getElem? (i := 2641) (by decide +kernel)) (by decide +kernel)
theorem wd_2642 : (Jvm.Cond.selects "NoteDocumentModel" ({ cls := "NoteDocumentModel", name := "torn", desc := "()I" } : Jvm.MethodName) ({ cls := "NoteDocumentModel", name := "torn", desc := "()I" } : Jvm.MethodName)) ∈ BIG := big_t (List.mem_of_getElem? (i := 2642) (by decide +kernel)) (by decide +kernel)
theorem dM_L_law_1343 : decode cM_L_law 1343 = .ok (.if_icmp .eq 2067, 3) := dz_o159 (lT_41 31) (lT_42 0) (lT_42 1) (by decide +kernel)
theorem dM_L_law_1348 : decode cM_L_law 1348 = .ok (.aload_n 1, 1) := dz_o43 (lT_42 4)
theorem dM_L_law_1349 : decode cM_L_law 1349 = .ok (.aload_n 0, 1) := dz_o42 (lT_42 5)
theorem dM_L_law_1350 : decode cM_L_law 1350 = .ok (.iload 4, 2) := dz_o21 (lT_42 6) (lT_42 7) (by decide +kernel)
theorem dM_L_law_1352 : decode cM_L_law 1352 = .ok (.iconst 1, 1) := dz_o4 (lT_42 8)
theorem dM_L_law_1353 : decode cM_L_law 1353 = .ok (.iadd, 1) := dz_o96 (lT_42 9)
theorem dM_L_law_1354 : decode cM_L_law 1354 = .ok (.iaload, 1) := dz_o46 (lT_42 10)
theorem dM_L_law_1355 : decode cM_L_law 1355 = .ok (.aload_n 0, 1) := dz_o42 (lT_42 11)
theorem dM_L_law_1356 : decode cM_L_law 1356 = .ok (.iload 4, 2) := dz_o21 (lT_42 12) (lT_42 13) (by decide +kernel)
theorem dM_L_law_1358 : decode cM_L_law 1358 = .ok (.iconst 2, 1) := dz_o5 (lT_42 14)
theorem dM_L_law_1359 : decode cM_L_law 1359 = .ok (.iadd, 1) := dz_o96 (lT_42 15)
theorem dM_L_law_1360 : decode cM_L_law 1360 = .ok (.iaload, 1) := dz_o46 (lT_42 16)
theorem dM_L_law_1361 : decode cM_L_law 1361 = .ok (.invokestatic 212, 3) := dz_o184 (lT_42 17) (lT_42 18) (lT_42 19) (by decide +kernel)
theorem wd_1305 : (Jvm.Cond.codeWith ({ cls := "NoteDocumentLaw", name := "name", desc := "(LNoteDocument;II)I" } : Jvm.MethodName) method_16_code (4 : Nat) (Option.some Jvm.ClassFile.FieldType.int) [((0 : Nat), (6 : Nat), (9 : Nat), (13 : Nat)), ((0 : Nat), (6 : Nat), (12 : Nat), (21 : Nat))]) ∈ BIG := big_t (List.mem_of_getElem? (i := 1305) (by decide +kernel)) (by decide +kernel)
theorem wd_1303 : (Jvm.Cond.methodLink "NoteDocumentLaw" (212 : Nat) ({ cls := "NoteDocumentLaw", name := "name", desc := "(LNoteDocument;II)I" } : Jvm.MethodName)) ∈ BIG := big_t (List.mem_of_getElem? (i := 1303) (by decide +kernel)) (by decide +kernel)
theorem wd_1304 : (Jvm.Cond.static ({ cls := "NoteDocumentLaw", name := "name", desc := "(LNoteDocument;II)I" } : Jvm.MethodName)) ∈ BIG := big_t (List.mem_of_getElem? (i := 1304) (by decide +kernel)) (by decide +kernel)
theorem dM_L_law_1364 : decode cM_L_law 1364 = .ok (.istore 5, 2) := dz_o54 (lT_42 20) (lT_42 21) (by decide +kernel)
theorem dM_L_law_1366 : decode cM_L_law 1366 = .ok (.aload_n 2, 1) := dz_o44 (lT_42 22)
theorem dM_L_law_1367 : decode cM_L_law 1367 = .ok (.aload_n 0, 1) := dz_o42 (lT_42 23)
theorem dM_L_law_1368 : decode cM_L_law 1368 = .ok (.iload 4, 2) := dz_o21 (lT_42 24) (lT_42 25) (by decide +kernel)
theorem dM_L_law_1370 : decode cM_L_law 1370 = .ok (.iconst 1, 1) := dz_o4 (lT_42 26)
theorem dM_L_law_1371 : decode cM_L_law 1371 = .ok (.iadd, 1) := dz_o96 (lT_42 27)
theorem dM_L_law_1372 : decode cM_L_law 1372 = .ok (.iaload, 1) := dz_o46 (lT_42 28)
theorem dM_L_law_1373 : decode cM_L_law 1373 = .ok (.aload_n 0, 1) := dz_o42 (lT_42 29)
theorem dM_L_law_1374 : decode cM_L_law 1374 = .ok (.iload 4, 2) := dz_o21 (lT_42 30) (lT_42 31) (by decide +kernel)
theorem dM_L_law_1376 : decode cM_L_law 1376 = .ok (.iconst 2, 1) := dz_o5 (lT_43 0)
theorem dM_L_law_1377 : decode cM_L_law 1377 = .ok (.iadd, 1) := dz_o96 (lT_43 1)
theorem dM_L_law_1378 : decode cM_L_law 1378 = .ok (.iaload, 1) := dz_o46 (lT_43 2)
theorem dM_L_law_1379 : decode cM_L_law 1379 = .ok (.invokevirtual 215, 3) := dz_o182 (lT_43 3) (lT_43 4) (lT_43 5) (by decide +kernel)
theorem wd_2647 : (Jvm.Cond.code ({ cls := "NoteDocumentModel", name := "name", desc := "(II)V" } : Jvm.MethodName) prog_13_method_35_code (3 : Nat) (Option.none : Option Jvm.ClassFile.FieldType)) ∈ BIG := big_t (List.mem_of_getElem? (i := 2647) (by decide +kernel)) (by decide +kernel)
theorem wd_2644 : (Jvm.Cond.methodLink "NoteDocumentLaw" (215 : Nat) ({ cls := "NoteDocumentModel", name := "name", desc := "(II)V" } : Jvm.MethodName)) ∈ BIG := big_t (List.mem_of_getElem? (i := 2644) (by decide +kernel)) (by decide +kernel)
theorem wd_2645 : (Jvm.Cond.instanceMethod ({ cls := "NoteDocumentModel", name := "name", desc := "(II)V" } : Jvm.MethodName)) ∈ BIG := big_t (List.mem_of_getElem? (i := 2645) (by decide +kernel)) (by decide +kernel)
theorem wd_2646 : (Jvm.Cond.selects "NoteDocumentModel" ({ cls := "NoteDocumentModel", name := "name", desc := "(II)V" } : Jvm.MethodName) ({ cls := "NoteDocumentModel", name := "name", desc := "(II)V" } : Jvm.MethodName)) ∈ BIG := big_t (List.mem_of_getElem? (i := 2646) (by decide +kernel)) (by decide +kernel)
theorem dM_L_law_1382 : decode cM_L_law 1382 = .ok (.aload_n 2, 1) := dz_o44 (lT_43 6)
theorem dM_L_law_1383 : decode cM_L_law 1383 = .ok (.invokevirtual 158, 3) := dz_o182 (lT_43 7) (lT_43 8) (lT_43 9) (by decide +kernel)
theorem dM_L_law_1386 : decode cM_L_law 1386 = .ok (.iload 5, 2) := dz_o21 (lT_43 10) (lT_43 11) (by decide +kernel)
theorem dM_L_law_1388 : decode cM_L_law 1388 = .ok (.if_icmp .eq 5, 3) := dz_o159 (lT_43 12) (lT_43 13) (lT_43 14) (by decide +kernel)
theorem dM_L_law_1393 : decode cM_L_law 1393 = .ok (.goto 2017, 3) := dz_o167 (lT_43 17) (lT_43 18) (lT_43 19) (by decide +kernel)
theorem dM_L_law_1396 : decode cM_L_law 1396 = .ok (.aload_n 1, 1) := dz_o43 (lT_43 20)
theorem dM_L_law_1397 : decode cM_L_law 1397 = .ok (.aload_n 0, 1) := dz_o42 (lT_43 21)
theorem dM_L_law_1398 : decode cM_L_law 1398 = .ok (.iload 4, 2) := dz_o21 (lT_43 22) (lT_43 23) (by decide +kernel)
theorem dM_L_law_1400 : decode cM_L_law 1400 = .ok (.iconst 1, 1) := dz_o4 (lT_43 24)
theorem dM_L_law_1401 : decode cM_L_law 1401 = .ok (.iadd, 1) := dz_o96 (lT_43 25)
theorem dM_L_law_1402 : decode cM_L_law 1402 = .ok (.iaload, 1) := dz_o46 (lT_43 26)
theorem dM_L_law_1403 : decode cM_L_law 1403 = .ok (.aload_n 0, 1) := dz_o42 (lT_43 27)
theorem dM_L_law_1404 : decode cM_L_law 1404 = .ok (.iload 4, 2) := dz_o21 (lT_43 28) (lT_43 29) (by decide +kernel)
theorem dM_L_law_1406 : decode cM_L_law 1406 = .ok (.iconst 2, 1) := dz_o5 (lT_43 30)
theorem dM_L_law_1407 : decode cM_L_law 1407 = .ok (.iadd, 1) := dz_o96 (lT_43 31)
theorem dM_L_law_1408 : decode cM_L_law 1408 = .ok (.iaload, 1) := dz_o46 (lT_44 0)
theorem dM_L_law_1409 : decode cM_L_law 1409 = .ok (.invokestatic 216, 3) := dz_o184 (lT_44 1) (lT_44 2) (lT_44 3) (by decide +kernel)
theorem wd_1313 : (Jvm.Cond.codeWith ({ cls := "NoteDocumentLaw", name := "define", desc := "(LNoteDocument;II)I" } : Jvm.MethodName) method_17_code (4 : Nat) (Option.some Jvm.ClassFile.FieldType.int) [((0 : Nat), (6 : Nat), (9 : Nat), (13 : Nat)), ((0 : Nat), (6 : Nat), (12 : Nat), (21 : Nat))]) ∈ BIG := big_t (List.mem_of_getElem? (i := 1313) (by decide +kernel)) (by decide +kernel)
theorem wd_1311 : (Jvm.Cond.methodLink "NoteDocumentLaw" (216 : Nat) ({ cls := "NoteDocumentLaw", name := "define", desc := "(LNoteDocument;II)I" } : Jvm.MethodName)) ∈ BIG := big_t (List.mem_of_getElem? (i := 1311) (by decide +kernel)) (by decide +kernel)
theorem wd_1312 : (Jvm.Cond.static ({ cls := "NoteDocumentLaw", name := "define", desc := "(LNoteDocument;II)I" } : Jvm.MethodName)) ∈ BIG := big_t (List.mem_of_getElem? (i := 1312) (by decide +kernel)) (by decide +kernel)
theorem dM_L_law_1412 : decode cM_L_law 1412 = .ok (.istore 5, 2) := dz_o54 (lT_44 4) (lT_44 5) (by decide +kernel)
theorem dM_L_law_1414 : decode cM_L_law 1414 = .ok (.aload_n 2, 1) := dz_o44 (lT_44 6)
theorem dM_L_law_1415 : decode cM_L_law 1415 = .ok (.aload_n 0, 1) := dz_o42 (lT_44 7)
theorem dM_L_law_1416 : decode cM_L_law 1416 = .ok (.iload 4, 2) := dz_o21 (lT_44 8) (lT_44 9) (by decide +kernel)
theorem dM_L_law_1418 : decode cM_L_law 1418 = .ok (.iconst 1, 1) := dz_o4 (lT_44 10)
theorem dM_L_law_1419 : decode cM_L_law 1419 = .ok (.iadd, 1) := dz_o96 (lT_44 11)
theorem dM_L_law_1420 : decode cM_L_law 1420 = .ok (.iaload, 1) := dz_o46 (lT_44 12)
theorem dM_L_law_1421 : decode cM_L_law 1421 = .ok (.aload_n 0, 1) := dz_o42 (lT_44 13)
theorem dM_L_law_1422 : decode cM_L_law 1422 = .ok (.iload 4, 2) := dz_o21 (lT_44 14) (lT_44 15) (by decide +kernel)
theorem dM_L_law_1424 : decode cM_L_law 1424 = .ok (.iconst 2, 1) := dz_o5 (lT_44 16)
theorem dM_L_law_1425 : decode cM_L_law 1425 = .ok (.iadd, 1) := dz_o96 (lT_44 17)
theorem dM_L_law_1426 : decode cM_L_law 1426 = .ok (.iaload, 1) := dz_o46 (lT_44 18)
theorem dM_L_law_1427 : decode cM_L_law 1427 = .ok (.invokevirtual 218, 3) := dz_o182 (lT_44 19) (lT_44 20) (lT_44 21) (by decide +kernel)
theorem wd_2651 : (Jvm.Cond.code ({ cls := "NoteDocumentModel", name := "define", desc := "(II)V" } : Jvm.MethodName) prog_13_method_36_code (3 : Nat) (Option.none : Option Jvm.ClassFile.FieldType)) ∈ BIG := big_t (List.mem_of_getElem? (i := 2651) (by decide +kernel)) (by decide +kernel)
theorem wd_2648 : (Jvm.Cond.methodLink "NoteDocumentLaw" (218 : Nat) ({ cls := "NoteDocumentModel", name := "define", desc := "(II)V" } : Jvm.MethodName)) ∈ BIG := big_t (List.mem_of_getElem? (i := 2648) (by decide +kernel)) (by decide +kernel)
theorem wd_2649 : (Jvm.Cond.instanceMethod ({ cls := "NoteDocumentModel", name := "define", desc := "(II)V" } : Jvm.MethodName)) ∈ BIG := big_t (List.mem_of_getElem? (i := 2649) (by decide +kernel)) (by decide +kernel)
theorem wd_2650 : (Jvm.Cond.selects "NoteDocumentModel" ({ cls := "NoteDocumentModel", name := "define", desc := "(II)V" } : Jvm.MethodName) ({ cls := "NoteDocumentModel", name := "define", desc := "(II)V" } : Jvm.MethodName)) ∈ BIG := big_t (List.mem_of_getElem? (i := 2650) (by decide +kernel)) (by decide +kernel)
theorem dM_L_law_1430 : decode cM_L_law 1430 = .ok (.aload_n 2, 1) := dz_o44 (lT_44 22)
theorem dM_L_law_1431 : decode cM_L_law 1431 = .ok (.invokevirtual 158, 3) := dz_o182 (lT_44 23) (lT_44 24) (lT_44 25) (by decide +kernel)
theorem dM_L_law_1434 : decode cM_L_law 1434 = .ok (.iload 5, 2) := dz_o21 (lT_44 26) (lT_44 27) (by decide +kernel)
theorem dM_L_law_1436 : decode cM_L_law 1436 = .ok (.if_icmp .eq 5, 3) := dz_o159 (lT_44 28) (lT_44 29) (lT_44 30) (by decide +kernel)
theorem dM_L_law_1441 : decode cM_L_law 1441 = .ok (.goto 1969, 3) := dz_o167 (lT_45 1) (lT_45 2) (lT_45 3) (by decide +kernel)
theorem dM_L_law_1444 : decode cM_L_law 1444 = .ok (.aload_n 1, 1) := dz_o43 (lT_45 4)
theorem dM_L_law_1445 : decode cM_L_law 1445 = .ok (.aload_n 3, 1) := dz_o45 (lT_45 5)
theorem dM_L_law_1446 : decode cM_L_law 1446 = .ok (.invokestatic 219, 3) := dz_o184 (lT_45 6) (lT_45 7) (lT_45 8) (by decide +kernel)
theorem wd_1321 : (Jvm.Cond.codeWith ({ cls := "NoteDocumentLaw", name := "note", desc := "(LNoteDocument;[J)I" } : Jvm.MethodName) method_18_code (3 : Nat) (Option.some Jvm.ClassFile.FieldType.int) [((0 : Nat), (8 : Nat), (11 : Nat), (15 : Nat))]) ∈ BIG := big_t (List.mem_of_getElem? (i := 1321) (by decide +kernel)) (by decide +kernel)
theorem wd_1319 : (Jvm.Cond.methodLink "NoteDocumentLaw" (219 : Nat) ({ cls := "NoteDocumentLaw", name := "note", desc := "(LNoteDocument;[J)I" } : Jvm.MethodName)) ∈ BIG := big_t (List.mem_of_getElem? (i := 1319) (by decide +kernel)) (by decide +kernel)
theorem wd_1320 : (Jvm.Cond.static ({ cls := "NoteDocumentLaw", name := "note", desc := "(LNoteDocument;[J)I" } : Jvm.MethodName)) ∈ BIG := big_t (List.mem_of_getElem? (i := 1320) (by decide +kernel)) (by decide +kernel)
theorem dM_L_law_1449 : decode cM_L_law 1449 = .ok (.istore 5, 2) := dz_o54 (lT_45 9) (lT_45 10) (by decide +kernel)
theorem dM_L_law_1451 : decode cM_L_law 1451 = .ok (.aload_n 2, 1) := dz_o44 (lT_45 11)
theorem dM_L_law_1452 : decode cM_L_law 1452 = .ok (.invokevirtual 222, 3) := dz_o182 (lT_45 12) (lT_45 13) (lT_45 14) (by decide +kernel)
theorem wd_2655 : (Jvm.Cond.code ({ cls := "NoteDocumentModel", name := "note", desc := "()I" } : Jvm.MethodName) prog_13_method_37_code (1 : Nat) (Option.some Jvm.ClassFile.FieldType.int)) ∈ BIG := big_t (List.mem_of_getElem? (i := 2655) (by decide +kernel)) (by decide +kernel)
theorem wd_2652 : (Jvm.Cond.methodLink "NoteDocumentLaw" (222 : Nat) ({ cls := "NoteDocumentModel", name := "note", desc := "()I" } : Jvm.MethodName)) ∈ BIG := big_t (List.mem_of_getElem? (i := 2652) (by decide +kernel)) (by decide +kernel)
theorem wd_2653 : (Jvm.Cond.instanceMethod ({ cls := "NoteDocumentModel", name := "note", desc := "()I" } : Jvm.MethodName)) ∈ BIG := big_t (List.mem_of_getElem? (i := 2653) (by decide +kernel)) (by decide +kernel)
theorem wd_2654 : (Jvm.Cond.selects "NoteDocumentModel" ({ cls := "NoteDocumentModel", name := "note", desc := "()I" } : Jvm.MethodName) ({ cls := "NoteDocumentModel", name := "note", desc := "()I" } : Jvm.MethodName)) ∈ BIG := big_t (List.mem_of_getElem? (i := 2654) (by decide +kernel)) (by decide +kernel)
theorem dM_L_law_1455 : decode cM_L_law 1455 = .ok (.istore 6, 2) := dz_o54 (lT_45 15) (lT_45 16) (by decide +kernel)
theorem dM_L_law_1457 : decode cM_L_law 1457 = .ok (.aload_n 2, 1) := dz_o44 (lT_45 17)
theorem dM_L_law_1458 : decode cM_L_law 1458 = .ok (.invokevirtual 158, 3) := dz_o182 (lT_45 18) (lT_45 19) (lT_45 20) (by decide +kernel)
theorem dM_L_law_1461 : decode cM_L_law 1461 = .ok (.iload 5, 2) := dz_o21 (lT_45 21) (lT_45 22) (by decide +kernel)
theorem dM_L_law_1463 : decode cM_L_law 1463 = .ok (.if_icmp .eq 5, 3) := dz_o159 (lT_45 23) (lT_45 24) (lT_45 25) (by decide +kernel)
theorem dM_L_law_1468 : decode cM_L_law 1468 = .ok (.iload 5, 2) := dz_o21 (lT_45 28) (lT_45 29) (by decide +kernel)
theorem dM_L_law_1470 : decode cM_L_law 1470 = .ok (.ifCond .ne 15, 3) := dz_o154 (lT_45 30) (lT_45 31) (lT_46 0) (by decide +kernel)
theorem dM_L_law_1473 : decode cM_L_law 1473 = .ok (.aload_n 3, 1) := dz_o45 (lT_46 1)
theorem dM_L_law_1474 : decode cM_L_law 1474 = .ok (.iconst 0, 1) := dz_o3 (lT_46 2)
theorem dM_L_law_1475 : decode cM_L_law 1475 = .ok (.laload, 1) := dz_o47 (lT_46 3)
theorem dM_L_law_1476 : decode cM_L_law 1476 = .ok (.iload 6, 2) := dz_o21 (lT_46 4) (lT_46 5) (by decide +kernel)
theorem dM_L_law_1478 : decode cM_L_law 1478 = .ok (.i2l, 1) := dz_o133 (lT_46 6)
theorem dM_L_law_1479 : decode cM_L_law 1479 = .ok (.lcmp, 1) := dz_o148 (lT_46 7)
theorem dM_L_law_1480 : decode cM_L_law 1480 = .ok (.ifCond .eq 5, 3) := dz_o153 (lT_46 8) (lT_46 9) (lT_46 10) (by decide +kernel)
theorem dM_L_law_1485 : decode cM_L_law 1485 = .ok (.goto 1925, 3) := dz_o167 (lT_46 13) (lT_46 14) (lT_46 15) (by decide +kernel)
theorem dM_L_law_1488 : decode cM_L_law 1488 = .ok (.aload_n 1, 1) := dz_o43 (lT_46 16)
theorem dM_L_law_1489 : decode cM_L_law 1489 = .ok (.aload_n 0, 1) := dz_o42 (lT_46 17)
theorem dM_L_law_1490 : decode cM_L_law 1490 = .ok (.iload 4, 2) := dz_o21 (lT_46 18) (lT_46 19) (by decide +kernel)
theorem dM_L_law_1492 : decode cM_L_law 1492 = .ok (.iconst 1, 1) := dz_o4 (lT_46 20)
theorem dM_L_law_1493 : decode cM_L_law 1493 = .ok (.iadd, 1) := dz_o96 (lT_46 21)
theorem dM_L_law_1494 : decode cM_L_law 1494 = .ok (.iaload, 1) := dz_o46 (lT_46 22)
theorem dM_L_law_1495 : decode cM_L_law 1495 = .ok (.aload_n 0, 1) := dz_o42 (lT_46 23)
theorem dM_L_law_1496 : decode cM_L_law 1496 = .ok (.iload 4, 2) := dz_o21 (lT_46 24) (lT_46 25) (by decide +kernel)
theorem dM_L_law_1498 : decode cM_L_law 1498 = .ok (.iconst 2, 1) := dz_o5 (lT_46 26)
theorem dM_L_law_1499 : decode cM_L_law 1499 = .ok (.iadd, 1) := dz_o96 (lT_46 27)
theorem dM_L_law_1500 : decode cM_L_law 1500 = .ok (.iaload, 1) := dz_o46 (lT_46 28)
theorem dM_L_law_1501 : decode cM_L_law 1501 = .ok (.aload_n 3, 1) := dz_o45 (lT_46 29)
theorem dM_L_law_1502 : decode cM_L_law 1502 = .ok (.invokestatic 223, 3) := dz_o184 (lT_46 30) (lT_46 31) (lT_47 0) (by decide +kernel)
theorem wd_1329 : (Jvm.Cond.codeWith ({ cls := "NoteDocumentLaw", name := "say", desc := "(LNoteDocument;II[J)I" } : Jvm.MethodName) method_19_code (5 : Nat) (Option.some Jvm.ClassFile.FieldType.int) [((0 : Nat), (10 : Nat), (13 : Nat), (21 : Nat)), ((0 : Nat), (10 : Nat), (17 : Nat), (13 : Nat)), ((0 : Nat), (10 : Nat), (21 : Nat), (15 : Nat))]) ∈ BIG := big_t (List.mem_of_getElem? (i := 1329) (by decide +kernel)) (by decide +kernel)
theorem wd_1327 : (Jvm.Cond.methodLink "NoteDocumentLaw" (223 : Nat) ({ cls := "NoteDocumentLaw", name := "say", desc := "(LNoteDocument;II[J)I" } : Jvm.MethodName)) ∈ BIG := big_t (List.mem_of_getElem? (i := 1327) (by decide +kernel)) (by decide +kernel)
theorem wd_1328 : (Jvm.Cond.static ({ cls := "NoteDocumentLaw", name := "say", desc := "(LNoteDocument;II[J)I" } : Jvm.MethodName)) ∈ BIG := big_t (List.mem_of_getElem? (i := 1328) (by decide +kernel)) (by decide +kernel)
theorem dM_L_law_1505 : decode cM_L_law 1505 = .ok (.istore 5, 2) := dz_o54 (lT_47 1) (lT_47 2) (by decide +kernel)
theorem dM_L_law_1507 : decode cM_L_law 1507 = .ok (.aload_n 2, 1) := dz_o44 (lT_47 3)
theorem dM_L_law_1508 : decode cM_L_law 1508 = .ok (.aload_n 0, 1) := dz_o42 (lT_47 4)
theorem dM_L_law_1509 : decode cM_L_law 1509 = .ok (.iload 4, 2) := dz_o21 (lT_47 5) (lT_47 6) (by decide +kernel)
theorem dM_L_law_1511 : decode cM_L_law 1511 = .ok (.iconst 1, 1) := dz_o4 (lT_47 7)
theorem dM_L_law_1512 : decode cM_L_law 1512 = .ok (.iadd, 1) := dz_o96 (lT_47 8)
theorem dM_L_law_1513 : decode cM_L_law 1513 = .ok (.iaload, 1) := dz_o46 (lT_47 9)
theorem dM_L_law_1514 : decode cM_L_law 1514 = .ok (.aload_n 0, 1) := dz_o42 (lT_47 10)
theorem dM_L_law_1515 : decode cM_L_law 1515 = .ok (.iload 4, 2) := dz_o21 (lT_47 11) (lT_47 12) (by decide +kernel)
theorem dM_L_law_1517 : decode cM_L_law 1517 = .ok (.iconst 2, 1) := dz_o5 (lT_47 13)
theorem dM_L_law_1518 : decode cM_L_law 1518 = .ok (.iadd, 1) := dz_o96 (lT_47 14)
theorem dM_L_law_1519 : decode cM_L_law 1519 = .ok (.iaload, 1) := dz_o46 (lT_47 15)
theorem dM_L_law_1520 : decode cM_L_law 1520 = .ok (.invokevirtual 225, 3) := dz_o182 (lT_47 16) (lT_47 17) (lT_47 18) (by decide +kernel)
theorem wd_2659 : (Jvm.Cond.code ({ cls := "NoteDocumentModel", name := "say", desc := "(II)I" } : Jvm.MethodName) prog_13_method_40_code (4 : Nat) (Option.some Jvm.ClassFile.FieldType.int)) ∈ BIG := big_t (List.mem_of_getElem? (i := 2659) (by decide +kernel)) (by decide +kernel)
theorem wd_2656 : (Jvm.Cond.methodLink "NoteDocumentLaw" (225 : Nat) ({ cls := "NoteDocumentModel", name := "say", desc := "(II)I" } : Jvm.MethodName)) ∈ BIG := big_t (List.mem_of_getElem? (i := 2656) (by decide +kernel)) (by decide +kernel)
theorem wd_2657 : (Jvm.Cond.instanceMethod ({ cls := "NoteDocumentModel", name := "say", desc := "(II)I" } : Jvm.MethodName)) ∈ BIG := big_t (List.mem_of_getElem? (i := 2657) (by decide +kernel)) (by decide +kernel)
theorem wd_2658 : (Jvm.Cond.selects "NoteDocumentModel" ({ cls := "NoteDocumentModel", name := "say", desc := "(II)I" } : Jvm.MethodName) ({ cls := "NoteDocumentModel", name := "say", desc := "(II)I" } : Jvm.MethodName)) ∈ BIG := big_t (List.mem_of_getElem? (i := 2658) (by decide +kernel)) (by decide +kernel)
theorem dM_L_law_1523 : decode cM_L_law 1523 = .ok (.istore 6, 2) := dz_o54 (lT_47 19) (lT_47 20) (by decide +kernel)
theorem dM_L_law_1525 : decode cM_L_law 1525 = .ok (.aload_n 2, 1) := dz_o44 (lT_47 21)
theorem dM_L_law_1526 : decode cM_L_law 1526 = .ok (.invokevirtual 158, 3) := dz_o182 (lT_47 22) (lT_47 23) (lT_47 24) (by decide +kernel)
theorem dM_L_law_1529 : decode cM_L_law 1529 = .ok (.iload 5, 2) := dz_o21 (lT_47 25) (lT_47 26) (by decide +kernel)
theorem dM_L_law_1531 : decode cM_L_law 1531 = .ok (.if_icmp .eq 5, 3) := dz_o159 (lT_47 27) (lT_47 28) (lT_47 29) (by decide +kernel)
theorem dM_L_law_1536 : decode cM_L_law 1536 = .ok (.iload 5, 2) := dz_o21 (lT_48 0) (lT_48 1) (by decide +kernel)
theorem dM_L_law_1538 : decode cM_L_law 1538 = .ok (.ifCond .ne 15, 3) := dz_o154 (lT_48 2) (lT_48 3) (lT_48 4) (by decide +kernel)
theorem dM_L_law_1553 : decode cM_L_law 1553 = .ok (.goto 1857, 3) := dz_o167 (lT_48 17) (lT_48 18) (lT_48 19) (by decide +kernel)
theorem dM_L_law_1556 : decode cM_L_law 1556 = .ok (.aload_n 1, 1) := dz_o43 (lT_48 20)
theorem dM_L_law_1557 : decode cM_L_law 1557 = .ok (.aload_n 0, 1) := dz_o42 (lT_48 21)
theorem dM_L_law_1558 : decode cM_L_law 1558 = .ok (.iload 4, 2) := dz_o21 (lT_48 22) (lT_48 23) (by decide +kernel)
theorem dM_L_law_1560 : decode cM_L_law 1560 = .ok (.iconst 1, 1) := dz_o4 (lT_48 24)
theorem dM_L_law_1561 : decode cM_L_law 1561 = .ok (.iadd, 1) := dz_o96 (lT_48 25)
theorem dM_L_law_1562 : decode cM_L_law 1562 = .ok (.iaload, 1) := dz_o46 (lT_48 26)
theorem dM_L_law_1563 : decode cM_L_law 1563 = .ok (.aload_n 0, 1) := dz_o42 (lT_48 27)
theorem dM_L_law_1564 : decode cM_L_law 1564 = .ok (.iload 4, 2) := dz_o21 (lT_48 28) (lT_48 29) (by decide +kernel)
theorem dM_L_law_1566 : decode cM_L_law 1566 = .ok (.iconst 2, 1) := dz_o5 (lT_48 30)
theorem dM_L_law_1567 : decode cM_L_law 1567 = .ok (.iadd, 1) := dz_o96 (lT_48 31)
theorem dM_L_law_1568 : decode cM_L_law 1568 = .ok (.iaload, 1) := dz_o46 (lT_49 0)
theorem dM_L_law_1569 : decode cM_L_law 1569 = .ok (.aload_n 0, 1) := dz_o42 (lT_49 1)
theorem dM_L_law_1570 : decode cM_L_law 1570 = .ok (.iload 4, 2) := dz_o21 (lT_49 2) (lT_49 3) (by decide +kernel)
theorem dM_L_law_1572 : decode cM_L_law 1572 = .ok (.iconst 3, 1) := dz_o6 (lT_49 4)
theorem dM_L_law_1573 : decode cM_L_law 1573 = .ok (.iadd, 1) := dz_o96 (lT_49 5)
theorem dM_L_law_1574 : decode cM_L_law 1574 = .ok (.iaload, 1) := dz_o46 (lT_49 6)
theorem dM_L_law_1575 : decode cM_L_law 1575 = .ok (.aload_n 0, 1) := dz_o42 (lT_49 7)
theorem dM_L_law_1576 : decode cM_L_law 1576 = .ok (.iload 4, 2) := dz_o21 (lT_49 8) (lT_49 9) (by decide +kernel)
theorem dM_L_law_1578 : decode cM_L_law 1578 = .ok (.iconst 4, 1) := dz_o7 (lT_49 10)
theorem dM_L_law_1579 : decode cM_L_law 1579 = .ok (.iadd, 1) := dz_o96 (lT_49 11)
theorem dM_L_law_1580 : decode cM_L_law 1580 = .ok (.iaload, 1) := dz_o46 (lT_49 12)
theorem dM_L_law_1581 : decode cM_L_law 1581 = .ok (.aload_n 0, 1) := dz_o42 (lT_49 13)
theorem dM_L_law_1582 : decode cM_L_law 1582 = .ok (.iload 4, 2) := dz_o21 (lT_49 14) (lT_49 15) (by decide +kernel)
theorem dM_L_law_1584 : decode cM_L_law 1584 = .ok (.iconst 5, 1) := dz_o8 (lT_49 16)
theorem dM_L_law_1585 : decode cM_L_law 1585 = .ok (.iadd, 1) := dz_o96 (lT_49 17)
theorem dM_L_law_1586 : decode cM_L_law 1586 = .ok (.iaload, 1) := dz_o46 (lT_49 18)
theorem dM_L_law_1587 : decode cM_L_law 1587 = .ok (.aload_n 3, 1) := dz_o45 (lT_49 19)
theorem dM_L_law_1588 : decode cM_L_law 1588 = .ok (.invokestatic 226, 3) := dz_o184 (lT_49 20) (lT_49 21) (lT_49 22) (by decide +kernel)
theorem wd_1351 : (Jvm.Cond.codeWith ({ cls := "NoteDocumentLaw", name := "show", desc := "(LNoteDocument;IIIII[J)I" } : Jvm.MethodName) method_20_code (8 : Nat) (Option.some Jvm.ClassFile.FieldType.int) [((0 : Nat), (16 : Nat), (19 : Nat), (21 : Nat)), ((0 : Nat), (16 : Nat), (23 : Nat), (13 : Nat)), ((0 : Nat), (16 : Nat), (27 : Nat), (15 : Nat))]) ∈ BIG := big_t (List.mem_of_getElem? (i := 1351) (by decide +kernel)) (by decide +kernel)
theorem wd_1349 : (Jvm.Cond.methodLink "NoteDocumentLaw" (226 : Nat) ({ cls := "NoteDocumentLaw", name := "show", desc := "(LNoteDocument;IIIII[J)I" } : Jvm.MethodName)) ∈ BIG := big_t (List.mem_of_getElem? (i := 1349) (by decide +kernel)) (by decide +kernel)
theorem wd_1350 : (Jvm.Cond.static ({ cls := "NoteDocumentLaw", name := "show", desc := "(LNoteDocument;IIIII[J)I" } : Jvm.MethodName)) ∈ BIG := big_t (List.mem_of_getElem? (i := 1350) (by decide +kernel)) (by decide +kernel)
theorem dM_L_law_1591 : decode cM_L_law 1591 = .ok (.istore 5, 2) := dz_o54 (lT_49 23) (lT_49 24) (by decide +kernel)
theorem dM_L_law_1593 : decode cM_L_law 1593 = .ok (.aload_n 2, 1) := dz_o44 (lT_49 25)
theorem dM_L_law_1594 : decode cM_L_law 1594 = .ok (.aload_n 0, 1) := dz_o42 (lT_49 26)
theorem dM_L_law_1595 : decode cM_L_law 1595 = .ok (.iload 4, 2) := dz_o21 (lT_49 27) (lT_49 28) (by decide +kernel)
theorem dM_L_law_1597 : decode cM_L_law 1597 = .ok (.iconst 1, 1) := dz_o4 (lT_49 29)
theorem dM_L_law_1598 : decode cM_L_law 1598 = .ok (.iadd, 1) := dz_o96 (lT_49 30)
theorem dM_L_law_1599 : decode cM_L_law 1599 = .ok (.iaload, 1) := dz_o46 (lT_49 31)
theorem dM_L_law_1600 : decode cM_L_law 1600 = .ok (.aload_n 0, 1) := dz_o42 (lT_50 0)
theorem dM_L_law_1601 : decode cM_L_law 1601 = .ok (.iload 4, 2) := dz_o21 (lT_50 1) (lT_50 2) (by decide +kernel)
theorem dM_L_law_1603 : decode cM_L_law 1603 = .ok (.iconst 2, 1) := dz_o5 (lT_50 3)
theorem dM_L_law_1604 : decode cM_L_law 1604 = .ok (.iadd, 1) := dz_o96 (lT_50 4)
theorem dM_L_law_1605 : decode cM_L_law 1605 = .ok (.iaload, 1) := dz_o46 (lT_50 5)
theorem dM_L_law_1606 : decode cM_L_law 1606 = .ok (.aload_n 0, 1) := dz_o42 (lT_50 6)
theorem dM_L_law_1607 : decode cM_L_law 1607 = .ok (.iload 4, 2) := dz_o21 (lT_50 7) (lT_50 8) (by decide +kernel)
theorem dM_L_law_1609 : decode cM_L_law 1609 = .ok (.iconst 3, 1) := dz_o6 (lT_50 9)
theorem dM_L_law_1610 : decode cM_L_law 1610 = .ok (.iadd, 1) := dz_o96 (lT_50 10)
theorem dM_L_law_1611 : decode cM_L_law 1611 = .ok (.iaload, 1) := dz_o46 (lT_50 11)
theorem dM_L_law_1612 : decode cM_L_law 1612 = .ok (.aload_n 0, 1) := dz_o42 (lT_50 12)
theorem dM_L_law_1613 : decode cM_L_law 1613 = .ok (.iload 4, 2) := dz_o21 (lT_50 13) (lT_50 14) (by decide +kernel)
theorem dM_L_law_1615 : decode cM_L_law 1615 = .ok (.iconst 4, 1) := dz_o7 (lT_50 15)
theorem dM_L_law_1616 : decode cM_L_law 1616 = .ok (.iadd, 1) := dz_o96 (lT_50 16)
theorem dM_L_law_1617 : decode cM_L_law 1617 = .ok (.iaload, 1) := dz_o46 (lT_50 17)
theorem dM_L_law_1618 : decode cM_L_law 1618 = .ok (.aload_n 0, 1) := dz_o42 (lT_50 18)
theorem dM_L_law_1619 : decode cM_L_law 1619 = .ok (.iload 4, 2) := dz_o21 (lT_50 19) (lT_50 20) (by decide +kernel)
theorem dM_L_law_1621 : decode cM_L_law 1621 = .ok (.iconst 5, 1) := dz_o8 (lT_50 21)
theorem dM_L_law_1622 : decode cM_L_law 1622 = .ok (.iadd, 1) := dz_o96 (lT_50 22)
theorem dM_L_law_1623 : decode cM_L_law 1623 = .ok (.iaload, 1) := dz_o46 (lT_50 23)
theorem dM_L_law_1624 : decode cM_L_law 1624 = .ok (.invokevirtual 228, 3) := dz_o182 (lT_50 24) (lT_50 25) (lT_50 26) (by decide +kernel)
theorem wd_2672 : (Jvm.Cond.code ({ cls := "NoteDocumentModel", name := "show", desc := "(IIIII)I" } : Jvm.MethodName) prog_13_method_41_code (7 : Nat) (Option.some Jvm.ClassFile.FieldType.int)) ∈ BIG := big_t (List.mem_of_getElem? (i := 2672) (by decide +kernel)) (by decide +kernel)
theorem wd_2669 : (Jvm.Cond.methodLink "NoteDocumentLaw" (228 : Nat) ({ cls := "NoteDocumentModel", name := "show", desc := "(IIIII)I" } : Jvm.MethodName)) ∈ BIG := big_t (List.mem_of_getElem? (i := 2669) (by decide +kernel)) (by decide +kernel)
theorem wd_2670 : (Jvm.Cond.instanceMethod ({ cls := "NoteDocumentModel", name := "show", desc := "(IIIII)I" } : Jvm.MethodName)) ∈ BIG := big_t (List.mem_of_getElem? (i := 2670) (by decide +kernel)) (by decide +kernel)
theorem wd_2671 : (Jvm.Cond.selects "NoteDocumentModel" ({ cls := "NoteDocumentModel", name := "show", desc := "(IIIII)I" } : Jvm.MethodName) ({ cls := "NoteDocumentModel", name := "show", desc := "(IIIII)I" } : Jvm.MethodName)) ∈ BIG := big_t (List.mem_of_getElem? (i := 2671) (by decide +kernel)) (by decide +kernel)
theorem dM_L_law_1627 : decode cM_L_law 1627 = .ok (.istore 6, 2) := dz_o54 (lT_50 27) (lT_50 28) (by decide +kernel)
theorem dM_L_law_1629 : decode cM_L_law 1629 = .ok (.aload_n 2, 1) := dz_o44 (lT_50 29)
theorem dM_L_law_1630 : decode cM_L_law 1630 = .ok (.invokevirtual 158, 3) := dz_o182 (lT_50 30) (lT_50 31) (lT_51 0) (by decide +kernel)
theorem dM_L_law_1633 : decode cM_L_law 1633 = .ok (.iload 5, 2) := dz_o21 (lT_51 1) (lT_51 2) (by decide +kernel)
theorem dM_L_law_1635 : decode cM_L_law 1635 = .ok (.if_icmp .eq 5, 3) := dz_o159 (lT_51 3) (lT_51 4) (lT_51 5) (by decide +kernel)
theorem dM_L_law_1640 : decode cM_L_law 1640 = .ok (.iload 5, 2) := dz_o21 (lT_51 8) (lT_51 9) (by decide +kernel)
theorem dM_L_law_1642 : decode cM_L_law 1642 = .ok (.ifCond .ne 15, 3) := dz_o154 (lT_51 10) (lT_51 11) (lT_51 12) (by decide +kernel)
theorem dM_L_law_1657 : decode cM_L_law 1657 = .ok (.goto 1753, 3) := dz_o167 (lT_51 25) (lT_51 26) (lT_51 27) (by decide +kernel)
theorem dM_L_law_1660 : decode cM_L_law 1660 = .ok (.aload_n 1, 1) := dz_o43 (lT_51 28)
theorem dM_L_law_1661 : decode cM_L_law 1661 = .ok (.aload_n 0, 1) := dz_o42 (lT_51 29)
theorem dM_L_law_1662 : decode cM_L_law 1662 = .ok (.iload 4, 2) := dz_o21 (lT_51 30) (lT_51 31) (by decide +kernel)
theorem dM_L_law_1664 : decode cM_L_law 1664 = .ok (.iconst 1, 1) := dz_o4 (lT_52 0)
theorem dM_L_law_1665 : decode cM_L_law 1665 = .ok (.iadd, 1) := dz_o96 (lT_52 1)
theorem dM_L_law_1666 : decode cM_L_law 1666 = .ok (.iaload, 1) := dz_o46 (lT_52 2)
theorem dM_L_law_1667 : decode cM_L_law 1667 = .ok (.aload_n 0, 1) := dz_o42 (lT_52 3)
theorem dM_L_law_1668 : decode cM_L_law 1668 = .ok (.iload 4, 2) := dz_o21 (lT_52 4) (lT_52 5) (by decide +kernel)
theorem dM_L_law_1670 : decode cM_L_law 1670 = .ok (.iconst 2, 1) := dz_o5 (lT_52 6)
theorem dM_L_law_1671 : decode cM_L_law 1671 = .ok (.iadd, 1) := dz_o96 (lT_52 7)
theorem dM_L_law_1672 : decode cM_L_law 1672 = .ok (.iaload, 1) := dz_o46 (lT_52 8)
theorem dM_L_law_1673 : decode cM_L_law 1673 = .ok (.aload_n 3, 1) := dz_o45 (lT_52 9)
theorem dM_L_law_1674 : decode cM_L_law 1674 = .ok (.invokestatic 229, 3) := dz_o184 (lT_52 10) (lT_52 11) (lT_52 12) (by decide +kernel)
theorem wd_1359 : (Jvm.Cond.codeWith ({ cls := "NoteDocumentLaw", name := "tick", desc := "(LNoteDocument;II[J)I" } : Jvm.MethodName) method_21_code (5 : Nat) (Option.some Jvm.ClassFile.FieldType.int) [((0 : Nat), (10 : Nat), (13 : Nat), (13 : Nat)), ((0 : Nat), (10 : Nat), (17 : Nat), (15 : Nat))]) ∈ BIG := big_t (List.mem_of_getElem? (i := 1359) (by decide +kernel)) (by decide +kernel)
theorem wd_1357 : (Jvm.Cond.methodLink "NoteDocumentLaw" (229 : Nat) ({ cls := "NoteDocumentLaw", name := "tick", desc := "(LNoteDocument;II[J)I" } : Jvm.MethodName)) ∈ BIG := big_t (List.mem_of_getElem? (i := 1357) (by decide +kernel)) (by decide +kernel)
theorem wd_1358 : (Jvm.Cond.static ({ cls := "NoteDocumentLaw", name := "tick", desc := "(LNoteDocument;II[J)I" } : Jvm.MethodName)) ∈ BIG := big_t (List.mem_of_getElem? (i := 1358) (by decide +kernel)) (by decide +kernel)
theorem dM_L_law_1677 : decode cM_L_law 1677 = .ok (.istore 5, 2) := dz_o54 (lT_52 13) (lT_52 14) (by decide +kernel)
theorem dM_L_law_1679 : decode cM_L_law 1679 = .ok (.aload_n 2, 1) := dz_o44 (lT_52 15)
theorem dM_L_law_1680 : decode cM_L_law 1680 = .ok (.aload_n 0, 1) := dz_o42 (lT_52 16)
theorem dM_L_law_1681 : decode cM_L_law 1681 = .ok (.iload 4, 2) := dz_o21 (lT_52 17) (lT_52 18) (by decide +kernel)
theorem dM_L_law_1683 : decode cM_L_law 1683 = .ok (.iconst 1, 1) := dz_o4 (lT_52 19)
theorem dM_L_law_1684 : decode cM_L_law 1684 = .ok (.iadd, 1) := dz_o96 (lT_52 20)
theorem dM_L_law_1685 : decode cM_L_law 1685 = .ok (.iaload, 1) := dz_o46 (lT_52 21)
theorem dM_L_law_1686 : decode cM_L_law 1686 = .ok (.aload_n 0, 1) := dz_o42 (lT_52 22)
theorem dM_L_law_1687 : decode cM_L_law 1687 = .ok (.iload 4, 2) := dz_o21 (lT_52 23) (lT_52 24) (by decide +kernel)
theorem dM_L_law_1689 : decode cM_L_law 1689 = .ok (.iconst 2, 1) := dz_o5 (lT_52 25)
theorem dM_L_law_1690 : decode cM_L_law 1690 = .ok (.iadd, 1) := dz_o96 (lT_52 26)
theorem dM_L_law_1691 : decode cM_L_law 1691 = .ok (.iaload, 1) := dz_o46 (lT_52 27)
theorem dM_L_law_1692 : decode cM_L_law 1692 = .ok (.invokevirtual 231, 3) := dz_o182 (lT_52 28) (lT_52 29) (lT_52 30) (by decide +kernel)
theorem wd_2677 : (Jvm.Cond.code ({ cls := "NoteDocumentModel", name := "tick", desc := "(II)I" } : Jvm.MethodName) prog_13_method_42_code (3 : Nat) (Option.some Jvm.ClassFile.FieldType.int)) ∈ BIG := big_t (List.mem_of_getElem? (i := 2677) (by decide +kernel)) (by decide +kernel)
theorem wd_2674 : (Jvm.Cond.methodLink "NoteDocumentLaw" (231 : Nat) ({ cls := "NoteDocumentModel", name := "tick", desc := "(II)I" } : Jvm.MethodName)) ∈ BIG := big_t (List.mem_of_getElem? (i := 2674) (by decide +kernel)) (by decide +kernel)
theorem wd_2675 : (Jvm.Cond.instanceMethod ({ cls := "NoteDocumentModel", name := "tick", desc := "(II)I" } : Jvm.MethodName)) ∈ BIG := big_t (List.mem_of_getElem? (i := 2675) (by decide +kernel)) (by decide +kernel)
theorem wd_2676 : (Jvm.Cond.selects "NoteDocumentModel" ({ cls := "NoteDocumentModel", name := "tick", desc := "(II)I" } : Jvm.MethodName) ({ cls := "NoteDocumentModel", name := "tick", desc := "(II)I" } : Jvm.MethodName)) ∈ BIG := big_t (List.mem_of_getElem? (i := 2676) (by decide +kernel)) (by decide +kernel)
theorem dM_L_law_1695 : decode cM_L_law 1695 = .ok (.istore 6, 2) := dz_o54 (lT_52 31) (lT_53 0) (by decide +kernel)
theorem dM_L_law_1697 : decode cM_L_law 1697 = .ok (.aload_n 2, 1) := dz_o44 (lT_53 1)
theorem dM_L_law_1698 : decode cM_L_law 1698 = .ok (.invokevirtual 158, 3) := dz_o182 (lT_53 2) (lT_53 3) (lT_53 4) (by decide +kernel)
theorem dM_L_law_1701 : decode cM_L_law 1701 = .ok (.iload 5, 2) := dz_o21 (lT_53 5) (lT_53 6) (by decide +kernel)
theorem dM_L_law_1703 : decode cM_L_law 1703 = .ok (.if_icmp .eq 5, 3) := dz_o159 (lT_53 7) (lT_53 8) (lT_53 9) (by decide +kernel)
theorem dM_L_law_1708 : decode cM_L_law 1708 = .ok (.iload 5, 2) := dz_o21 (lT_53 12) (lT_53 13) (by decide +kernel)
theorem dM_L_law_1710 : decode cM_L_law 1710 = .ok (.ifCond .ne 15, 3) := dz_o154 (lT_53 14) (lT_53 15) (lT_53 16) (by decide +kernel)
theorem dM_L_law_1713 : decode cM_L_law 1713 = .ok (.aload_n 3, 1) := dz_o45 (lT_53 17)
theorem dM_L_law_1714 : decode cM_L_law 1714 = .ok (.iconst 0, 1) := dz_o3 (lT_53 18)
theorem dM_L_law_1715 : decode cM_L_law 1715 = .ok (.laload, 1) := dz_o47 (lT_53 19)
theorem dM_L_law_1716 : decode cM_L_law 1716 = .ok (.iload 6, 2) := dz_o21 (lT_53 20) (lT_53 21) (by decide +kernel)
theorem dM_L_law_1718 : decode cM_L_law 1718 = .ok (.i2l, 1) := dz_o133 (lT_53 22)
theorem dM_L_law_1719 : decode cM_L_law 1719 = .ok (.lcmp, 1) := dz_o148 (lT_53 23)
theorem dM_L_law_1720 : decode cM_L_law 1720 = .ok (.ifCond .eq 5, 3) := dz_o153 (lT_53 24) (lT_53 25) (lT_53 26) (by decide +kernel)
theorem dM_L_law_1725 : decode cM_L_law 1725 = .ok (.goto 1685, 3) := dz_o167 (lT_53 29) (lT_53 30) (lT_53 31) (by decide +kernel)
theorem dM_L_law_1728 : decode cM_L_law 1728 = .ok (.aload_n 1, 1) := dz_o43 (lT_54 0)
theorem dM_L_law_1729 : decode cM_L_law 1729 = .ok (.aload_n 0, 1) := dz_o42 (lT_54 1)
theorem dM_L_law_1730 : decode cM_L_law 1730 = .ok (.iload 4, 2) := dz_o21 (lT_54 2) (lT_54 3) (by decide +kernel)
theorem dM_L_law_1732 : decode cM_L_law 1732 = .ok (.iconst 1, 1) := dz_o4 (lT_54 4)
theorem dM_L_law_1733 : decode cM_L_law 1733 = .ok (.iadd, 1) := dz_o96 (lT_54 5)
theorem dM_L_law_1734 : decode cM_L_law 1734 = .ok (.iaload, 1) := dz_o46 (lT_54 6)
theorem dM_L_law_1735 : decode cM_L_law 1735 = .ok (.aload_n 3, 1) := dz_o45 (lT_54 7)
theorem dM_L_law_1736 : decode cM_L_law 1736 = .ok (.invokestatic 232, 3) := dz_o184 (lT_54 8) (lT_54 9) (lT_54 10) (by decide +kernel)
theorem wd_1369 : (Jvm.Cond.codeWith ({ cls := "NoteDocumentLaw", name := "setWay", desc := "(LNoteDocument;I[J)I" } : Jvm.MethodName) method_22_code (4 : Nat) (Option.some Jvm.ClassFile.FieldType.int) [((0 : Nat), (9 : Nat), (12 : Nat), (13 : Nat))]) ∈ BIG := big_t (List.mem_of_getElem? (i := 1369) (by decide +kernel)) (by decide +kernel)
theorem wd_1367 : (Jvm.Cond.methodLink "NoteDocumentLaw" (232 : Nat) ({ cls := "NoteDocumentLaw", name := "setWay", desc := "(LNoteDocument;I[J)I" } : Jvm.MethodName)) ∈ BIG := big_t (List.mem_of_getElem? (i := 1367) (by decide +kernel)) (by decide +kernel)
theorem wd_1368 : (Jvm.Cond.static ({ cls := "NoteDocumentLaw", name := "setWay", desc := "(LNoteDocument;I[J)I" } : Jvm.MethodName)) ∈ BIG := big_t (List.mem_of_getElem? (i := 1368) (by decide +kernel)) (by decide +kernel)
theorem dM_L_law_1739 : decode cM_L_law 1739 = .ok (.istore 5, 2) := dz_o54 (lT_54 11) (lT_54 12) (by decide +kernel)
theorem dM_L_law_1741 : decode cM_L_law 1741 = .ok (.aload_n 2, 1) := dz_o44 (lT_54 13)
theorem dM_L_law_1742 : decode cM_L_law 1742 = .ok (.aload_n 0, 1) := dz_o42 (lT_54 14)
theorem dM_L_law_1743 : decode cM_L_law 1743 = .ok (.iload 4, 2) := dz_o21 (lT_54 15) (lT_54 16) (by decide +kernel)
theorem dM_L_law_1745 : decode cM_L_law 1745 = .ok (.iconst 1, 1) := dz_o4 (lT_54 17)
theorem dM_L_law_1746 : decode cM_L_law 1746 = .ok (.iadd, 1) := dz_o96 (lT_54 18)
theorem dM_L_law_1747 : decode cM_L_law 1747 = .ok (.iaload, 1) := dz_o46 (lT_54 19)
theorem dM_L_law_1748 : decode cM_L_law 1748 = .ok (.invokevirtual 234, 3) := dz_o182 (lT_54 20) (lT_54 21) (lT_54 22) (by decide +kernel)
theorem wd_2682 : (Jvm.Cond.code ({ cls := "NoteDocumentModel", name := "setWay", desc := "(I)I" } : Jvm.MethodName) prog_13_method_43_code (3 : Nat) (Option.some Jvm.ClassFile.FieldType.int)) ∈ BIG := big_t (List.mem_of_getElem? (i := 2682) (by decide +kernel)) (by decide +kernel)
theorem wd_2679 : (Jvm.Cond.methodLink "NoteDocumentLaw" (234 : Nat) ({ cls := "NoteDocumentModel", name := "setWay", desc := "(I)I" } : Jvm.MethodName)) ∈ BIG := big_t (List.mem_of_getElem? (i := 2679) (by decide +kernel)) (by decide +kernel)
theorem wd_2680 : (Jvm.Cond.instanceMethod ({ cls := "NoteDocumentModel", name := "setWay", desc := "(I)I" } : Jvm.MethodName)) ∈ BIG := big_t (List.mem_of_getElem? (i := 2680) (by decide +kernel)) (by decide +kernel)
theorem wd_2681 : (Jvm.Cond.selects "NoteDocumentModel" ({ cls := "NoteDocumentModel", name := "setWay", desc := "(I)I" } : Jvm.MethodName) ({ cls := "NoteDocumentModel", name := "setWay", desc := "(I)I" } : Jvm.MethodName)) ∈ BIG := big_t (List.mem_of_getElem? (i := 2681) (by decide +kernel)) (by decide +kernel)
theorem dM_L_law_1751 : decode cM_L_law 1751 = .ok (.istore 6, 2) := dz_o54 (lT_54 23) (lT_54 24) (by decide +kernel)
theorem dM_L_law_1753 : decode cM_L_law 1753 = .ok (.aload_n 2, 1) := dz_o44 (lT_54 25)
theorem dM_L_law_1754 : decode cM_L_law 1754 = .ok (.invokevirtual 158, 3) := dz_o182 (lT_54 26) (lT_54 27) (lT_54 28) (by decide +kernel)
theorem dM_L_law_1757 : decode cM_L_law 1757 = .ok (.iload 5, 2) := dz_o21 (lT_54 29) (lT_54 30) (by decide +kernel)
theorem dM_L_law_1759 : decode cM_L_law 1759 = .ok (.if_icmp .eq 5, 3) := dz_o159 (lT_54 31) (lT_55 0) (lT_55 1) (by decide +kernel)
theorem dM_L_law_1764 : decode cM_L_law 1764 = .ok (.iload 5, 2) := dz_o21 (lT_55 4) (lT_55 5) (by decide +kernel)
theorem dM_L_law_1766 : decode cM_L_law 1766 = .ok (.ifCond .ne 15, 3) := dz_o154 (lT_55 6) (lT_55 7) (lT_55 8) (by decide +kernel)
theorem dM_L_law_1769 : decode cM_L_law 1769 = .ok (.aload_n 3, 1) := dz_o45 (lT_55 9)
theorem dM_L_law_1770 : decode cM_L_law 1770 = .ok (.iconst 0, 1) := dz_o3 (lT_55 10)
theorem dM_L_law_1771 : decode cM_L_law 1771 = .ok (.laload, 1) := dz_o47 (lT_55 11)
theorem dM_L_law_1772 : decode cM_L_law 1772 = .ok (.iload 6, 2) := dz_o21 (lT_55 12) (lT_55 13) (by decide +kernel)
theorem dM_L_law_1774 : decode cM_L_law 1774 = .ok (.i2l, 1) := dz_o133 (lT_55 14)
theorem dM_L_law_1775 : decode cM_L_law 1775 = .ok (.lcmp, 1) := dz_o148 (lT_55 15)
theorem dM_L_law_1776 : decode cM_L_law 1776 = .ok (.ifCond .eq 5, 3) := dz_o153 (lT_55 16) (lT_55 17) (lT_55 18) (by decide +kernel)
theorem dM_L_law_1781 : decode cM_L_law 1781 = .ok (.goto 1629, 3) := dz_o167 (lT_55 21) (lT_55 22) (lT_55 23) (by decide +kernel)
theorem dM_L_law_1784 : decode cM_L_law 1784 = .ok (.aload_n 1, 1) := dz_o43 (lT_55 24)
theorem dM_L_law_1785 : decode cM_L_law 1785 = .ok (.invokevirtual 235, 3) := dz_o182 (lT_55 25) (lT_55 26) (lT_55 27) (by decide +kernel)
theorem wd_501 : (Jvm.Cond.code ({ cls := "NoteDocument", name := "calculate", desc := "()I" } : Jvm.MethodName) prog_1_method_23_code (2 : Nat) (Option.some Jvm.ClassFile.FieldType.int)) ∈ BIG := big_t (List.mem_of_getElem? (i := 501) (by decide +kernel)) (by decide +kernel)
theorem wd_498 : (Jvm.Cond.methodLink "NoteDocumentLaw" (235 : Nat) ({ cls := "NoteDocument", name := "calculate", desc := "()I" } : Jvm.MethodName)) ∈ BIG := big_t (List.mem_of_getElem? (i := 498) (by decide +kernel)) (by decide +kernel)
theorem wd_499 : (Jvm.Cond.instanceMethod ({ cls := "NoteDocument", name := "calculate", desc := "()I" } : Jvm.MethodName)) ∈ BIG := big_t (List.mem_of_getElem? (i := 499) (by decide +kernel)) (by decide +kernel)
theorem wd_500 : (Jvm.Cond.selects "NoteDocument" ({ cls := "NoteDocument", name := "calculate", desc := "()I" } : Jvm.MethodName) ({ cls := "NoteDocument", name := "calculate", desc := "()I" } : Jvm.MethodName)) ∈ BIG := big_t (List.mem_of_getElem? (i := 500) (by decide +kernel)) (by decide +kernel)
theorem dM_L_law_1788 : decode cM_L_law 1788 = .ok (.aload_n 2, 1) := dz_o44 (lT_55 28)
theorem dM_L_law_1789 : decode cM_L_law 1789 = .ok (.invokevirtual 238, 3) := dz_o182 (lT_55 29) (lT_55 30) (lT_55 31) (by decide +kernel)
theorem wd_2686 : (Jvm.Cond.code ({ cls := "NoteDocumentModel", name := "calculate", desc := "()I" } : Jvm.MethodName) prog_13_method_44_code (2 : Nat) (Option.some Jvm.ClassFile.FieldType.int)) ∈ BIG := big_t (List.mem_of_getElem? (i := 2686) (by decide +kernel)) (by decide +kernel)
theorem wd_2683 : (Jvm.Cond.methodLink "NoteDocumentLaw" (238 : Nat) ({ cls := "NoteDocumentModel", name := "calculate", desc := "()I" } : Jvm.MethodName)) ∈ BIG := big_t (List.mem_of_getElem? (i := 2683) (by decide +kernel)) (by decide +kernel)
theorem wd_2684 : (Jvm.Cond.instanceMethod ({ cls := "NoteDocumentModel", name := "calculate", desc := "()I" } : Jvm.MethodName)) ∈ BIG := big_t (List.mem_of_getElem? (i := 2684) (by decide +kernel)) (by decide +kernel)
theorem wd_2685 : (Jvm.Cond.selects "NoteDocumentModel" ({ cls := "NoteDocumentModel", name := "calculate", desc := "()I" } : Jvm.MethodName) ({ cls := "NoteDocumentModel", name := "calculate", desc := "()I" } : Jvm.MethodName)) ∈ BIG := big_t (List.mem_of_getElem? (i := 2685) (by decide +kernel)) (by decide +kernel)
theorem dM_L_law_1792 : decode cM_L_law 1792 = .ok (.if_icmp .eq 1618, 3) := dz_o159 (lT_56 0) (lT_56 1) (lT_56 2) (by decide +kernel)
set_option maxHeartbeats 4000000 in
set_option maxRecDepth 100000 in
theorem lawc_0 {p : Program} {e : Env} {s : State} {m : MethodId} {below : List Frame} {meth : Method} {c : Code} {Z : State → Prop} (l : Launch) (hl9 : l.stackTraces = false) (dC : Nat → ClassId) (dI : Nat → Nat → Nat) {A : Nat → Prop} {b L : Nat} {xs : Nat → Int32} (hL : L = 8) (hx : p.tables.exec = Jvm.exec) (hb : c.code = cM_L_law) (hml : c.maxLocals = 8) (hown : s.vm.findClass "NoteDocumentLaw" = some m.cls) (hbg : ∀ w ∈ BIG, w.before #[Value.ref b] s = true) (hK : nK (dC, dI) s) (hN : nS A s s.heap) (hA : ∀ q : Nat, s.heap.size ≤ q → A q) (hX : va_X b L xs s s.heap) (hbl : b < s.heap.size) (hbA : ¬ A b) {H : Heap} {locs : List Loc} {ls : Array Slot} {h0 : Nat} {m0 : Nat} {ou : Nat} {st : Nat} {v1 : Value} {v2 : Value} {v3 : Value} {v4 : Value} {v5 : Value} {v6 : Value} {v7 : Value} {v8 : Value} {v9 : Value} {v10 : Value} {a_columns : Nat} {a_rows : Nat} {a_content : Nat} {a_held : Nat} {a_other : Nat} {a_named : Nat} {a_body : Nat} {a_parts : Nat} {a_partCount : Nat} {a_refRow : Nat} {a_refColumn : Nat} {a_refToRow : Nat} {a_torn : Nat} {a_record : Nat} {g_rows : Nat → Int32} {g_columns : Nat → Int32} {f0 : Nat → Int64} {nw : Nat} {z1 : Value} {z2 : Value} {z3 : Value} {z4 : Value} {z5 : Value} {z6 : Value} {z7 : Value} {z8 : Value} {z9 : Value} {z10 : Value} {z11 : Value} {z12 : Value} {z13 : Value} {z14 : Value} {z15 : Value} {z16 : Value} {b_rows : Nat} {b_columns : Nat} {t3 : Value} {t4 : Value} {t5 : Value} {t6 : Value} {t7 : Value} {t8 : Value} {t9 : Value} {t10 : Value} {t11 : Value} {t12 : Value} {t13 : Value} {t14 : Value} {t15 : Value} {t16 : Value} {t17 : Value} {t18 : Value} {t19 : Value} {t20 : Value} {t21 : Value} {f_rows : Nat → Int32} {f_columns : Nat → Int32} (hP : va_P (dC, dI) classes [(h0, .inr (0, [.ref st, v1, v2, v3, v4, v5, v6, v7, v8, v9, v10])), (st, .inr (8, [.int 0, .int 0, .int 0, .ref a_columns, .ref a_rows, .ref a_content, .ref a_held, .ref a_other, .ref a_named, .ref a_body, .ref a_parts, .ref a_partCount, .ref a_refRow, .ref a_refColumn, .ref a_refToRow, .ref a_torn, .ref a_record, .int 0, .int 0, .int 0])), (a_rows, .inl (dC 100, 4, .inl g_rows)), (a_columns, .inl (dC 100, 4, .inl g_columns)), (ou, .inl (dC 101, 1, .inr (.inl f0))), (m0, .inr (10, [.ref nw, z1, z2, z3, z4, z5, z6, z7, z8, z9, z10, z11, z12, z13, z14, z15, z16])), (nw, .inr (12, [.ref b_rows, .ref b_columns, .int 0, t3, t4, t5, t6, t7, t8, t9, t10, t11, t12, t13, t14, t15, t16, t17, t18, t19, t20, t21])), (b_rows, .inl (dC 100, 4, .inl f_rows)), (b_columns, .inl (dC 100, 4, .inl f_columns))] H) (hD : va_D A [(h0, .inr (0, [.ref st, v1, v2, v3, v4, v5, v6, v7, v8, v9, v10])), (st, .inr (8, [.int 0, .int 0, .int 0, .ref a_columns, .ref a_rows, .ref a_content, .ref a_held, .ref a_other, .ref a_named, .ref a_body, .ref a_parts, .ref a_partCount, .ref a_refRow, .ref a_refColumn, .ref a_refToRow, .ref a_torn, .ref a_record, .int 0, .int 0, .int 0])), (a_rows, .inl (dC 100, 4, .inl g_rows)), (a_columns, .inl (dC 100, 4, .inl g_columns)), (ou, .inl (dC 101, 1, .inr (.inl f0))), (m0, .inr (10, [.ref nw, z1, z2, z3, z4, z5, z6, z7, z8, z9, z10, z11, z12, z13, z14, z15, z16])), (nw, .inr (12, [.ref b_rows, .ref b_columns, .int 0, t3, t4, t5, t6, t7, t8, t9, t10, t11, t12, t13, t14, t15, t16, t17, t18, t19, t20, t21])), (b_rows, .inl (dC 100, 4, .inl f_rows)), (b_columns, .inl (dC 100, 4, .inl f_columns))]) (hS : va_S A s.heap H locs) (hl : lv_has ls 8 [(0, .ref b), (1, .ref h0), (2, .ref m0), (3, .ref ou), (4, .int 0)]) (hend : ∀ (H : Heap) (locs : List Loc) (ls : Array Slot), va_S A s.heap H locs → lv_has ls 8 [(4, .int 0), (0, .ref b)] → W p l e room_1 s m #[Value.ref b] below meth c H locs 600002 7302232 Z (F0 m 3410 ls [])) : W p l e room_1 s m #[Value.ref b] below meth c H locs 403 120029 Z (F0 m 228 ls []) := by
  subst hL
  refine lv_aload_n hx hb dM_L_law_228 rfl (lv_at hl 1 rfl) ?_
  refine lv_aload_n hx hb dM_L_law_229 rfl (lv_at hl 0 rfl) ?_
  refine lv_iload hx hb dM_L_law_230 (lv_at hl 4 rfl) ?_
  refine lv_iconst (v := 1) hx hb dM_L_law_232 (by decide) ?_
  refine lv_iadd hx hb dM_L_law_233 ?_
  refine lv_topi (fun y_1 ey_1 => ?_)
  obtain rfl : y_1 = 1 := ey_1.trans (by decide)
  refine va_sld hx hb hX hbl hbA hS (by unfold vp_in; decide) dM_L_law_234 ?_
  refine lv_topi (fun y_2 ey_2 => ?_)
  refine lv_aload_n hx hb dM_L_law_235 rfl (lv_at hl 0 rfl) ?_
  refine lv_iload hx hb dM_L_law_236 (lv_at hl 4 rfl) ?_
  refine lv_iconst (v := 2) hx hb dM_L_law_238 (by decide) ?_
  refine lv_iadd hx hb dM_L_law_239 ?_
  refine lv_topi (fun y_3 ey_3 => ?_)
  obtain rfl : y_3 = 2 := ey_3.trans (by decide)
  refine va_sld hx hb hX hbl hbA hS (by unfold vp_in; decide) dM_L_law_240 ?_
  refine lv_topi (fun y_4 ey_4 => ?_)
  refine lv_aload_n hx hb dM_L_law_241 rfl (lv_at hl 3 rfl) ?_
  have hFc := va_free (wc := [(h0, .inr (0, [.ref st, v1, v2, v3, v4, v5, v6, v7, v8, v9, v10])), (st, .inr (8, [.int 0, .int 0, .int 0, .ref a_columns, .ref a_rows, .ref a_content, .ref a_held, .ref a_other, .ref a_named, .ref a_body, .ref a_parts, .ref a_partCount, .ref a_refRow, .ref a_refColumn, .ref a_refToRow, .ref a_torn, .ref a_record, .int 0, .int 0, .int 0])), (a_rows, .inl (dC 100, 4, .inl g_rows)), (a_columns, .inl (dC 100, 4, .inl g_columns)), (ou, .inl (dC 101, 1, .inr (.inl f0)))]) hD hS hA [0, 1, 2, 3, 4] rfl
  refine va_calli (vx_runSW (As := [.ref h0, .int y_2, .int y_4, .ref ou]) (rest := []) ⟨hx, hb, hml, hown, hbg⟩ (c_L_grid l hl9 dC dI h0 y_2 y_4 ou st v1 v2 v3 v4 v5 v6 v7 v8 v9 v10 a_columns a_rows a_content a_held a_other a_named a_body a_parts a_partCount a_refRow a_refColumn a_refToRow a_torn a_record g_rows g_columns f0 _ ) (vx_cwSW 4 hbg (gd_S (fun _ h => h) wd_1020 wd_1021 wd_0 (gd_wmW (fun _ h => h) wd_1022)) rfl rfl rfl (by decide +kernel) ⟨Nat.le_of_ble_eq_true rfl, Nat.le_of_ble_eq_true rfl⟩) (nPreS [0, 1, 2, 3, 4] hP hD hK hN hS hA (by decide) rfl) rfl rfl hl.1 rfl (lv_room (Nat.le_of_ble_eq_true rfl)) dM_L_law_242 ⟨Nat.le_of_ble_eq_true rfl, Nat.le_of_ble_eq_true rfl⟩) hS (fun q _ h => hFc q h) hFc (fun r_5 u t H1 locs ht hvm hw hB hz1 hk1 hS => ?_)
  rcases hw with ⟨c_6, rfl, rfl⟩ | ⟨c_7, rfl, hu_8⟩
  · --
    obtain ⟨hP1, hD1⟩ := hB
    rw [ht] at hP1
    obtain ⟨hP, hD⟩ := va_join (wr := [(m0, .inr (10, [.ref nw, z1, z2, z3, z4, z5, z6, z7, z8, z9, z10, z11, z12, z13, z14, z15, z16])), (nw, .inr (12, [.ref b_rows, .ref b_columns, .int 0, t3, t4, t5, t6, t7, t8, t9, t10, t11, t12, t13, t14, t15, t16, t17, t18, t19, t20, t21])), (b_rows, .inl (dC 100, 4, .inl f_rows)), (b_columns, .inl (dC 100, 4, .inl f_columns))]) (w1 := [(ou, .inl (dC 101, 1, .inr (.inl (vp_updL f0 (0 : Int32).toNatClampNeg 0))))]) hP hD [0, 1, 2, 3, 4] [5, 6, 7, 8] rfl rfl (by decide) (by decide) hk1 hFc hP1 hD1
    generalize H1 = H at hP hS ⊢
    have hP : va_P (dC, dI) classes [(m0, .inr (10, [.ref nw, z1, z2, z3, z4, z5, z6, z7, z8, z9, z10, z11, z12, z13, z14, z15, z16])), (nw, .inr (12, [.ref b_rows, .ref b_columns, .int 0, t3, t4, t5, t6, t7, t8, t9, t10, t11, t12, t13, t14, t15, t16, t17, t18, t19, t20, t21])), (b_rows, .inl (dC 100, 4, .inl f_rows)), (b_columns, .inl (dC 100, 4, .inl f_columns)), (ou, .inl (dC 101, 1, .inr (.inl (vp_updL f0 (0 : Int32).toNatClampNeg 0))))] H := hP
    have hD : va_D A [(m0, .inr (10, [.ref nw, z1, z2, z3, z4, z5, z6, z7, z8, z9, z10, z11, z12, z13, z14, z15, z16])), (nw, .inr (12, [.ref b_rows, .ref b_columns, .int 0, t3, t4, t5, t6, t7, t8, t9, t10, t11, t12, t13, t14, t15, t16, t17, t18, t19, t20, t21])), (b_rows, .inl (dC 100, 4, .inl f_rows)), (b_columns, .inl (dC 100, 4, .inl f_columns)), (ou, .inl (dC 101, 1, .inr (.inl (vp_updL f0 (0 : Int32).toNatClampNeg 0))))] := hD
    refine W.widen (k := 404) (n := 120035) (Nat.le_of_ble_eq_true rfl) (Nat.le_of_ble_eq_true rfl) ?_
    refine lv_istore (lv' := [(5, .int 0), (0, .ref b), (1, .ref h0), (2, .ref m0), (3, .ref ou), (4, .int 0)]) hx hb dM_L_law_245 hl (by decide) rfl (fun ls hl => ?_)
    refine lv_aload_n hx hb dM_L_law_247 rfl (lv_at hl 3 rfl) ?_
    refine lv_aload_n hx hb dM_L_law_248 rfl (lv_at hl 1 rfl) ?_
    refine lv_iload hx hb dM_L_law_249 (lv_at hl 5 rfl) ?_
    refine lv_iconst (v := 1) hx hb dM_L_law_251 (by decide) ?_
    refine lv_iadd hx hb dM_L_law_252 ?_
    refine lv_topi (fun y_9 ey_9 => ?_)
    obtain rfl : y_9 = 1 := ey_9.trans (by decide)
    refine va_sld hx hb hX hbl hbA hS (by unfold vp_in; decide) dM_L_law_253 ?_
    refine lv_topi (fun y_10 ey_10 => ?_)
    obtain rfl : y_2 = y_10 := ey_2.trans ey_10.symm
    refine lv_aload_n hx hb dM_L_law_254 rfl (lv_at hl 1 rfl) ?_
    refine lv_iload hx hb dM_L_law_255 (lv_at hl 5 rfl) ?_
    refine lv_iconst (v := 2) hx hb dM_L_law_257 (by decide) ?_
    refine lv_iadd hx hb dM_L_law_258 ?_
    refine lv_topi (fun y_11 ey_11 => ?_)
    obtain rfl : y_11 = 2 := ey_11.trans (by decide)
    refine va_sld hx hb hX hbl hbA hS (by unfold vp_in; decide) dM_L_law_259 ?_
    refine lv_topi (fun y_12 ey_12 => ?_)
    obtain rfl : y_4 = y_12 := ey_4.trans ey_12.symm
    have hFc := va_free (wc := [(m0, .inr (10, [.ref nw, z1, z2, z3, z4, z5, z6, z7, z8, z9, z10, z11, z12, z13, z14, z15, z16])), (nw, .inr (12, [.ref b_rows, .ref b_columns, .int 0, t3, t4, t5, t6, t7, t8, t9, t10, t11, t12, t13, t14, t15, t16, t17, t18, t19, t20, t21])), (b_rows, .inl (dC 100, 4, .inl f_rows)), (b_columns, .inl (dC 100, 4, .inl f_columns))]) hD hS hA [0, 1, 2, 3] rfl
    refine va_calli (va_runV (As := [.int y_2, .int y_4]) (rest := []) ⟨hx, hb, hml, hown, hbg⟩ (c_M_grid l dC dI m0 y_2 y_4 nw z1 z2 z3 z4 z5 z6 z7 z8 z9 z10 z11 z12 z13 z14 z15 z16 b_rows b_columns t3 t4 t5 t6 t7 t8 t9 t10 t11 t12 t13 t14 t15 t16 t17 t18 t19 t20 t21 f_rows f_columns _ ) (cwV 2 hbg (gd_V (fun _ h => h) wd_2194 wd_2195 wd_2196 wd_12 (gd_wm (fun _ h => h) wd_2197)) rfl rfl rfl (by decide +kernel) ⟨Nat.le_of_ble_eq_true rfl, Nat.le_of_ble_eq_true rfl⟩) (nPreV [0, 1, 2, 3] hP hD hK hN hS hA (by decide) rfl 0 rfl rfl) rfl rfl hl.1 rfl (lv_room (Nat.le_of_ble_eq_true rfl)) dM_L_law_260 ⟨Nat.le_of_ble_eq_true rfl, Nat.le_of_ble_eq_true rfl⟩) hS (fun q _ h => hFc q h) hFc (fun r_13 u t H1 locs ht hvm hw hB hz1 hk1 hS => ?_)
    rcases hw with ⟨c_14, rfl, rfl⟩ | ⟨c_15, rfl, rfl⟩
    · --
      obtain ⟨r0_16, r1_17, r2_18, r3_19, r4_20, r5_21, r6_22, r7_23, r8_24, r9_25, r10_26, r11_27, r12_28, r13_29, r14_30, r15_31, hP1, hD1⟩ := hB
      rw [ht] at hP1
      obtain ⟨hP, hD⟩ := va_join (wr := [(ou, .inl (dC 101, 1, .inr (.inl (vp_updL f0 (0 : Int32).toNatClampNeg 0))))]) (w1 := [(m0, .inr (10, [r0_16, r1_17, r2_18, r3_19, r4_20, r5_21, r6_22, r7_23, r8_24, r9_25, r10_26, r11_27, r12_28, r13_29, r14_30, r15_31, .int 0]))]) hP hD [0, 1, 2, 3] [4] rfl rfl (by decide) (by decide) hk1 hFc hP1 hD1
      generalize H1 = H at hP hS ⊢
      have hP : va_P (dC, dI) classes [(ou, .inl (dC 101, 1, .inr (.inl (vp_updL f0 (0 : Int32).toNatClampNeg 0)))), (m0, .inr (10, [r0_16, r1_17, r2_18, r3_19, r4_20, r5_21, r6_22, r7_23, r8_24, r9_25, r10_26, r11_27, r12_28, r13_29, r14_30, r15_31, .int 0]))] H := hP
      have hD : va_D A [(ou, .inl (dC 101, 1, .inr (.inl (vp_updL f0 (0 : Int32).toNatClampNeg 0)))), (m0, .inr (10, [r0_16, r1_17, r2_18, r3_19, r4_20, r5_21, r6_22, r7_23, r8_24, r9_25, r10_26, r11_27, r12_28, r13_29, r14_30, r15_31, .int 0]))] := hD
      refine W.widen (k := 404) (n := 120035) (Nat.le_of_ble_eq_true rfl) (Nat.le_of_ble_eq_true rfl) ?_
      refine lv_istore (lv' := [(6, .int 0), (5, .int 0), (0, .ref b), (1, .ref h0), (2, .ref m0), (3, .ref ou), (4, .int 0)]) hx hb dM_L_law_263 hl (by decide) rfl (fun ls hl => ?_)
      refine lv_aload_n hx hb dM_L_law_265 rfl (lv_at hl 4 rfl) ?_
      have hFc := va_free (wc := [(m0, .inr (10, [r0_16, r1_17, r2_18, r3_19, r4_20, r5_21, r6_22, r7_23, r8_24, r9_25, r10_26, r11_27, r12_28, r13_29, r14_30, r15_31, .int 0]))]) hD hS hA [1] rfl
      refine va_calli (va_runV (As := []) (rest := []) ⟨hx, hb, hml, hown, hbg⟩ (c_M_thrown l dC dI m0 r0_16 r1_17 r2_18 r3_19 r4_20 r5_21 r6_22 r7_23 r8_24 r9_25 r10_26 r11_27 r12_28 r13_29 r14_30 r15_31 0 _ ) (cwV 0 hbg (gd_V (fun _ h => h) wd_2190 wd_2191 wd_2192 wd_12 (gd_wm (fun _ h => h) wd_2193)) rfl rfl rfl (by decide +kernel) ⟨Nat.le_of_ble_eq_true rfl, Nat.le_of_ble_eq_true rfl⟩) (nPreV [1] hP hD hK hN hS hA (by decide) rfl 1 rfl rfl) rfl rfl hl.1 rfl (lv_room (Nat.le_of_ble_eq_true rfl)) dM_L_law_266 ⟨Nat.le_of_ble_eq_true rfl, Nat.le_of_ble_eq_true rfl⟩) hS (fun q _ h => hFc q h) hFc (fun r_32 u t H1 locs ht hvm hw hB hz1 hk1 hS => ?_)
      obtain ⟨rfl, rfl⟩ := hw
      obtain ⟨r0_34, r1_35, r2_36, r3_37, r4_38, r5_39, r6_40, r7_41, r8_42, r9_43, r10_44, r11_45, r12_46, r13_47, r14_48, r15_49, hP1, hD1⟩ := hB
      rw [ht] at hP1
      obtain ⟨hP, hD⟩ := va_join (wr := [(ou, .inl (dC 101, 1, .inr (.inl (vp_updL f0 (0 : Int32).toNatClampNeg 0))))]) (w1 := [(m0, .inr (10, [r0_34, r1_35, r2_36, r3_37, r4_38, r5_39, r6_40, r7_41, r8_42, r9_43, r10_44, r11_45, r12_46, r13_47, r14_48, r15_49, .int 0]))]) hP hD [1] [0] rfl rfl (by decide) (by decide) hk1 hFc hP1 hD1
      generalize H1 = H at hP hS ⊢
      have hP : va_P (dC, dI) classes [(ou, .inl (dC 101, 1, .inr (.inl (vp_updL f0 (0 : Int32).toNatClampNeg 0)))), (m0, .inr (10, [r0_34, r1_35, r2_36, r3_37, r4_38, r5_39, r6_40, r7_41, r8_42, r9_43, r10_44, r11_45, r12_46, r13_47, r14_48, r15_49, .int 0]))] H := hP
      have hD : va_D A [(ou, .inl (dC 101, 1, .inr (.inl (vp_updL f0 (0 : Int32).toNatClampNeg 0)))), (m0, .inr (10, [r0_34, r1_35, r2_36, r3_37, r4_38, r5_39, r6_40, r7_41, r8_42, r9_43, r10_44, r11_45, r12_46, r13_47, r14_48, r15_49, .int 0]))] := hD
      refine W.widen (k := 404) (n := 120035) (Nat.le_of_ble_eq_true rfl) (Nat.le_of_ble_eq_true rfl) ?_
      refine lv_iload hx hb dM_L_law_269 (lv_at hl 1 rfl) ?_
      refine lv_icmp_eq (tgt := 276) hx hb dM_L_law_271 (by decide) (fun _ => ?_) (fun q => absurd (by decide) q)
      refine lv_iload hx hb dM_L_law_276 (lv_at hl 1 rfl) ?_
      refine lv_if_ne (tgt := 293) hx hb dM_L_law_278 (by decide) (fun q => absurd (by decide) q) (fun _ => ?_)
      refine lv_aload_n hx hb dM_L_law_281 rfl (lv_at hl 5 rfl) ?_
      refine lv_iconst (v := 0) hx hb dM_L_law_282 (by decide) ?_
      refine va_lald hx hb hK.1 hP 0 1 rfl rfl (by unfold vp_in; decide) dM_L_law_283 ?_
      rw [pk_uLs]
      refine lv_iload hx hb dM_L_law_284 (lv_at hl 0 rfl) ?_
      refine lv_i2l (v := 0) hx hb dM_L_law_286 (by decide) ?_
      refine W.lcmp hx hb dM_L_law_287 ?_
      refine lv_topi (fun y_50 ey_50 => ?_)
      obtain rfl : y_50 = 0 := ey_50.trans (by decide)
      refine lv_if_eq (tgt := 293) hx hb dM_L_law_288 (by decide) (fun _ => ?_) (fun q => absurd (by decide) q)
      refine lv_goto (tgt := 3410) hx hb dM_L_law_293 (by decide) ?_
      refine W.widen (k := 600002) (n := 7302232) (Nat.le_of_ble_eq_true rfl) (Nat.le_of_ble_eq_true rfl) ?_
      exact hend _ _ _ hS (lv_sub hl [6, 2] rfl)
    · --
      exact absurd c_6 c_15
  · --
    obtain rfl := hu_8.symm
    obtain ⟨hP1, hD1⟩ := hB
    rw [ht] at hP1
    obtain ⟨hP, hD⟩ := va_join (wr := [(m0, .inr (10, [.ref nw, z1, z2, z3, z4, z5, z6, z7, z8, z9, z10, z11, z12, z13, z14, z15, z16])), (nw, .inr (12, [.ref b_rows, .ref b_columns, .int 0, t3, t4, t5, t6, t7, t8, t9, t10, t11, t12, t13, t14, t15, t16, t17, t18, t19, t20, t21])), (b_rows, .inl (dC 100, 4, .inl f_rows)), (b_columns, .inl (dC 100, 4, .inl f_columns))]) (w1 := [(ou, .inl (dC 101, 1, .inr (.inl f0)))]) hP hD [0, 1, 2, 3, 4] [5, 6, 7, 8] rfl rfl (by decide) (by decide) hk1 hFc hP1 hD1
    generalize H1 = H at hP hS ⊢
    have hP : va_P (dC, dI) classes [(m0, .inr (10, [.ref nw, z1, z2, z3, z4, z5, z6, z7, z8, z9, z10, z11, z12, z13, z14, z15, z16])), (nw, .inr (12, [.ref b_rows, .ref b_columns, .int 0, t3, t4, t5, t6, t7, t8, t9, t10, t11, t12, t13, t14, t15, t16, t17, t18, t19, t20, t21])), (b_rows, .inl (dC 100, 4, .inl f_rows)), (b_columns, .inl (dC 100, 4, .inl f_columns)), (ou, .inl (dC 101, 1, .inr (.inl f0)))] H := hP
    have hD : va_D A [(m0, .inr (10, [.ref nw, z1, z2, z3, z4, z5, z6, z7, z8, z9, z10, z11, z12, z13, z14, z15, z16])), (nw, .inr (12, [.ref b_rows, .ref b_columns, .int 0, t3, t4, t5, t6, t7, t8, t9, t10, t11, t12, t13, t14, t15, t16, t17, t18, t19, t20, t21])), (b_rows, .inl (dC 100, 4, .inl f_rows)), (b_columns, .inl (dC 100, 4, .inl f_columns)), (ou, .inl (dC 101, 1, .inr (.inl f0)))] := hD
    refine W.widen (k := 404) (n := 120035) (Nat.le_of_ble_eq_true rfl) (Nat.le_of_ble_eq_true rfl) ?_
    refine lv_istore (lv' := [(5, .int 1), (0, .ref b), (1, .ref h0), (2, .ref m0), (3, .ref ou), (4, .int 0)]) hx hb dM_L_law_245 hl (by decide) rfl (fun ls hl => ?_)
    refine lv_aload_n hx hb dM_L_law_247 rfl (lv_at hl 3 rfl) ?_
    refine lv_aload_n hx hb dM_L_law_248 rfl (lv_at hl 1 rfl) ?_
    refine lv_iload hx hb dM_L_law_249 (lv_at hl 5 rfl) ?_
    refine lv_iconst (v := 1) hx hb dM_L_law_251 (by decide) ?_
    refine lv_iadd hx hb dM_L_law_252 ?_
    refine lv_topi (fun y_51 ey_51 => ?_)
    obtain rfl : y_51 = 1 := ey_51.trans (by decide)
    refine va_sld hx hb hX hbl hbA hS (by unfold vp_in; decide) dM_L_law_253 ?_
    refine lv_topi (fun y_52 ey_52 => ?_)
    obtain rfl : y_2 = y_52 := ey_2.trans ey_52.symm
    refine lv_aload_n hx hb dM_L_law_254 rfl (lv_at hl 1 rfl) ?_
    refine lv_iload hx hb dM_L_law_255 (lv_at hl 5 rfl) ?_
    refine lv_iconst (v := 2) hx hb dM_L_law_257 (by decide) ?_
    refine lv_iadd hx hb dM_L_law_258 ?_
    refine lv_topi (fun y_53 ey_53 => ?_)
    obtain rfl : y_53 = 2 := ey_53.trans (by decide)
    refine va_sld hx hb hX hbl hbA hS (by unfold vp_in; decide) dM_L_law_259 ?_
    refine lv_topi (fun y_54 ey_54 => ?_)
    obtain rfl : y_4 = y_54 := ey_4.trans ey_54.symm
    have hFc := va_free (wc := [(m0, .inr (10, [.ref nw, z1, z2, z3, z4, z5, z6, z7, z8, z9, z10, z11, z12, z13, z14, z15, z16])), (nw, .inr (12, [.ref b_rows, .ref b_columns, .int 0, t3, t4, t5, t6, t7, t8, t9, t10, t11, t12, t13, t14, t15, t16, t17, t18, t19, t20, t21])), (b_rows, .inl (dC 100, 4, .inl f_rows)), (b_columns, .inl (dC 100, 4, .inl f_columns))]) hD hS hA [0, 1, 2, 3] rfl
    refine va_calli (va_runV (As := [.int y_2, .int y_4]) (rest := []) ⟨hx, hb, hml, hown, hbg⟩ (c_M_grid l dC dI m0 y_2 y_4 nw z1 z2 z3 z4 z5 z6 z7 z8 z9 z10 z11 z12 z13 z14 z15 z16 b_rows b_columns t3 t4 t5 t6 t7 t8 t9 t10 t11 t12 t13 t14 t15 t16 t17 t18 t19 t20 t21 f_rows f_columns _ ) (cwV 2 hbg (gd_V (fun _ h => h) wd_2194 wd_2195 wd_2196 wd_12 (gd_wm (fun _ h => h) wd_2197)) rfl rfl rfl (by decide +kernel) ⟨Nat.le_of_ble_eq_true rfl, Nat.le_of_ble_eq_true rfl⟩) (nPreV [0, 1, 2, 3] hP hD hK hN hS hA (by decide) rfl 0 rfl rfl) rfl rfl hl.1 rfl (lv_room (Nat.le_of_ble_eq_true rfl)) dM_L_law_260 ⟨Nat.le_of_ble_eq_true rfl, Nat.le_of_ble_eq_true rfl⟩) hS (fun q _ h => hFc q h) hFc (fun r_55 u t H1 locs ht hvm hw hB hz1 hk1 hS => ?_)
    rcases hw with ⟨c_56, rfl, rfl⟩ | ⟨c_57, rfl, rfl⟩
    · --
      exact absurd c_56 c_7
    · --
      obtain ⟨r0_58, r1_59, r2_60, r3_61, r4_62, r5_63, r6_64, r7_65, r8_66, r9_67, r10_68, r11_69, r12_70, r13_71, r14_72, r15_73, hP1, hD1⟩ := hB
      rw [ht] at hP1
      obtain ⟨hP, hD⟩ := va_join (wr := [(ou, .inl (dC 101, 1, .inr (.inl f0)))]) (w1 := [(m0, .inr (10, [r0_58, r1_59, r2_60, r3_61, r4_62, r5_63, r6_64, r7_65, r8_66, r9_67, r10_68, r11_69, r12_70, r13_71, r14_72, r15_73, .int 1]))]) hP hD [0, 1, 2, 3] [4] rfl rfl (by decide) (by decide) hk1 hFc hP1 hD1
      generalize H1 = H at hP hS ⊢
      have hP : va_P (dC, dI) classes [(ou, .inl (dC 101, 1, .inr (.inl f0))), (m0, .inr (10, [r0_58, r1_59, r2_60, r3_61, r4_62, r5_63, r6_64, r7_65, r8_66, r9_67, r10_68, r11_69, r12_70, r13_71, r14_72, r15_73, .int 1]))] H := hP
      have hD : va_D A [(ou, .inl (dC 101, 1, .inr (.inl f0))), (m0, .inr (10, [r0_58, r1_59, r2_60, r3_61, r4_62, r5_63, r6_64, r7_65, r8_66, r9_67, r10_68, r11_69, r12_70, r13_71, r14_72, r15_73, .int 1]))] := hD
      refine W.widen (k := 404) (n := 120035) (Nat.le_of_ble_eq_true rfl) (Nat.le_of_ble_eq_true rfl) ?_
      refine lv_istore (lv' := [(6, .int 0), (5, .int 1), (0, .ref b), (1, .ref h0), (2, .ref m0), (3, .ref ou), (4, .int 0)]) hx hb dM_L_law_263 hl (by decide) rfl (fun ls hl => ?_)
      refine lv_aload_n hx hb dM_L_law_265 rfl (lv_at hl 4 rfl) ?_
      have hFc := va_free (wc := [(m0, .inr (10, [r0_58, r1_59, r2_60, r3_61, r4_62, r5_63, r6_64, r7_65, r8_66, r9_67, r10_68, r11_69, r12_70, r13_71, r14_72, r15_73, .int 1]))]) hD hS hA [1] rfl
      refine va_calli (va_runV (As := []) (rest := []) ⟨hx, hb, hml, hown, hbg⟩ (c_M_thrown l dC dI m0 r0_58 r1_59 r2_60 r3_61 r4_62 r5_63 r6_64 r7_65 r8_66 r9_67 r10_68 r11_69 r12_70 r13_71 r14_72 r15_73 1 _ ) (cwV 0 hbg (gd_V (fun _ h => h) wd_2190 wd_2191 wd_2192 wd_12 (gd_wm (fun _ h => h) wd_2193)) rfl rfl rfl (by decide +kernel) ⟨Nat.le_of_ble_eq_true rfl, Nat.le_of_ble_eq_true rfl⟩) (nPreV [1] hP hD hK hN hS hA (by decide) rfl 1 rfl rfl) rfl rfl hl.1 rfl (lv_room (Nat.le_of_ble_eq_true rfl)) dM_L_law_266 ⟨Nat.le_of_ble_eq_true rfl, Nat.le_of_ble_eq_true rfl⟩) hS (fun q _ h => hFc q h) hFc (fun r_74 u t H1 locs ht hvm hw hB hz1 hk1 hS => ?_)
      obtain ⟨rfl, rfl⟩ := hw
      obtain ⟨r0_76, r1_77, r2_78, r3_79, r4_80, r5_81, r6_82, r7_83, r8_84, r9_85, r10_86, r11_87, r12_88, r13_89, r14_90, r15_91, hP1, hD1⟩ := hB
      rw [ht] at hP1
      obtain ⟨hP, hD⟩ := va_join (wr := [(ou, .inl (dC 101, 1, .inr (.inl f0)))]) (w1 := [(m0, .inr (10, [r0_76, r1_77, r2_78, r3_79, r4_80, r5_81, r6_82, r7_83, r8_84, r9_85, r10_86, r11_87, r12_88, r13_89, r14_90, r15_91, .int 1]))]) hP hD [1] [0] rfl rfl (by decide) (by decide) hk1 hFc hP1 hD1
      generalize H1 = H at hP hS ⊢
      have hP : va_P (dC, dI) classes [(ou, .inl (dC 101, 1, .inr (.inl f0))), (m0, .inr (10, [r0_76, r1_77, r2_78, r3_79, r4_80, r5_81, r6_82, r7_83, r8_84, r9_85, r10_86, r11_87, r12_88, r13_89, r14_90, r15_91, .int 1]))] H := hP
      have hD : va_D A [(ou, .inl (dC 101, 1, .inr (.inl f0))), (m0, .inr (10, [r0_76, r1_77, r2_78, r3_79, r4_80, r5_81, r6_82, r7_83, r8_84, r9_85, r10_86, r11_87, r12_88, r13_89, r14_90, r15_91, .int 1]))] := hD
      refine W.widen (k := 404) (n := 120035) (Nat.le_of_ble_eq_true rfl) (Nat.le_of_ble_eq_true rfl) ?_
      refine lv_iload hx hb dM_L_law_269 (lv_at hl 1 rfl) ?_
      refine lv_icmp_eq (tgt := 276) hx hb dM_L_law_271 (by decide) (fun _ => ?_) (fun q => absurd (by decide) q)
      refine lv_iload hx hb dM_L_law_276 (lv_at hl 1 rfl) ?_
      refine lv_if_ne (tgt := 293) hx hb dM_L_law_278 (by decide) (fun _ => ?_) (fun q => absurd q (by decide))
      refine lv_goto (tgt := 3410) hx hb dM_L_law_293 (by decide) ?_
      refine W.widen (k := 600002) (n := 7302232) (Nat.le_of_ble_eq_true rfl) (Nat.le_of_ble_eq_true rfl) ?_
      exact hend _ _ _ hS (lv_sub hl [6, 2] rfl)
set_option maxHeartbeats 4000000 in
set_option maxRecDepth 100000 in
theorem lawc_1 {p : Program} {e : Env} {s : State} {m : MethodId} {below : List Frame} {meth : Method} {c : Code} {Z : State → Prop} (l : Launch) (hl9 : l.stackTraces = false) (dC : Nat → ClassId) (dI : Nat → Nat → Nat) {A : Nat → Prop} {b L : Nat} {xs : Nat → Int32} (hL : L = 8) (hx : p.tables.exec = Jvm.exec) (hb : c.code = cM_L_law) (hml : c.maxLocals = 8) (hown : s.vm.findClass "NoteDocumentLaw" = some m.cls) (hbg : ∀ w ∈ BIG, w.before #[Value.ref b] s = true) (hK : nK (dC, dI) s) (hN : nS A s s.heap) (hA : ∀ q : Nat, s.heap.size ≤ q → A q) (hX : va_X b L xs s s.heap) (hbl : b < s.heap.size) (hbA : ¬ A b) {H : Heap} {locs : List Loc} {ls : Array Slot} {h0 : Nat} {m0 : Nat} {ou : Nat} {st : Nat} {v1 : Value} {v2 : Value} {v3 : Value} {v4 : Value} {v5 : Value} {v6 : Value} {v7 : Value} {v8 : Value} {v9 : Value} {v10 : Value} {w3 : Value} {w4 : Value} {w5 : Value} {w6 : Value} {w7 : Value} {w8 : Value} {w9 : Value} {w10 : Value} {w11 : Value} {w12 : Value} {w13 : Value} {w14 : Value} {w15 : Value} {w16 : Value} {w17 : Value} {w18 : Value} {w19 : Value} {f0 : Nat → Int64} {nw : Nat} {z1 : Value} {z2 : Value} {z3 : Value} {z4 : Value} {z5 : Value} {z6 : Value} {z7 : Value} {z8 : Value} {z9 : Value} {z10 : Value} {z11 : Value} {z12 : Value} {z13 : Value} {z14 : Value} {z15 : Value} {z16 : Value} {t0 : Value} {t1 : Value} {t3 : Value} {t4 : Value} {t5 : Value} {t6 : Value} {t7 : Value} {t8 : Value} {t9 : Value} {t10 : Value} {t12 : Value} {t13 : Value} {t14 : Value} {t15 : Value} {t16 : Value} {t17 : Value} {t18 : Value} {t20 : Value} {t21 : Value} (hP : va_P (dC, dI) classes [(h0, .inr (0, [.ref st, v1, v2, v3, v4, v5, v6, v7, v8, v9, v10])), (st, .inr (8, [.int 0, .int 0, .int 0, w3, w4, w5, w6, w7, w8, w9, w10, w11, w12, w13, w14, w15, w16, w17, w18, w19])), (ou, .inl (dC 101, 1, .inr (.inl f0))), (m0, .inr (10, [.ref nw, z1, z2, z3, z4, z5, z6, z7, z8, z9, z10, z11, z12, z13, z14, z15, z16])), (nw, .inr (12, [t0, t1, .int 0, t3, t4, t5, t6, t7, t8, t9, t10, .int 0, t12, t13, t14, t15, t16, t17, t18, .int 0, t20, t21]))] H) (hD : va_D A [(h0, .inr (0, [.ref st, v1, v2, v3, v4, v5, v6, v7, v8, v9, v10])), (st, .inr (8, [.int 0, .int 0, .int 0, w3, w4, w5, w6, w7, w8, w9, w10, w11, w12, w13, w14, w15, w16, w17, w18, w19])), (ou, .inl (dC 101, 1, .inr (.inl f0))), (m0, .inr (10, [.ref nw, z1, z2, z3, z4, z5, z6, z7, z8, z9, z10, z11, z12, z13, z14, z15, z16])), (nw, .inr (12, [t0, t1, .int 0, t3, t4, t5, t6, t7, t8, t9, t10, .int 0, t12, t13, t14, t15, t16, t17, t18, .int 0, t20, t21]))]) (hS : va_S A s.heap H locs) (hl : lv_has ls 8 [(0, .ref b), (1, .ref h0), (2, .ref m0), (3, .ref ou), (4, .int 0)]) (hend : ∀ (H : Heap) (locs : List Loc) (ls : Array Slot), va_S A s.heap H locs → lv_has ls 8 [(4, .int 0), (0, .ref b)] → W p l e room_1 s m #[Value.ref b] below meth c H locs 600002 7302232 Z (F0 m 3410 ls [])) : W p l e room_1 s m #[Value.ref b] below meth c H locs 403 120029 Z (F0 m 296 ls []) := by
  subst hL
  refine lv_aload_n hx hb dM_L_law_296 rfl (lv_at hl 1 rfl) ?_
  refine lv_aload_n hx hb dM_L_law_297 rfl (lv_at hl 0 rfl) ?_
  refine lv_iload hx hb dM_L_law_298 (lv_at hl 4 rfl) ?_
  refine lv_iconst (v := 1) hx hb dM_L_law_300 (by decide) ?_
  refine lv_iadd hx hb dM_L_law_301 ?_
  refine lv_topi (fun y_1 ey_1 => ?_)
  obtain rfl : y_1 = 1 := ey_1.trans (by decide)
  refine va_sld hx hb hX hbl hbA hS (by unfold vp_in; decide) dM_L_law_302 ?_
  refine lv_topi (fun y_2 ey_2 => ?_)
  refine lv_aload_n hx hb dM_L_law_303 rfl (lv_at hl 3 rfl) ?_
  have hFc := va_free (wc := [(h0, .inr (0, [.ref st, v1, v2, v3, v4, v5, v6, v7, v8, v9, v10])), (st, .inr (8, [.int 0, .int 0, .int 0, w3, w4, w5, w6, w7, w8, w9, w10, w11, w12, w13, w14, w15, w16, w17, w18, w19])), (ou, .inl (dC 101, 1, .inr (.inl f0)))]) hD hS hA [0, 1, 2] rfl
  refine va_calli (vx_runSW (As := [.ref h0, .int y_2, .ref ou]) (rest := []) ⟨hx, hb, hml, hown, hbg⟩ (c_L_rows l hl9 dC dI h0 y_2 ou st v1 v2 v3 v4 v5 v6 v7 v8 v9 v10 w3 w4 w5 w6 w7 w8 w9 w10 w11 w12 w13 w14 w15 w16 w17 w18 w19 f0 _ ) (vx_cwSW 3 hbg (gd_S (fun _ h => h) wd_1114 wd_1115 wd_0 (gd_wmW (fun _ h => h) wd_1116)) rfl rfl rfl (by decide +kernel) ⟨Nat.le_of_ble_eq_true rfl, Nat.le_of_ble_eq_true rfl⟩) (nPreS [0, 1, 2] hP hD hK hN hS hA (by decide) rfl) rfl rfl hl.1 rfl (lv_room (Nat.le_of_ble_eq_true rfl)) dM_L_law_304 ⟨Nat.le_of_ble_eq_true rfl, Nat.le_of_ble_eq_true rfl⟩) hS (fun q _ h => hFc q h) hFc (fun r_3 u t H1 locs ht hvm hw hB hz1 hk1 hS => ?_)
  obtain ⟨rfl, hu_5⟩ := hw
  obtain rfl := hu_5.symm
  obtain ⟨hP1, hD1⟩ := hB
  rw [ht] at hP1
  obtain ⟨hP, hD⟩ := va_join (wr := [(m0, .inr (10, [.ref nw, z1, z2, z3, z4, z5, z6, z7, z8, z9, z10, z11, z12, z13, z14, z15, z16])), (nw, .inr (12, [t0, t1, .int 0, t3, t4, t5, t6, t7, t8, t9, t10, .int 0, t12, t13, t14, t15, t16, t17, t18, .int 0, t20, t21]))]) (w1 := [(ou, .inl (dC 101, 1, .inr (.inl f0)))]) hP hD [0, 1, 2] [3, 4] rfl rfl (by decide) (by decide) hk1 hFc hP1 hD1
  generalize H1 = H at hP hS ⊢
  have hP : va_P (dC, dI) classes [(m0, .inr (10, [.ref nw, z1, z2, z3, z4, z5, z6, z7, z8, z9, z10, z11, z12, z13, z14, z15, z16])), (nw, .inr (12, [t0, t1, .int 0, t3, t4, t5, t6, t7, t8, t9, t10, .int 0, t12, t13, t14, t15, t16, t17, t18, .int 0, t20, t21])), (ou, .inl (dC 101, 1, .inr (.inl f0)))] H := hP
  have hD : va_D A [(m0, .inr (10, [.ref nw, z1, z2, z3, z4, z5, z6, z7, z8, z9, z10, z11, z12, z13, z14, z15, z16])), (nw, .inr (12, [t0, t1, .int 0, t3, t4, t5, t6, t7, t8, t9, t10, .int 0, t12, t13, t14, t15, t16, t17, t18, .int 0, t20, t21])), (ou, .inl (dC 101, 1, .inr (.inl f0)))] := hD
  refine W.widen (k := 404) (n := 120035) (Nat.le_of_ble_eq_true rfl) (Nat.le_of_ble_eq_true rfl) ?_
  refine lv_istore (lv' := [(5, .int 1), (0, .ref b), (1, .ref h0), (2, .ref m0), (3, .ref ou), (4, .int 0)]) hx hb dM_L_law_307 hl (by decide) rfl (fun ls hl => ?_)
  refine lv_aload_n hx hb dM_L_law_309 rfl (lv_at hl 3 rfl) ?_
  refine lv_aload_n hx hb dM_L_law_310 rfl (lv_at hl 1 rfl) ?_
  refine lv_iload hx hb dM_L_law_311 (lv_at hl 5 rfl) ?_
  refine lv_iconst (v := 1) hx hb dM_L_law_313 (by decide) ?_
  refine lv_iadd hx hb dM_L_law_314 ?_
  refine lv_topi (fun y_6 ey_6 => ?_)
  obtain rfl : y_6 = 1 := ey_6.trans (by decide)
  refine va_sld hx hb hX hbl hbA hS (by unfold vp_in; decide) dM_L_law_315 ?_
  refine lv_topi (fun y_7 ey_7 => ?_)
  obtain rfl : y_2 = y_7 := ey_2.trans ey_7.symm
  have hFc := va_free (wc := [(m0, .inr (10, [.ref nw, z1, z2, z3, z4, z5, z6, z7, z8, z9, z10, z11, z12, z13, z14, z15, z16])), (nw, .inr (12, [t0, t1, .int 0, t3, t4, t5, t6, t7, t8, t9, t10, .int 0, t12, t13, t14, t15, t16, t17, t18, .int 0, t20, t21]))]) hD hS hA [0, 1] rfl
  refine va_calli (va_runV (As := [.int y_2]) (rest := []) ⟨hx, hb, hml, hown, hbg⟩ (c_M_rows l dC dI m0 y_2 nw z1 z2 z3 z4 z5 z6 z7 z8 z9 z10 z11 z12 z13 z14 z15 z16 t0 t1 t3 t4 t5 t6 t7 t8 t9 t10 t12 t13 t14 t15 t16 t17 t18 t20 t21 _ ) (cwV 1 hbg (gd_V (fun _ h => h) wd_2207 wd_2208 wd_2209 wd_12 (gd_wm (fun _ h => h) wd_2210)) rfl rfl rfl (by decide +kernel) ⟨Nat.le_of_ble_eq_true rfl, Nat.le_of_ble_eq_true rfl⟩) (nPreV [0, 1] hP hD hK hN hS hA (by decide) rfl 0 rfl rfl) rfl rfl hl.1 rfl (lv_room (Nat.le_of_ble_eq_true rfl)) dM_L_law_316 ⟨Nat.le_of_ble_eq_true rfl, Nat.le_of_ble_eq_true rfl⟩) hS (fun q _ h => hFc q h) hFc (fun r_8 u t H1 locs ht hvm hw hB hz1 hk1 hS => ?_)
  obtain ⟨rfl, rfl⟩ := hw
  obtain ⟨r0_10, r1_11, r2_12, r3_13, r4_14, r5_15, r6_16, r7_17, r8_18, r9_19, r10_20, r11_21, r12_22, r13_23, r14_24, r15_25, hP1, hD1⟩ := hB
  rw [ht] at hP1
  obtain ⟨hP, hD⟩ := va_join (wr := [(ou, .inl (dC 101, 1, .inr (.inl f0)))]) (w1 := [(m0, .inr (10, [r0_10, r1_11, r2_12, r3_13, r4_14, r5_15, r6_16, r7_17, r8_18, r9_19, r10_20, r11_21, r12_22, r13_23, r14_24, r15_25, .int 1]))]) hP hD [0, 1] [2] rfl rfl (by decide) (by decide) hk1 hFc hP1 hD1
  generalize H1 = H at hP hS ⊢
  have hP : va_P (dC, dI) classes [(ou, .inl (dC 101, 1, .inr (.inl f0))), (m0, .inr (10, [r0_10, r1_11, r2_12, r3_13, r4_14, r5_15, r6_16, r7_17, r8_18, r9_19, r10_20, r11_21, r12_22, r13_23, r14_24, r15_25, .int 1]))] H := hP
  have hD : va_D A [(ou, .inl (dC 101, 1, .inr (.inl f0))), (m0, .inr (10, [r0_10, r1_11, r2_12, r3_13, r4_14, r5_15, r6_16, r7_17, r8_18, r9_19, r10_20, r11_21, r12_22, r13_23, r14_24, r15_25, .int 1]))] := hD
  refine W.widen (k := 404) (n := 120035) (Nat.le_of_ble_eq_true rfl) (Nat.le_of_ble_eq_true rfl) ?_
  refine lv_istore (lv' := [(6, .int 0), (5, .int 1), (0, .ref b), (1, .ref h0), (2, .ref m0), (3, .ref ou), (4, .int 0)]) hx hb dM_L_law_319 hl (by decide) rfl (fun ls hl => ?_)
  refine lv_aload_n hx hb dM_L_law_321 rfl (lv_at hl 4 rfl) ?_
  have hFc := va_free (wc := [(m0, .inr (10, [r0_10, r1_11, r2_12, r3_13, r4_14, r5_15, r6_16, r7_17, r8_18, r9_19, r10_20, r11_21, r12_22, r13_23, r14_24, r15_25, .int 1]))]) hD hS hA [1] rfl
  refine va_calli (va_runV (As := []) (rest := []) ⟨hx, hb, hml, hown, hbg⟩ (c_M_thrown l dC dI m0 r0_10 r1_11 r2_12 r3_13 r4_14 r5_15 r6_16 r7_17 r8_18 r9_19 r10_20 r11_21 r12_22 r13_23 r14_24 r15_25 1 _ ) (cwV 0 hbg (gd_V (fun _ h => h) wd_2190 wd_2191 wd_2192 wd_12 (gd_wm (fun _ h => h) wd_2193)) rfl rfl rfl (by decide +kernel) ⟨Nat.le_of_ble_eq_true rfl, Nat.le_of_ble_eq_true rfl⟩) (nPreV [1] hP hD hK hN hS hA (by decide) rfl 1 rfl rfl) rfl rfl hl.1 rfl (lv_room (Nat.le_of_ble_eq_true rfl)) dM_L_law_322 ⟨Nat.le_of_ble_eq_true rfl, Nat.le_of_ble_eq_true rfl⟩) hS (fun q _ h => hFc q h) hFc (fun r_26 u t H1 locs ht hvm hw hB hz1 hk1 hS => ?_)
  obtain ⟨rfl, rfl⟩ := hw
  obtain ⟨r0_28, r1_29, r2_30, r3_31, r4_32, r5_33, r6_34, r7_35, r8_36, r9_37, r10_38, r11_39, r12_40, r13_41, r14_42, r15_43, hP1, hD1⟩ := hB
  rw [ht] at hP1
  obtain ⟨hP, hD⟩ := va_join (wr := [(ou, .inl (dC 101, 1, .inr (.inl f0)))]) (w1 := [(m0, .inr (10, [r0_28, r1_29, r2_30, r3_31, r4_32, r5_33, r6_34, r7_35, r8_36, r9_37, r10_38, r11_39, r12_40, r13_41, r14_42, r15_43, .int 1]))]) hP hD [1] [0] rfl rfl (by decide) (by decide) hk1 hFc hP1 hD1
  generalize H1 = H at hP hS ⊢
  have hP : va_P (dC, dI) classes [(ou, .inl (dC 101, 1, .inr (.inl f0))), (m0, .inr (10, [r0_28, r1_29, r2_30, r3_31, r4_32, r5_33, r6_34, r7_35, r8_36, r9_37, r10_38, r11_39, r12_40, r13_41, r14_42, r15_43, .int 1]))] H := hP
  have hD : va_D A [(ou, .inl (dC 101, 1, .inr (.inl f0))), (m0, .inr (10, [r0_28, r1_29, r2_30, r3_31, r4_32, r5_33, r6_34, r7_35, r8_36, r9_37, r10_38, r11_39, r12_40, r13_41, r14_42, r15_43, .int 1]))] := hD
  refine W.widen (k := 404) (n := 120035) (Nat.le_of_ble_eq_true rfl) (Nat.le_of_ble_eq_true rfl) ?_
  refine lv_iload hx hb dM_L_law_325 (lv_at hl 1 rfl) ?_
  refine lv_icmp_eq (tgt := 332) hx hb dM_L_law_327 (by decide) (fun _ => ?_) (fun q => absurd (by decide) q)
  refine lv_iload hx hb dM_L_law_332 (lv_at hl 1 rfl) ?_
  refine lv_if_ne (tgt := 349) hx hb dM_L_law_334 (by decide) (fun _ => ?_) (fun q => absurd q (by decide))
  refine lv_goto (tgt := 3410) hx hb dM_L_law_349 (by decide) ?_
  refine W.widen (k := 600002) (n := 7302232) (Nat.le_of_ble_eq_true rfl) (Nat.le_of_ble_eq_true rfl) ?_
  exact hend _ _ _ hS (lv_sub hl [6, 2] rfl)
set_option maxHeartbeats 4000000 in
set_option maxRecDepth 100000 in
theorem lawc_2 {p : Program} {e : Env} {s : State} {m : MethodId} {below : List Frame} {meth : Method} {c : Code} {Z : State → Prop} (l : Launch) (hl9 : l.stackTraces = false) (dC : Nat → ClassId) (dI : Nat → Nat → Nat) {A : Nat → Prop} {b L : Nat} {xs : Nat → Int32} (hL : L = 8) (hx : p.tables.exec = Jvm.exec) (hb : c.code = cM_L_law) (hml : c.maxLocals = 8) (hown : s.vm.findClass "NoteDocumentLaw" = some m.cls) (hbg : ∀ w ∈ BIG, w.before #[Value.ref b] s = true) (hK : nK (dC, dI) s) (hN : nS A s s.heap) (hA : ∀ q : Nat, s.heap.size ≤ q → A q) (hX : va_X b L xs s s.heap) (hbl : b < s.heap.size) (hbA : ¬ A b) {H : Heap} {locs : List Loc} {ls : Array Slot} {h0 : Nat} {m0 : Nat} {ou : Nat} {st : Nat} {v1 : Value} {v2 : Value} {v3 : Value} {v4 : Value} {v5 : Value} {v6 : Value} {v7 : Value} {v8 : Value} {v9 : Value} {v10 : Value} {w3 : Value} {w4 : Value} {w5 : Value} {w6 : Value} {w7 : Value} {w8 : Value} {w9 : Value} {w10 : Value} {w11 : Value} {w12 : Value} {w13 : Value} {w14 : Value} {w15 : Value} {w16 : Value} {w17 : Value} {w18 : Value} {w19 : Value} {nw : Nat} {z1 : Value} {z2 : Value} {z3 : Value} {z4 : Value} {z5 : Value} {z6 : Value} {z7 : Value} {z8 : Value} {z9 : Value} {z10 : Value} {z11 : Value} {z12 : Value} {z13 : Value} {z14 : Value} {z15 : Value} {z16 : Value} {t0 : Value} {t1 : Value} {t3 : Value} {t4 : Value} {t5 : Value} {t6 : Value} {t7 : Value} {t8 : Value} {t9 : Value} {t10 : Value} {t12 : Value} {t13 : Value} {t14 : Value} {t15 : Value} {t16 : Value} {t17 : Value} {t18 : Value} {t20 : Value} {t21 : Value} (hP : va_P (dC, dI) classes [(h0, .inr (0, [.ref st, v1, v2, v3, v4, v5, v6, v7, v8, v9, v10])), (st, .inr (8, [.int 0, .int 0, .int 0, w3, w4, w5, w6, w7, w8, w9, w10, w11, w12, w13, w14, w15, w16, w17, w18, w19])), (m0, .inr (10, [.ref nw, z1, z2, z3, z4, z5, z6, z7, z8, z9, z10, z11, z12, z13, z14, z15, z16])), (nw, .inr (12, [t0, t1, .int 0, t3, t4, t5, t6, t7, t8, t9, t10, .int 0, t12, t13, t14, t15, t16, t17, t18, .int 0, t20, t21]))] H) (hD : va_D A [(h0, .inr (0, [.ref st, v1, v2, v3, v4, v5, v6, v7, v8, v9, v10])), (st, .inr (8, [.int 0, .int 0, .int 0, w3, w4, w5, w6, w7, w8, w9, w10, w11, w12, w13, w14, w15, w16, w17, w18, w19])), (m0, .inr (10, [.ref nw, z1, z2, z3, z4, z5, z6, z7, z8, z9, z10, z11, z12, z13, z14, z15, z16])), (nw, .inr (12, [t0, t1, .int 0, t3, t4, t5, t6, t7, t8, t9, t10, .int 0, t12, t13, t14, t15, t16, t17, t18, .int 0, t20, t21]))]) (hS : va_S A s.heap H locs) (hl : lv_has ls 8 [(0, .ref b), (1, .ref h0), (2, .ref m0), (3, .ref ou), (4, .int 0)]) (hend : ∀ (H : Heap) (locs : List Loc) (ls : Array Slot), va_S A s.heap H locs → lv_has ls 8 [(4, .int 0), (0, .ref b)] → W p l e room_1 s m #[Value.ref b] below meth c H locs 600002 7302232 Z (F0 m 3410 ls [])) : W p l e room_1 s m #[Value.ref b] below meth c H locs 403 120029 Z (F0 m 352 ls []) := by
  subst hL
  refine lv_aload_n hx hb dM_L_law_352 rfl (lv_at hl 1 rfl) ?_
  refine lv_aload_n hx hb dM_L_law_353 rfl (lv_at hl 0 rfl) ?_
  refine lv_iload hx hb dM_L_law_354 (lv_at hl 4 rfl) ?_
  refine lv_iconst (v := 1) hx hb dM_L_law_356 (by decide) ?_
  refine lv_iadd hx hb dM_L_law_357 ?_
  refine lv_topi (fun y_1 ey_1 => ?_)
  obtain rfl : y_1 = 1 := ey_1.trans (by decide)
  refine va_sld hx hb hX hbl hbA hS (by unfold vp_in; decide) dM_L_law_358 ?_
  refine lv_topi (fun y_2 ey_2 => ?_)
  refine lv_aload_n hx hb dM_L_law_359 rfl (lv_at hl 0 rfl) ?_
  refine lv_iload hx hb dM_L_law_360 (lv_at hl 4 rfl) ?_
  refine lv_iconst (v := 2) hx hb dM_L_law_362 (by decide) ?_
  refine lv_iadd hx hb dM_L_law_363 ?_
  refine lv_topi (fun y_3 ey_3 => ?_)
  obtain rfl : y_3 = 2 := ey_3.trans (by decide)
  refine va_sld hx hb hX hbl hbA hS (by unfold vp_in; decide) dM_L_law_364 ?_
  refine lv_topi (fun y_4 ey_4 => ?_)
  refine lv_aload_n hx hb dM_L_law_365 rfl (lv_at hl 0 rfl) ?_
  refine lv_iload hx hb dM_L_law_366 (lv_at hl 4 rfl) ?_
  refine lv_iconst (v := 3) hx hb dM_L_law_368 (by decide) ?_
  refine lv_iadd hx hb dM_L_law_369 ?_
  refine lv_topi (fun y_5 ey_5 => ?_)
  obtain rfl : y_5 = 3 := ey_5.trans (by decide)
  refine va_sld hx hb hX hbl hbA hS (by unfold vp_in; decide) dM_L_law_370 ?_
  refine lv_topi (fun y_6 ey_6 => ?_)
  refine lv_aload_n hx hb dM_L_law_371 rfl (lv_at hl 0 rfl) ?_
  refine lv_iload hx hb dM_L_law_372 (lv_at hl 4 rfl) ?_
  refine lv_iconst (v := 4) hx hb dM_L_law_374 (by decide) ?_
  refine lv_iadd hx hb dM_L_law_375 ?_
  refine lv_topi (fun y_7 ey_7 => ?_)
  obtain rfl : y_7 = 4 := ey_7.trans (by decide)
  refine va_sld hx hb hX hbl hbA hS (by unfold vp_in; decide) dM_L_law_376 ?_
  refine lv_topi (fun y_8 ey_8 => ?_)
  refine lv_i2l (v := y_8.toInt64) hx hb dM_L_law_377 rfl ?_
  refine lv_bipush (v := 32) hx hb dM_L_law_378 (by decide) ?_
  refine lv_lshl (v := y_8.toInt64 <<< ((32 : Int32).toInt64 &&& 63)) hx hb dM_L_law_380 rfl ?_
  refine lv_aload_n hx hb dM_L_law_381 rfl (lv_at hl 0 rfl) ?_
  refine lv_iload hx hb dM_L_law_382 (lv_at hl 4 rfl) ?_
  refine lv_iconst (v := 5) hx hb dM_L_law_384 (by decide) ?_
  refine lv_iadd hx hb dM_L_law_385 ?_
  refine lv_topi (fun y_9 ey_9 => ?_)
  obtain rfl : y_9 = 5 := ey_9.trans (by decide)
  refine va_sld hx hb hX hbl hbA hS (by unfold vp_in; decide) dM_L_law_386 ?_
  refine lv_topi (fun y_10 ey_10 => ?_)
  refine lv_i2l (v := y_10.toInt64) hx hb dM_L_law_387 rfl ?_
  refine lv_ldc2 (v := 4294967295) hx hb hown (hbg _ wd_2851) dM_L_law_388 ?_
  refine lv_land hx hb dM_L_law_391 ?_
  refine lv_topl (fun y_11 ey_11 => ?_)
  refine lv_lor hx hb dM_L_law_392 ?_
  refine lv_topl (fun y_12 ey_12 => ?_)
  have hFc := va_free (wc := [(h0, .inr (0, [.ref st, v1, v2, v3, v4, v5, v6, v7, v8, v9, v10])), (st, .inr (8, [.int 0, .int 0, .int 0, w3, w4, w5, w6, w7, w8, w9, w10, w11, w12, w13, w14, w15, w16, w17, w18, w19]))]) hD hS hA [0, 1] rfl
  refine va_calli (vx_runSW (As := [.ref h0, .int y_2, .int y_4, .int y_6, .long y_12]) (rest := []) ⟨hx, hb, hml, hown, hbg⟩ (c_L_set l hl9 dC dI h0 y_2 y_4 y_6 y_12 st v1 v2 v3 v4 v5 v6 v7 v8 v9 v10 w3 w4 w5 w6 w7 w8 w9 w10 w11 w12 w13 w14 w15 w16 w17 w18 w19 _ ) (vx_cwSW 5 hbg (gd_S (fun _ h => h) wd_1142 wd_1143 wd_0 (gd_wmW (fun _ h => h) wd_1144)) rfl rfl rfl (by decide +kernel) ⟨Nat.le_of_ble_eq_true rfl, Nat.le_of_ble_eq_true rfl⟩) (nPreS [0, 1] hP hD hK hN hS hA (by decide) rfl) rfl rfl hl.1 rfl (lv_room (Nat.le_of_ble_eq_true rfl)) dM_L_law_393 ⟨Nat.le_of_ble_eq_true rfl, Nat.le_of_ble_eq_true rfl⟩) hS (fun q _ h => hFc q h) hFc (fun r_13 u t H1 locs ht hvm hw hB hz1 hk1 hS => ?_)
  obtain rfl := hw
  obtain ⟨hP, hD⟩ := va_join (wr := [(m0, .inr (10, [.ref nw, z1, z2, z3, z4, z5, z6, z7, z8, z9, z10, z11, z12, z13, z14, z15, z16])), (nw, .inr (12, [t0, t1, .int 0, t3, t4, t5, t6, t7, t8, t9, t10, .int 0, t12, t13, t14, t15, t16, t17, t18, .int 0, t20, t21]))]) (w1 := []) hP hD [0, 1] [2, 3] rfl rfl (by decide) (by decide) hk1 hFc nP0 nD0
  generalize H1 = H at hP hS ⊢
  have hP : va_P (dC, dI) classes [(m0, .inr (10, [.ref nw, z1, z2, z3, z4, z5, z6, z7, z8, z9, z10, z11, z12, z13, z14, z15, z16])), (nw, .inr (12, [t0, t1, .int 0, t3, t4, t5, t6, t7, t8, t9, t10, .int 0, t12, t13, t14, t15, t16, t17, t18, .int 0, t20, t21]))] H := hP
  have hD : va_D A [(m0, .inr (10, [.ref nw, z1, z2, z3, z4, z5, z6, z7, z8, z9, z10, z11, z12, z13, z14, z15, z16])), (nw, .inr (12, [t0, t1, .int 0, t3, t4, t5, t6, t7, t8, t9, t10, .int 0, t12, t13, t14, t15, t16, t17, t18, .int 0, t20, t21]))] := hD
  refine W.widen (k := 404) (n := 120035) (Nat.le_of_ble_eq_true rfl) (Nat.le_of_ble_eq_true rfl) ?_
  refine lv_istore (lv' := [(5, .int 1), (0, .ref b), (1, .ref h0), (2, .ref m0), (3, .ref ou), (4, .int 0)]) hx hb dM_L_law_396 hl (by decide) rfl (fun ls hl => ?_)
  refine lv_aload_n hx hb dM_L_law_398 rfl (lv_at hl 3 rfl) ?_
  refine lv_aload_n hx hb dM_L_law_399 rfl (lv_at hl 1 rfl) ?_
  refine lv_iload hx hb dM_L_law_400 (lv_at hl 5 rfl) ?_
  refine lv_iconst (v := 1) hx hb dM_L_law_402 (by decide) ?_
  refine lv_iadd hx hb dM_L_law_403 ?_
  refine lv_topi (fun y_15 ey_15 => ?_)
  obtain rfl : y_15 = 1 := ey_15.trans (by decide)
  refine va_sld hx hb hX hbl hbA hS (by unfold vp_in; decide) dM_L_law_404 ?_
  refine lv_topi (fun y_16 ey_16 => ?_)
  obtain rfl : y_2 = y_16 := ey_2.trans ey_16.symm
  refine lv_aload_n hx hb dM_L_law_405 rfl (lv_at hl 1 rfl) ?_
  refine lv_iload hx hb dM_L_law_406 (lv_at hl 5 rfl) ?_
  refine lv_iconst (v := 2) hx hb dM_L_law_408 (by decide) ?_
  refine lv_iadd hx hb dM_L_law_409 ?_
  refine lv_topi (fun y_17 ey_17 => ?_)
  obtain rfl : y_17 = 2 := ey_17.trans (by decide)
  refine va_sld hx hb hX hbl hbA hS (by unfold vp_in; decide) dM_L_law_410 ?_
  refine lv_topi (fun y_18 ey_18 => ?_)
  obtain rfl : y_4 = y_18 := ey_4.trans ey_18.symm
  refine lv_aload_n hx hb dM_L_law_411 rfl (lv_at hl 1 rfl) ?_
  refine lv_iload hx hb dM_L_law_412 (lv_at hl 5 rfl) ?_
  refine lv_iconst (v := 3) hx hb dM_L_law_414 (by decide) ?_
  refine lv_iadd hx hb dM_L_law_415 ?_
  refine lv_topi (fun y_19 ey_19 => ?_)
  obtain rfl : y_19 = 3 := ey_19.trans (by decide)
  refine va_sld hx hb hX hbl hbA hS (by unfold vp_in; decide) dM_L_law_416 ?_
  refine lv_topi (fun y_20 ey_20 => ?_)
  obtain rfl : y_6 = y_20 := ey_6.trans ey_20.symm
  refine lv_aload_n hx hb dM_L_law_417 rfl (lv_at hl 1 rfl) ?_
  refine lv_iload hx hb dM_L_law_418 (lv_at hl 5 rfl) ?_
  refine lv_iconst (v := 4) hx hb dM_L_law_420 (by decide) ?_
  refine lv_iadd hx hb dM_L_law_421 ?_
  refine lv_topi (fun y_21 ey_21 => ?_)
  obtain rfl : y_21 = 4 := ey_21.trans (by decide)
  refine va_sld hx hb hX hbl hbA hS (by unfold vp_in; decide) dM_L_law_422 ?_
  refine lv_topi (fun y_22 ey_22 => ?_)
  obtain rfl : y_8 = y_22 := ey_8.trans ey_22.symm
  refine lv_i2l (v := y_8.toInt64) hx hb dM_L_law_423 rfl ?_
  refine lv_bipush (v := 32) hx hb dM_L_law_424 (by decide) ?_
  refine lv_lshl (v := y_8.toInt64 <<< ((32 : Int32).toInt64 &&& 63)) hx hb dM_L_law_426 rfl ?_
  refine lv_aload_n hx hb dM_L_law_427 rfl (lv_at hl 1 rfl) ?_
  refine lv_iload hx hb dM_L_law_428 (lv_at hl 5 rfl) ?_
  refine lv_iconst (v := 5) hx hb dM_L_law_430 (by decide) ?_
  refine lv_iadd hx hb dM_L_law_431 ?_
  refine lv_topi (fun y_23 ey_23 => ?_)
  obtain rfl : y_23 = 5 := ey_23.trans (by decide)
  refine va_sld hx hb hX hbl hbA hS (by unfold vp_in; decide) dM_L_law_432 ?_
  refine lv_topi (fun y_24 ey_24 => ?_)
  obtain rfl : y_10 = y_24 := ey_10.trans ey_24.symm
  refine lv_i2l (v := y_10.toInt64) hx hb dM_L_law_433 rfl ?_
  refine lv_ldc2 (v := 4294967295) hx hb hown (hbg _ wd_2851) dM_L_law_434 ?_
  refine lv_land hx hb dM_L_law_437 ?_
  refine lv_topl (fun y_25 ey_25 => ?_)
  obtain rfl : y_11 = y_25 := ey_11.trans ey_25.symm
  refine lv_lor hx hb dM_L_law_438 ?_
  refine lv_topl (fun y_26 ey_26 => ?_)
  obtain rfl : y_12 = y_26 := ey_12.trans ey_26.symm
  have hFc := va_free (wc := [(m0, .inr (10, [.ref nw, z1, z2, z3, z4, z5, z6, z7, z8, z9, z10, z11, z12, z13, z14, z15, z16])), (nw, .inr (12, [t0, t1, .int 0, t3, t4, t5, t6, t7, t8, t9, t10, .int 0, t12, t13, t14, t15, t16, t17, t18, .int 0, t20, t21]))]) hD hS hA [0, 1] rfl
  refine va_callv (va_runV (As := [.int y_2, .int y_4, .int y_6, .long y_12]) (rest := []) ⟨hx, hb, hml, hown, hbg⟩ (c_M_set l dC dI m0 y_2 y_4 y_6 y_12 nw z1 z2 z3 z4 z5 z6 z7 z8 z9 z10 z11 z12 z13 z14 z15 z16 t0 t1 t3 t4 t5 t6 t7 t8 t9 t10 t12 t13 t14 t15 t16 t17 t18 t20 t21 _ ) (cwV 4 hbg (gd_V (fun _ h => h) wd_2215 wd_2216 wd_2217 wd_12 (gd_wm (fun _ h => h) wd_2218)) rfl rfl rfl (by decide +kernel) ⟨Nat.le_of_ble_eq_true rfl, Nat.le_of_ble_eq_true rfl⟩) (nPreV [0, 1] hP hD hK hN hS hA (by decide) rfl 0 rfl rfl) rfl rfl hl.1 rfl (lv_room (Nat.le_of_ble_eq_true rfl)) dM_L_law_439 ⟨Nat.le_of_ble_eq_true rfl, Nat.le_of_ble_eq_true rfl⟩) hS (fun q _ h => hFc q h) hFc (fun u t H1 locs ht hvm hw hB hz1 hk1 hS => ?_)
  obtain rfl := hw
  obtain ⟨r0_29, r1_30, r2_31, r3_32, r4_33, r5_34, r6_35, r7_36, r8_37, r9_38, r10_39, r11_40, r12_41, r13_42, r14_43, r15_44, hP1, hD1⟩ := hB
  rw [ht] at hP1
  obtain ⟨hP, hD⟩ := va_join (wr := []) (w1 := [(m0, .inr (10, [r0_29, r1_30, r2_31, r3_32, r4_33, r5_34, r6_35, r7_36, r8_37, r9_38, r10_39, r11_40, r12_41, r13_42, r14_43, r15_44, .int 1]))]) hP hD [0, 1] [] rfl rfl (by decide) (by decide) hk1 hFc hP1 hD1
  generalize H1 = H at hP hS ⊢
  have hP : va_P (dC, dI) classes [(m0, .inr (10, [r0_29, r1_30, r2_31, r3_32, r4_33, r5_34, r6_35, r7_36, r8_37, r9_38, r10_39, r11_40, r12_41, r13_42, r14_43, r15_44, .int 1]))] H := hP
  have hD : va_D A [(m0, .inr (10, [r0_29, r1_30, r2_31, r3_32, r4_33, r5_34, r6_35, r7_36, r8_37, r9_38, r10_39, r11_40, r12_41, r13_42, r14_43, r15_44, .int 1]))] := hD
  refine W.widen (k := 404) (n := 120035) (Nat.le_of_ble_eq_true rfl) (Nat.le_of_ble_eq_true rfl) ?_
  refine lv_aload_n hx hb dM_L_law_442 rfl (lv_at hl 3 rfl) ?_
  have hFc := va_free (wc := [(m0, .inr (10, [r0_29, r1_30, r2_31, r3_32, r4_33, r5_34, r6_35, r7_36, r8_37, r9_38, r10_39, r11_40, r12_41, r13_42, r14_43, r15_44, .int 1]))]) hD hS hA [0] rfl
  refine va_calli (va_runV (As := []) (rest := []) ⟨hx, hb, hml, hown, hbg⟩ (c_M_thrown l dC dI m0 r0_29 r1_30 r2_31 r3_32 r4_33 r5_34 r6_35 r7_36 r8_37 r9_38 r10_39 r11_40 r12_41 r13_42 r14_43 r15_44 1 _ ) (cwV 0 hbg (gd_V (fun _ h => h) wd_2190 wd_2191 wd_2192 wd_12 (gd_wm (fun _ h => h) wd_2193)) rfl rfl rfl (by decide +kernel) ⟨Nat.le_of_ble_eq_true rfl, Nat.le_of_ble_eq_true rfl⟩) (nPreV [0] hP hD hK hN hS hA (by decide) rfl 0 rfl rfl) rfl rfl hl.1 rfl (lv_room (Nat.le_of_ble_eq_true rfl)) dM_L_law_443 ⟨Nat.le_of_ble_eq_true rfl, Nat.le_of_ble_eq_true rfl⟩) hS (fun q _ h => hFc q h) hFc (fun r_45 u t H1 locs ht hvm hw hB hz1 hk1 hS => ?_)
  obtain ⟨rfl, rfl⟩ := hw
  obtain ⟨r0_47, r1_48, r2_49, r3_50, r4_51, r5_52, r6_53, r7_54, r8_55, r9_56, r10_57, r11_58, r12_59, r13_60, r14_61, r15_62, hP1, hD1⟩ := hB
  rw [ht] at hP1
  obtain ⟨hP, hD⟩ := va_join (wr := []) (w1 := [(m0, .inr (10, [r0_47, r1_48, r2_49, r3_50, r4_51, r5_52, r6_53, r7_54, r8_55, r9_56, r10_57, r11_58, r12_59, r13_60, r14_61, r15_62, .int 1]))]) hP hD [0] [] rfl rfl (by decide) (by decide) hk1 hFc hP1 hD1
  generalize H1 = H at hP hS ⊢
  have hP : va_P (dC, dI) classes [(m0, .inr (10, [r0_47, r1_48, r2_49, r3_50, r4_51, r5_52, r6_53, r7_54, r8_55, r9_56, r10_57, r11_58, r12_59, r13_60, r14_61, r15_62, .int 1]))] H := hP
  have hD : va_D A [(m0, .inr (10, [r0_47, r1_48, r2_49, r3_50, r4_51, r5_52, r6_53, r7_54, r8_55, r9_56, r10_57, r11_58, r12_59, r13_60, r14_61, r15_62, .int 1]))] := hD
  refine W.widen (k := 404) (n := 120035) (Nat.le_of_ble_eq_true rfl) (Nat.le_of_ble_eq_true rfl) ?_
  refine lv_iload hx hb dM_L_law_446 (lv_at hl 0 rfl) ?_
  refine lv_icmp_eq (tgt := 453) hx hb dM_L_law_448 (by decide) (fun _ => ?_) (fun q => absurd (by decide) q)
  refine lv_goto (tgt := 3410) hx hb dM_L_law_453 (by decide) ?_
  refine W.widen (k := 600002) (n := 7302232) (Nat.le_of_ble_eq_true rfl) (Nat.le_of_ble_eq_true rfl) ?_
  exact hend _ _ _ hS (lv_sub hl [5, 1] rfl)
set_option maxHeartbeats 4000000 in
set_option maxRecDepth 100000 in
theorem lawc_3 {p : Program} {e : Env} {s : State} {m : MethodId} {below : List Frame} {meth : Method} {c : Code} {Z : State → Prop} (l : Launch) (hl9 : l.stackTraces = false) (dC : Nat → ClassId) (dI : Nat → Nat → Nat) {A : Nat → Prop} {b L : Nat} {xs : Nat → Int32} (hL : L = 8) (hx : p.tables.exec = Jvm.exec) (hb : c.code = cM_L_law) (hml : c.maxLocals = 8) (hown : s.vm.findClass "NoteDocumentLaw" = some m.cls) (hbg : ∀ w ∈ BIG, w.before #[Value.ref b] s = true) (hK : nK (dC, dI) s) (hN : nS A s s.heap) (hA : ∀ q : Nat, s.heap.size ≤ q → A q) (hX : va_X b L xs s s.heap) (hbl : b < s.heap.size) (hbA : ¬ A b) {H : Heap} {locs : List Loc} {ls : Array Slot} {h0 : Nat} {m0 : Nat} {ou : Nat} {st : Nat} {v1 : Value} {v2 : Value} {v3 : Value} {v4 : Value} {v5 : Value} {v6 : Value} {v7 : Value} {v8 : Value} {v9 : Value} {v10 : Value} {w3 : Value} {w4 : Value} {w5 : Value} {w6 : Value} {w7 : Value} {w8 : Value} {w9 : Value} {w10 : Value} {w11 : Value} {w12 : Value} {w13 : Value} {w14 : Value} {w15 : Value} {w16 : Value} {w17 : Value} {w18 : Value} {w19 : Value} {nw : Nat} {z1 : Value} {z2 : Value} {z3 : Value} {z4 : Value} {z5 : Value} {z6 : Value} {z7 : Value} {z8 : Value} {z9 : Value} {z10 : Value} {z11 : Value} {z12 : Value} {z13 : Value} {z14 : Value} {z15 : Value} {z16 : Value} {t0 : Value} {t1 : Value} {t3 : Value} {t4 : Value} {t5 : Value} {t6 : Value} {t7 : Value} {t8 : Value} {t9 : Value} {t10 : Value} {t12 : Value} {t13 : Value} {t14 : Value} {t15 : Value} {t16 : Value} {t17 : Value} {t18 : Value} {t20 : Value} {t21 : Value} (hP : va_P (dC, dI) classes [(h0, .inr (0, [.ref st, v1, v2, v3, v4, v5, v6, v7, v8, v9, v10])), (st, .inr (8, [.int 0, .int 0, .int 0, w3, w4, w5, w6, w7, w8, w9, w10, w11, w12, w13, w14, w15, w16, w17, w18, w19])), (m0, .inr (10, [.ref nw, z1, z2, z3, z4, z5, z6, z7, z8, z9, z10, z11, z12, z13, z14, z15, z16])), (nw, .inr (12, [t0, t1, .int 0, t3, t4, t5, t6, t7, t8, t9, t10, .int 0, t12, t13, t14, t15, t16, t17, t18, .int 0, t20, t21]))] H) (hD : va_D A [(h0, .inr (0, [.ref st, v1, v2, v3, v4, v5, v6, v7, v8, v9, v10])), (st, .inr (8, [.int 0, .int 0, .int 0, w3, w4, w5, w6, w7, w8, w9, w10, w11, w12, w13, w14, w15, w16, w17, w18, w19])), (m0, .inr (10, [.ref nw, z1, z2, z3, z4, z5, z6, z7, z8, z9, z10, z11, z12, z13, z14, z15, z16])), (nw, .inr (12, [t0, t1, .int 0, t3, t4, t5, t6, t7, t8, t9, t10, .int 0, t12, t13, t14, t15, t16, t17, t18, .int 0, t20, t21]))]) (hS : va_S A s.heap H locs) (hl : lv_has ls 8 [(0, .ref b), (1, .ref h0), (2, .ref m0), (3, .ref ou), (4, .int 0)]) (hend : ∀ (H : Heap) (locs : List Loc) (ls : Array Slot), va_S A s.heap H locs → lv_has ls 8 [(4, .int 0), (0, .ref b)] → W p l e room_1 s m #[Value.ref b] below meth c H locs 600002 7302232 Z (F0 m 3410 ls [])) : W p l e room_1 s m #[Value.ref b] below meth c H locs 403 120029 Z (F0 m 456 ls []) := by
  subst hL
  refine lv_aload_n hx hb dM_L_law_456 rfl (lv_at hl 1 rfl) ?_
  refine lv_aload_n hx hb dM_L_law_457 rfl (lv_at hl 0 rfl) ?_
  refine lv_iload hx hb dM_L_law_458 (lv_at hl 4 rfl) ?_
  refine lv_iconst (v := 1) hx hb dM_L_law_460 (by decide) ?_
  refine lv_iadd hx hb dM_L_law_461 ?_
  refine lv_topi (fun y_1 ey_1 => ?_)
  obtain rfl : y_1 = 1 := ey_1.trans (by decide)
  refine va_sld hx hb hX hbl hbA hS (by unfold vp_in; decide) dM_L_law_462 ?_
  refine lv_topi (fun y_2 ey_2 => ?_)
  refine lv_aload_n hx hb dM_L_law_463 rfl (lv_at hl 0 rfl) ?_
  refine lv_iload hx hb dM_L_law_464 (lv_at hl 4 rfl) ?_
  refine lv_iconst (v := 2) hx hb dM_L_law_466 (by decide) ?_
  refine lv_iadd hx hb dM_L_law_467 ?_
  refine lv_topi (fun y_3 ey_3 => ?_)
  obtain rfl : y_3 = 2 := ey_3.trans (by decide)
  refine va_sld hx hb hX hbl hbA hS (by unfold vp_in; decide) dM_L_law_468 ?_
  refine lv_topi (fun y_4 ey_4 => ?_)
  refine lv_aload_n hx hb dM_L_law_469 rfl (lv_at hl 0 rfl) ?_
  refine lv_iload hx hb dM_L_law_470 (lv_at hl 4 rfl) ?_
  refine lv_iconst (v := 3) hx hb dM_L_law_472 (by decide) ?_
  refine lv_iadd hx hb dM_L_law_473 ?_
  refine lv_topi (fun y_5 ey_5 => ?_)
  obtain rfl : y_5 = 3 := ey_5.trans (by decide)
  refine va_sld hx hb hX hbl hbA hS (by unfold vp_in; decide) dM_L_law_474 ?_
  refine lv_topi (fun y_6 ey_6 => ?_)
  refine lv_aload_n hx hb dM_L_law_475 rfl (lv_at hl 0 rfl) ?_
  refine lv_iload hx hb dM_L_law_476 (lv_at hl 4 rfl) ?_
  refine lv_iconst (v := 4) hx hb dM_L_law_478 (by decide) ?_
  refine lv_iadd hx hb dM_L_law_479 ?_
  refine lv_topi (fun y_7 ey_7 => ?_)
  obtain rfl : y_7 = 4 := ey_7.trans (by decide)
  refine va_sld hx hb hX hbl hbA hS (by unfold vp_in; decide) dM_L_law_480 ?_
  refine lv_topi (fun y_8 ey_8 => ?_)
  have hFc := va_free (wc := [(h0, .inr (0, [.ref st, v1, v2, v3, v4, v5, v6, v7, v8, v9, v10])), (st, .inr (8, [.int 0, .int 0, .int 0, w3, w4, w5, w6, w7, w8, w9, w10, w11, w12, w13, w14, w15, w16, w17, w18, w19]))]) hD hS hA [0, 1] rfl
  refine va_calli (vx_runSW (As := [.ref h0, .int y_2, .int y_4, .int y_6, .int y_8]) (rest := []) ⟨hx, hb, hml, hown, hbg⟩ (c_L_put l hl9 dC dI h0 y_2 y_4 y_6 y_8 st v1 v2 v3 v4 v5 v6 v7 v8 v9 v10 w3 w4 w5 w6 w7 w8 w9 w10 w11 w12 w13 w14 w15 w16 w17 w18 w19 _ ) (vx_cwSW 5 hbg (gd_S (fun _ h => h) wd_1175 wd_1176 wd_0 (gd_wmW (fun _ h => h) wd_1177)) rfl rfl rfl (by decide +kernel) ⟨Nat.le_of_ble_eq_true rfl, Nat.le_of_ble_eq_true rfl⟩) (nPreS [0, 1] hP hD hK hN hS hA (by decide) rfl) rfl rfl hl.1 rfl (lv_room (Nat.le_of_ble_eq_true rfl)) dM_L_law_481 ⟨Nat.le_of_ble_eq_true rfl, Nat.le_of_ble_eq_true rfl⟩) hS (fun q _ h => hFc q h) hFc (fun r_9 u t H1 locs ht hvm hw hB hz1 hk1 hS => ?_)
  obtain rfl := hw
  obtain ⟨hP, hD⟩ := va_join (wr := [(m0, .inr (10, [.ref nw, z1, z2, z3, z4, z5, z6, z7, z8, z9, z10, z11, z12, z13, z14, z15, z16])), (nw, .inr (12, [t0, t1, .int 0, t3, t4, t5, t6, t7, t8, t9, t10, .int 0, t12, t13, t14, t15, t16, t17, t18, .int 0, t20, t21]))]) (w1 := []) hP hD [0, 1] [2, 3] rfl rfl (by decide) (by decide) hk1 hFc nP0 nD0
  generalize H1 = H at hP hS ⊢
  have hP : va_P (dC, dI) classes [(m0, .inr (10, [.ref nw, z1, z2, z3, z4, z5, z6, z7, z8, z9, z10, z11, z12, z13, z14, z15, z16])), (nw, .inr (12, [t0, t1, .int 0, t3, t4, t5, t6, t7, t8, t9, t10, .int 0, t12, t13, t14, t15, t16, t17, t18, .int 0, t20, t21]))] H := hP
  have hD : va_D A [(m0, .inr (10, [.ref nw, z1, z2, z3, z4, z5, z6, z7, z8, z9, z10, z11, z12, z13, z14, z15, z16])), (nw, .inr (12, [t0, t1, .int 0, t3, t4, t5, t6, t7, t8, t9, t10, .int 0, t12, t13, t14, t15, t16, t17, t18, .int 0, t20, t21]))] := hD
  refine W.widen (k := 404) (n := 120035) (Nat.le_of_ble_eq_true rfl) (Nat.le_of_ble_eq_true rfl) ?_
  refine lv_istore (lv' := [(5, .int 1), (0, .ref b), (1, .ref h0), (2, .ref m0), (3, .ref ou), (4, .int 0)]) hx hb dM_L_law_484 hl (by decide) rfl (fun ls hl => ?_)
  refine lv_aload_n hx hb dM_L_law_486 rfl (lv_at hl 3 rfl) ?_
  refine lv_aload_n hx hb dM_L_law_487 rfl (lv_at hl 1 rfl) ?_
  refine lv_iload hx hb dM_L_law_488 (lv_at hl 5 rfl) ?_
  refine lv_iconst (v := 1) hx hb dM_L_law_490 (by decide) ?_
  refine lv_iadd hx hb dM_L_law_491 ?_
  refine lv_topi (fun y_11 ey_11 => ?_)
  obtain rfl : y_11 = 1 := ey_11.trans (by decide)
  refine va_sld hx hb hX hbl hbA hS (by unfold vp_in; decide) dM_L_law_492 ?_
  refine lv_topi (fun y_12 ey_12 => ?_)
  obtain rfl : y_2 = y_12 := ey_2.trans ey_12.symm
  refine lv_aload_n hx hb dM_L_law_493 rfl (lv_at hl 1 rfl) ?_
  refine lv_iload hx hb dM_L_law_494 (lv_at hl 5 rfl) ?_
  refine lv_iconst (v := 2) hx hb dM_L_law_496 (by decide) ?_
  refine lv_iadd hx hb dM_L_law_497 ?_
  refine lv_topi (fun y_13 ey_13 => ?_)
  obtain rfl : y_13 = 2 := ey_13.trans (by decide)
  refine va_sld hx hb hX hbl hbA hS (by unfold vp_in; decide) dM_L_law_498 ?_
  refine lv_topi (fun y_14 ey_14 => ?_)
  obtain rfl : y_4 = y_14 := ey_4.trans ey_14.symm
  refine lv_aload_n hx hb dM_L_law_499 rfl (lv_at hl 1 rfl) ?_
  refine lv_iload hx hb dM_L_law_500 (lv_at hl 5 rfl) ?_
  refine lv_iconst (v := 3) hx hb dM_L_law_502 (by decide) ?_
  refine lv_iadd hx hb dM_L_law_503 ?_
  refine lv_topi (fun y_15 ey_15 => ?_)
  obtain rfl : y_15 = 3 := ey_15.trans (by decide)
  refine va_sld hx hb hX hbl hbA hS (by unfold vp_in; decide) dM_L_law_504 ?_
  refine lv_topi (fun y_16 ey_16 => ?_)
  obtain rfl : y_6 = y_16 := ey_6.trans ey_16.symm
  refine lv_aload_n hx hb dM_L_law_505 rfl (lv_at hl 1 rfl) ?_
  refine lv_iload hx hb dM_L_law_506 (lv_at hl 5 rfl) ?_
  refine lv_iconst (v := 4) hx hb dM_L_law_508 (by decide) ?_
  refine lv_iadd hx hb dM_L_law_509 ?_
  refine lv_topi (fun y_17 ey_17 => ?_)
  obtain rfl : y_17 = 4 := ey_17.trans (by decide)
  refine va_sld hx hb hX hbl hbA hS (by unfold vp_in; decide) dM_L_law_510 ?_
  refine lv_topi (fun y_18 ey_18 => ?_)
  obtain rfl : y_8 = y_18 := ey_8.trans ey_18.symm
  have hFc := va_free (wc := [(m0, .inr (10, [.ref nw, z1, z2, z3, z4, z5, z6, z7, z8, z9, z10, z11, z12, z13, z14, z15, z16])), (nw, .inr (12, [t0, t1, .int 0, t3, t4, t5, t6, t7, t8, t9, t10, .int 0, t12, t13, t14, t15, t16, t17, t18, .int 0, t20, t21]))]) hD hS hA [0, 1] rfl
  refine va_callv (va_runV (As := [.int y_2, .int y_4, .int y_6, .int y_8]) (rest := []) ⟨hx, hb, hml, hown, hbg⟩ (c_M_put l dC dI m0 y_2 y_4 y_6 y_8 nw z1 z2 z3 z4 z5 z6 z7 z8 z9 z10 z11 z12 z13 z14 z15 z16 t0 t1 t3 t4 t5 t6 t7 t8 t9 t10 t12 t13 t14 t15 t16 t17 t18 t20 t21 _ ) (cwV 4 hbg (gd_V (fun _ h => h) wd_2571 wd_2572 wd_2573 wd_12 (gd_wm (fun _ h => h) wd_2574)) rfl rfl rfl (by decide +kernel) ⟨Nat.le_of_ble_eq_true rfl, Nat.le_of_ble_eq_true rfl⟩) (nPreV [0, 1] hP hD hK hN hS hA (by decide) rfl 0 rfl rfl) rfl rfl hl.1 rfl (lv_room (Nat.le_of_ble_eq_true rfl)) dM_L_law_511 ⟨Nat.le_of_ble_eq_true rfl, Nat.le_of_ble_eq_true rfl⟩) hS (fun q _ h => hFc q h) hFc (fun u t H1 locs ht hvm hw hB hz1 hk1 hS => ?_)
  obtain rfl := hw
  obtain ⟨r0_21, r1_22, r2_23, r3_24, r4_25, r5_26, r6_27, r7_28, r8_29, r9_30, r10_31, r11_32, r12_33, r13_34, r14_35, r15_36, hP1, hD1⟩ := hB
  rw [ht] at hP1
  obtain ⟨hP, hD⟩ := va_join (wr := []) (w1 := [(m0, .inr (10, [r0_21, r1_22, r2_23, r3_24, r4_25, r5_26, r6_27, r7_28, r8_29, r9_30, r10_31, r11_32, r12_33, r13_34, r14_35, r15_36, .int 1]))]) hP hD [0, 1] [] rfl rfl (by decide) (by decide) hk1 hFc hP1 hD1
  generalize H1 = H at hP hS ⊢
  have hP : va_P (dC, dI) classes [(m0, .inr (10, [r0_21, r1_22, r2_23, r3_24, r4_25, r5_26, r6_27, r7_28, r8_29, r9_30, r10_31, r11_32, r12_33, r13_34, r14_35, r15_36, .int 1]))] H := hP
  have hD : va_D A [(m0, .inr (10, [r0_21, r1_22, r2_23, r3_24, r4_25, r5_26, r6_27, r7_28, r8_29, r9_30, r10_31, r11_32, r12_33, r13_34, r14_35, r15_36, .int 1]))] := hD
  refine W.widen (k := 404) (n := 120035) (Nat.le_of_ble_eq_true rfl) (Nat.le_of_ble_eq_true rfl) ?_
  refine lv_aload_n hx hb dM_L_law_514 rfl (lv_at hl 3 rfl) ?_
  have hFc := va_free (wc := [(m0, .inr (10, [r0_21, r1_22, r2_23, r3_24, r4_25, r5_26, r6_27, r7_28, r8_29, r9_30, r10_31, r11_32, r12_33, r13_34, r14_35, r15_36, .int 1]))]) hD hS hA [0] rfl
  refine va_calli (va_runV (As := []) (rest := []) ⟨hx, hb, hml, hown, hbg⟩ (c_M_thrown l dC dI m0 r0_21 r1_22 r2_23 r3_24 r4_25 r5_26 r6_27 r7_28 r8_29 r9_30 r10_31 r11_32 r12_33 r13_34 r14_35 r15_36 1 _ ) (cwV 0 hbg (gd_V (fun _ h => h) wd_2190 wd_2191 wd_2192 wd_12 (gd_wm (fun _ h => h) wd_2193)) rfl rfl rfl (by decide +kernel) ⟨Nat.le_of_ble_eq_true rfl, Nat.le_of_ble_eq_true rfl⟩) (nPreV [0] hP hD hK hN hS hA (by decide) rfl 0 rfl rfl) rfl rfl hl.1 rfl (lv_room (Nat.le_of_ble_eq_true rfl)) dM_L_law_515 ⟨Nat.le_of_ble_eq_true rfl, Nat.le_of_ble_eq_true rfl⟩) hS (fun q _ h => hFc q h) hFc (fun r_37 u t H1 locs ht hvm hw hB hz1 hk1 hS => ?_)
  obtain ⟨rfl, rfl⟩ := hw
  obtain ⟨r0_39, r1_40, r2_41, r3_42, r4_43, r5_44, r6_45, r7_46, r8_47, r9_48, r10_49, r11_50, r12_51, r13_52, r14_53, r15_54, hP1, hD1⟩ := hB
  rw [ht] at hP1
  obtain ⟨hP, hD⟩ := va_join (wr := []) (w1 := [(m0, .inr (10, [r0_39, r1_40, r2_41, r3_42, r4_43, r5_44, r6_45, r7_46, r8_47, r9_48, r10_49, r11_50, r12_51, r13_52, r14_53, r15_54, .int 1]))]) hP hD [0] [] rfl rfl (by decide) (by decide) hk1 hFc hP1 hD1
  generalize H1 = H at hP hS ⊢
  have hP : va_P (dC, dI) classes [(m0, .inr (10, [r0_39, r1_40, r2_41, r3_42, r4_43, r5_44, r6_45, r7_46, r8_47, r9_48, r10_49, r11_50, r12_51, r13_52, r14_53, r15_54, .int 1]))] H := hP
  have hD : va_D A [(m0, .inr (10, [r0_39, r1_40, r2_41, r3_42, r4_43, r5_44, r6_45, r7_46, r8_47, r9_48, r10_49, r11_50, r12_51, r13_52, r14_53, r15_54, .int 1]))] := hD
  refine W.widen (k := 404) (n := 120035) (Nat.le_of_ble_eq_true rfl) (Nat.le_of_ble_eq_true rfl) ?_
  refine lv_iload hx hb dM_L_law_518 (lv_at hl 0 rfl) ?_
  refine lv_icmp_eq (tgt := 525) hx hb dM_L_law_520 (by decide) (fun _ => ?_) (fun q => absurd (by decide) q)
  refine lv_goto (tgt := 3410) hx hb dM_L_law_525 (by decide) ?_
  refine W.widen (k := 600002) (n := 7302232) (Nat.le_of_ble_eq_true rfl) (Nat.le_of_ble_eq_true rfl) ?_
  exact hend _ _ _ hS (lv_sub hl [5, 1] rfl)
set_option maxHeartbeats 4000000 in
set_option maxRecDepth 100000 in
theorem lawc_4 {p : Program} {e : Env} {s : State} {m : MethodId} {below : List Frame} {meth : Method} {c : Code} {Z : State → Prop} (l : Launch) (hl9 : l.stackTraces = false) (dC : Nat → ClassId) (dI : Nat → Nat → Nat) {A : Nat → Prop} {b L : Nat} {xs : Nat → Int32} (hL : L = 8) (hx : p.tables.exec = Jvm.exec) (hb : c.code = cM_L_law) (hml : c.maxLocals = 8) (hown : s.vm.findClass "NoteDocumentLaw" = some m.cls) (hbg : ∀ w ∈ BIG, w.before #[Value.ref b] s = true) (hK : nK (dC, dI) s) (hN : nS A s s.heap) (hA : ∀ q : Nat, s.heap.size ≤ q → A q) (hX : va_X b L xs s s.heap) (hbl : b < s.heap.size) (hbA : ¬ A b) {H : Heap} {locs : List Loc} {ls : Array Slot} {h0 : Nat} {m0 : Nat} {ou : Nat} {st : Nat} {v1 : Value} {v2 : Value} {v3 : Value} {v4 : Value} {v5 : Value} {v6 : Value} {v7 : Value} {v8 : Value} {v9 : Value} {v10 : Value} {w3 : Value} {w4 : Value} {w5 : Value} {w6 : Value} {w7 : Value} {w8 : Value} {w9 : Value} {w10 : Value} {w11 : Value} {w12 : Value} {w13 : Value} {w14 : Value} {w15 : Value} {w16 : Value} {w17 : Value} {w18 : Value} {w19 : Value} {f0 : Nat → Int64} {nw : Nat} {z1 : Value} {z2 : Value} {z3 : Value} {z4 : Value} {z5 : Value} {z6 : Value} {z7 : Value} {z8 : Value} {z9 : Value} {z10 : Value} {z11 : Value} {z12 : Value} {z13 : Value} {z14 : Value} {z15 : Value} {z16 : Value} {t0 : Value} {t1 : Value} {t3 : Value} {t4 : Value} {t5 : Value} {t6 : Value} {t7 : Value} {t8 : Value} {t9 : Value} {t10 : Value} {t12 : Value} {t13 : Value} {t14 : Value} {t15 : Value} {t16 : Value} {t17 : Value} {t18 : Value} {t20 : Value} {t21 : Value} (hP : va_P (dC, dI) classes [(h0, .inr (0, [.ref st, v1, v2, v3, v4, v5, v6, v7, v8, v9, v10])), (st, .inr (8, [.int 0, .int 0, .int 0, w3, w4, w5, w6, w7, w8, w9, w10, w11, w12, w13, w14, w15, w16, w17, w18, w19])), (ou, .inl (dC 101, 1, .inr (.inl f0))), (m0, .inr (10, [.ref nw, z1, z2, z3, z4, z5, z6, z7, z8, z9, z10, z11, z12, z13, z14, z15, z16])), (nw, .inr (12, [t0, t1, .int 0, t3, t4, t5, t6, t7, t8, t9, t10, .int 0, t12, t13, t14, t15, t16, t17, t18, .int 0, t20, t21]))] H) (hD : va_D A [(h0, .inr (0, [.ref st, v1, v2, v3, v4, v5, v6, v7, v8, v9, v10])), (st, .inr (8, [.int 0, .int 0, .int 0, w3, w4, w5, w6, w7, w8, w9, w10, w11, w12, w13, w14, w15, w16, w17, w18, w19])), (ou, .inl (dC 101, 1, .inr (.inl f0))), (m0, .inr (10, [.ref nw, z1, z2, z3, z4, z5, z6, z7, z8, z9, z10, z11, z12, z13, z14, z15, z16])), (nw, .inr (12, [t0, t1, .int 0, t3, t4, t5, t6, t7, t8, t9, t10, .int 0, t12, t13, t14, t15, t16, t17, t18, .int 0, t20, t21]))]) (hS : va_S A s.heap H locs) (hl : lv_has ls 8 [(0, .ref b), (1, .ref h0), (2, .ref m0), (3, .ref ou), (4, .int 0)]) (hend : ∀ (H : Heap) (locs : List Loc) (ls : Array Slot), va_S A s.heap H locs → lv_has ls 8 [(4, .int 0), (0, .ref b)] → W p l e room_1 s m #[Value.ref b] below meth c H locs 600002 7302232 Z (F0 m 3410 ls [])) : W p l e room_1 s m #[Value.ref b] below meth c H locs 403 120029 Z (F0 m 528 ls []) := by
  subst hL
  refine lv_aload_n hx hb dM_L_law_528 rfl (lv_at hl 1 rfl) ?_
  refine lv_aload_n hx hb dM_L_law_529 rfl (lv_at hl 0 rfl) ?_
  refine lv_iload hx hb dM_L_law_530 (lv_at hl 4 rfl) ?_
  refine lv_iconst (v := 1) hx hb dM_L_law_532 (by decide) ?_
  refine lv_iadd hx hb dM_L_law_533 ?_
  refine lv_topi (fun y_1 ey_1 => ?_)
  obtain rfl : y_1 = 1 := ey_1.trans (by decide)
  refine va_sld hx hb hX hbl hbA hS (by unfold vp_in; decide) dM_L_law_534 ?_
  refine lv_topi (fun y_2 ey_2 => ?_)
  refine lv_aload_n hx hb dM_L_law_535 rfl (lv_at hl 0 rfl) ?_
  refine lv_iload hx hb dM_L_law_536 (lv_at hl 4 rfl) ?_
  refine lv_iconst (v := 2) hx hb dM_L_law_538 (by decide) ?_
  refine lv_iadd hx hb dM_L_law_539 ?_
  refine lv_topi (fun y_3 ey_3 => ?_)
  obtain rfl : y_3 = 2 := ey_3.trans (by decide)
  refine va_sld hx hb hX hbl hbA hS (by unfold vp_in; decide) dM_L_law_540 ?_
  refine lv_topi (fun y_4 ey_4 => ?_)
  refine lv_aload_n hx hb dM_L_law_541 rfl (lv_at hl 0 rfl) ?_
  refine lv_iload hx hb dM_L_law_542 (lv_at hl 4 rfl) ?_
  refine lv_iconst (v := 3) hx hb dM_L_law_544 (by decide) ?_
  refine lv_iadd hx hb dM_L_law_545 ?_
  refine lv_topi (fun y_5 ey_5 => ?_)
  obtain rfl : y_5 = 3 := ey_5.trans (by decide)
  refine va_sld hx hb hX hbl hbA hS (by unfold vp_in; decide) dM_L_law_546 ?_
  refine lv_topi (fun y_6 ey_6 => ?_)
  refine lv_aload_n hx hb dM_L_law_547 rfl (lv_at hl 3 rfl) ?_
  have hFc := va_free (wc := [(h0, .inr (0, [.ref st, v1, v2, v3, v4, v5, v6, v7, v8, v9, v10])), (st, .inr (8, [.int 0, .int 0, .int 0, w3, w4, w5, w6, w7, w8, w9, w10, w11, w12, w13, w14, w15, w16, w17, w18, w19])), (ou, .inl (dC 101, 1, .inr (.inl f0)))]) hD hS hA [0, 1, 2] rfl
  refine va_calli (vx_runSW (As := [.ref h0, .int y_2, .int y_4, .int y_6, .ref ou]) (rest := []) ⟨hx, hb, hml, hown, hbg⟩ (c_L_erase l hl9 dC dI h0 y_2 y_4 y_6 ou st v1 v2 v3 v4 v5 v6 v7 v8 v9 v10 w3 w4 w5 w6 w7 w8 w9 w10 w11 w12 w13 w14 w15 w16 w17 w18 w19 f0 _ ) (vx_cwSW 5 hbg (gd_S (fun _ h => h) wd_1195 wd_1196 wd_0 (gd_wmW (fun _ h => h) wd_1197)) rfl rfl rfl (by decide +kernel) ⟨Nat.le_of_ble_eq_true rfl, Nat.le_of_ble_eq_true rfl⟩) (nPreS [0, 1, 2] hP hD hK hN hS hA (by decide) rfl) rfl rfl hl.1 rfl (lv_room (Nat.le_of_ble_eq_true rfl)) dM_L_law_548 ⟨Nat.le_of_ble_eq_true rfl, Nat.le_of_ble_eq_true rfl⟩) hS (fun q _ h => hFc q h) hFc (fun r_7 u t H1 locs ht hvm hw hB hz1 hk1 hS => ?_)
  obtain ⟨rfl, hu_9⟩ := hw
  obtain rfl := hu_9.symm
  obtain ⟨hP1, hD1⟩ := hB
  rw [ht] at hP1
  obtain ⟨hP, hD⟩ := va_join (wr := [(m0, .inr (10, [.ref nw, z1, z2, z3, z4, z5, z6, z7, z8, z9, z10, z11, z12, z13, z14, z15, z16])), (nw, .inr (12, [t0, t1, .int 0, t3, t4, t5, t6, t7, t8, t9, t10, .int 0, t12, t13, t14, t15, t16, t17, t18, .int 0, t20, t21]))]) (w1 := [(ou, .inl (dC 101, 1, .inr (.inl f0)))]) hP hD [0, 1, 2] [3, 4] rfl rfl (by decide) (by decide) hk1 hFc hP1 hD1
  generalize H1 = H at hP hS ⊢
  have hP : va_P (dC, dI) classes [(m0, .inr (10, [.ref nw, z1, z2, z3, z4, z5, z6, z7, z8, z9, z10, z11, z12, z13, z14, z15, z16])), (nw, .inr (12, [t0, t1, .int 0, t3, t4, t5, t6, t7, t8, t9, t10, .int 0, t12, t13, t14, t15, t16, t17, t18, .int 0, t20, t21])), (ou, .inl (dC 101, 1, .inr (.inl f0)))] H := hP
  have hD : va_D A [(m0, .inr (10, [.ref nw, z1, z2, z3, z4, z5, z6, z7, z8, z9, z10, z11, z12, z13, z14, z15, z16])), (nw, .inr (12, [t0, t1, .int 0, t3, t4, t5, t6, t7, t8, t9, t10, .int 0, t12, t13, t14, t15, t16, t17, t18, .int 0, t20, t21])), (ou, .inl (dC 101, 1, .inr (.inl f0)))] := hD
  refine W.widen (k := 404) (n := 120035) (Nat.le_of_ble_eq_true rfl) (Nat.le_of_ble_eq_true rfl) ?_
  refine lv_istore (lv' := [(5, .int 1), (0, .ref b), (1, .ref h0), (2, .ref m0), (3, .ref ou), (4, .int 0)]) hx hb dM_L_law_551 hl (by decide) rfl (fun ls hl => ?_)
  refine lv_aload_n hx hb dM_L_law_553 rfl (lv_at hl 3 rfl) ?_
  refine lv_aload_n hx hb dM_L_law_554 rfl (lv_at hl 1 rfl) ?_
  refine lv_iload hx hb dM_L_law_555 (lv_at hl 5 rfl) ?_
  refine lv_iconst (v := 1) hx hb dM_L_law_557 (by decide) ?_
  refine lv_iadd hx hb dM_L_law_558 ?_
  refine lv_topi (fun y_10 ey_10 => ?_)
  obtain rfl : y_10 = 1 := ey_10.trans (by decide)
  refine va_sld hx hb hX hbl hbA hS (by unfold vp_in; decide) dM_L_law_559 ?_
  refine lv_topi (fun y_11 ey_11 => ?_)
  obtain rfl : y_2 = y_11 := ey_2.trans ey_11.symm
  refine lv_aload_n hx hb dM_L_law_560 rfl (lv_at hl 1 rfl) ?_
  refine lv_iload hx hb dM_L_law_561 (lv_at hl 5 rfl) ?_
  refine lv_iconst (v := 2) hx hb dM_L_law_563 (by decide) ?_
  refine lv_iadd hx hb dM_L_law_564 ?_
  refine lv_topi (fun y_12 ey_12 => ?_)
  obtain rfl : y_12 = 2 := ey_12.trans (by decide)
  refine va_sld hx hb hX hbl hbA hS (by unfold vp_in; decide) dM_L_law_565 ?_
  refine lv_topi (fun y_13 ey_13 => ?_)
  obtain rfl : y_4 = y_13 := ey_4.trans ey_13.symm
  refine lv_aload_n hx hb dM_L_law_566 rfl (lv_at hl 1 rfl) ?_
  refine lv_iload hx hb dM_L_law_567 (lv_at hl 5 rfl) ?_
  refine lv_iconst (v := 3) hx hb dM_L_law_569 (by decide) ?_
  refine lv_iadd hx hb dM_L_law_570 ?_
  refine lv_topi (fun y_14 ey_14 => ?_)
  obtain rfl : y_14 = 3 := ey_14.trans (by decide)
  refine va_sld hx hb hX hbl hbA hS (by unfold vp_in; decide) dM_L_law_571 ?_
  refine lv_topi (fun y_15 ey_15 => ?_)
  obtain rfl : y_6 = y_15 := ey_6.trans ey_15.symm
  have hFc := va_free (wc := [(m0, .inr (10, [.ref nw, z1, z2, z3, z4, z5, z6, z7, z8, z9, z10, z11, z12, z13, z14, z15, z16])), (nw, .inr (12, [t0, t1, .int 0, t3, t4, t5, t6, t7, t8, t9, t10, .int 0, t12, t13, t14, t15, t16, t17, t18, .int 0, t20, t21]))]) hD hS hA [0, 1] rfl
  refine va_calli (va_runV (As := [.int y_2, .int y_4, .int y_6]) (rest := []) ⟨hx, hb, hml, hown, hbg⟩ (c_M_erase l dC dI m0 y_2 y_4 y_6 nw z1 z2 z3 z4 z5 z6 z7 z8 z9 z10 z11 z12 z13 z14 z15 z16 t0 t1 t3 t4 t5 t6 t7 t8 t9 t10 t12 t13 t14 t15 t16 t17 t18 t20 t21 _ ) (cwV 3 hbg (gd_V (fun _ h => h) wd_2579 wd_2580 wd_2581 wd_12 (gd_wm (fun _ h => h) wd_2582)) rfl rfl rfl (by decide +kernel) ⟨Nat.le_of_ble_eq_true rfl, Nat.le_of_ble_eq_true rfl⟩) (nPreV [0, 1] hP hD hK hN hS hA (by decide) rfl 0 rfl rfl) rfl rfl hl.1 rfl (lv_room (Nat.le_of_ble_eq_true rfl)) dM_L_law_572 ⟨Nat.le_of_ble_eq_true rfl, Nat.le_of_ble_eq_true rfl⟩) hS (fun q _ h => hFc q h) hFc (fun r_16 u t H1 locs ht hvm hw hB hz1 hk1 hS => ?_)
  obtain ⟨rfl, rfl⟩ := hw
  obtain ⟨r0_18, r1_19, r2_20, r3_21, r4_22, r5_23, r6_24, r7_25, r8_26, r9_27, r10_28, r11_29, r12_30, r13_31, r14_32, r15_33, hP1, hD1⟩ := hB
  rw [ht] at hP1
  obtain ⟨hP, hD⟩ := va_join (wr := [(ou, .inl (dC 101, 1, .inr (.inl f0)))]) (w1 := [(m0, .inr (10, [r0_18, r1_19, r2_20, r3_21, r4_22, r5_23, r6_24, r7_25, r8_26, r9_27, r10_28, r11_29, r12_30, r13_31, r14_32, r15_33, .int 1]))]) hP hD [0, 1] [2] rfl rfl (by decide) (by decide) hk1 hFc hP1 hD1
  generalize H1 = H at hP hS ⊢
  have hP : va_P (dC, dI) classes [(ou, .inl (dC 101, 1, .inr (.inl f0))), (m0, .inr (10, [r0_18, r1_19, r2_20, r3_21, r4_22, r5_23, r6_24, r7_25, r8_26, r9_27, r10_28, r11_29, r12_30, r13_31, r14_32, r15_33, .int 1]))] H := hP
  have hD : va_D A [(ou, .inl (dC 101, 1, .inr (.inl f0))), (m0, .inr (10, [r0_18, r1_19, r2_20, r3_21, r4_22, r5_23, r6_24, r7_25, r8_26, r9_27, r10_28, r11_29, r12_30, r13_31, r14_32, r15_33, .int 1]))] := hD
  refine W.widen (k := 404) (n := 120035) (Nat.le_of_ble_eq_true rfl) (Nat.le_of_ble_eq_true rfl) ?_
  refine lv_istore (lv' := [(6, .int 0), (5, .int 1), (0, .ref b), (1, .ref h0), (2, .ref m0), (3, .ref ou), (4, .int 0)]) hx hb dM_L_law_575 hl (by decide) rfl (fun ls hl => ?_)
  refine lv_aload_n hx hb dM_L_law_577 rfl (lv_at hl 4 rfl) ?_
  have hFc := va_free (wc := [(m0, .inr (10, [r0_18, r1_19, r2_20, r3_21, r4_22, r5_23, r6_24, r7_25, r8_26, r9_27, r10_28, r11_29, r12_30, r13_31, r14_32, r15_33, .int 1]))]) hD hS hA [1] rfl
  refine va_calli (va_runV (As := []) (rest := []) ⟨hx, hb, hml, hown, hbg⟩ (c_M_thrown l dC dI m0 r0_18 r1_19 r2_20 r3_21 r4_22 r5_23 r6_24 r7_25 r8_26 r9_27 r10_28 r11_29 r12_30 r13_31 r14_32 r15_33 1 _ ) (cwV 0 hbg (gd_V (fun _ h => h) wd_2190 wd_2191 wd_2192 wd_12 (gd_wm (fun _ h => h) wd_2193)) rfl rfl rfl (by decide +kernel) ⟨Nat.le_of_ble_eq_true rfl, Nat.le_of_ble_eq_true rfl⟩) (nPreV [1] hP hD hK hN hS hA (by decide) rfl 1 rfl rfl) rfl rfl hl.1 rfl (lv_room (Nat.le_of_ble_eq_true rfl)) dM_L_law_578 ⟨Nat.le_of_ble_eq_true rfl, Nat.le_of_ble_eq_true rfl⟩) hS (fun q _ h => hFc q h) hFc (fun r_34 u t H1 locs ht hvm hw hB hz1 hk1 hS => ?_)
  obtain ⟨rfl, rfl⟩ := hw
  obtain ⟨r0_36, r1_37, r2_38, r3_39, r4_40, r5_41, r6_42, r7_43, r8_44, r9_45, r10_46, r11_47, r12_48, r13_49, r14_50, r15_51, hP1, hD1⟩ := hB
  rw [ht] at hP1
  obtain ⟨hP, hD⟩ := va_join (wr := [(ou, .inl (dC 101, 1, .inr (.inl f0)))]) (w1 := [(m0, .inr (10, [r0_36, r1_37, r2_38, r3_39, r4_40, r5_41, r6_42, r7_43, r8_44, r9_45, r10_46, r11_47, r12_48, r13_49, r14_50, r15_51, .int 1]))]) hP hD [1] [0] rfl rfl (by decide) (by decide) hk1 hFc hP1 hD1
  generalize H1 = H at hP hS ⊢
  have hP : va_P (dC, dI) classes [(ou, .inl (dC 101, 1, .inr (.inl f0))), (m0, .inr (10, [r0_36, r1_37, r2_38, r3_39, r4_40, r5_41, r6_42, r7_43, r8_44, r9_45, r10_46, r11_47, r12_48, r13_49, r14_50, r15_51, .int 1]))] H := hP
  have hD : va_D A [(ou, .inl (dC 101, 1, .inr (.inl f0))), (m0, .inr (10, [r0_36, r1_37, r2_38, r3_39, r4_40, r5_41, r6_42, r7_43, r8_44, r9_45, r10_46, r11_47, r12_48, r13_49, r14_50, r15_51, .int 1]))] := hD
  refine W.widen (k := 404) (n := 120035) (Nat.le_of_ble_eq_true rfl) (Nat.le_of_ble_eq_true rfl) ?_
  refine lv_iload hx hb dM_L_law_581 (lv_at hl 1 rfl) ?_
  refine lv_icmp_eq (tgt := 588) hx hb dM_L_law_583 (by decide) (fun _ => ?_) (fun q => absurd (by decide) q)
  refine lv_iload hx hb dM_L_law_588 (lv_at hl 1 rfl) ?_
  refine lv_if_ne (tgt := 605) hx hb dM_L_law_590 (by decide) (fun _ => ?_) (fun q => absurd q (by decide))
  refine lv_goto (tgt := 3410) hx hb dM_L_law_605 (by decide) ?_
  refine W.widen (k := 600002) (n := 7302232) (Nat.le_of_ble_eq_true rfl) (Nat.le_of_ble_eq_true rfl) ?_
  exact hend _ _ _ hS (lv_sub hl [6, 2] rfl)
set_option maxHeartbeats 4000000 in
set_option maxRecDepth 100000 in
theorem lawc_5 {p : Program} {e : Env} {s : State} {m : MethodId} {below : List Frame} {meth : Method} {c : Code} {Z : State → Prop} (l : Launch) (hl9 : l.stackTraces = false) (dC : Nat → ClassId) (dI : Nat → Nat → Nat) {A : Nat → Prop} {b L : Nat} {xs : Nat → Int32} (hL : L = 8) (hx : p.tables.exec = Jvm.exec) (hb : c.code = cM_L_law) (hml : c.maxLocals = 8) (hown : s.vm.findClass "NoteDocumentLaw" = some m.cls) (hbg : ∀ w ∈ BIG, w.before #[Value.ref b] s = true) (hK : nK (dC, dI) s) (hN : nS A s s.heap) (hA : ∀ q : Nat, s.heap.size ≤ q → A q) (hX : va_X b L xs s s.heap) (hbl : b < s.heap.size) (hbA : ¬ A b) {H : Heap} {locs : List Loc} {ls : Array Slot} {h0 : Nat} {m0 : Nat} {ou : Nat} {st : Nat} {v1 : Value} {v2 : Value} {v3 : Value} {v4 : Value} {v5 : Value} {v6 : Value} {v7 : Value} {v8 : Value} {v9 : Value} {v10 : Value} {w3 : Value} {w4 : Value} {w5 : Value} {w6 : Value} {w7 : Value} {w8 : Value} {w9 : Value} {w10 : Value} {w11 : Value} {w12 : Value} {w13 : Value} {w14 : Value} {w15 : Value} {w16 : Value} {w17 : Value} {w18 : Value} {w19 : Value} {f0 : Nat → Int64} {nw : Nat} {z1 : Value} {z2 : Value} {z3 : Value} {z4 : Value} {z5 : Value} {z6 : Value} {z7 : Value} {z8 : Value} {z9 : Value} {z10 : Value} {z11 : Value} {z12 : Value} {z13 : Value} {z14 : Value} {z15 : Value} {z16 : Value} {t0 : Value} {t1 : Value} {t3 : Value} {t4 : Value} {t5 : Value} {t6 : Value} {t7 : Value} {t8 : Value} {t9 : Value} {t10 : Value} {t12 : Value} {t13 : Value} {t14 : Value} {t15 : Value} {t16 : Value} {t17 : Value} {t18 : Value} {t20 : Value} {t21 : Value} (hP : va_P (dC, dI) classes [(h0, .inr (0, [.ref st, v1, v2, v3, v4, v5, v6, v7, v8, v9, v10])), (st, .inr (8, [.int 0, .int 0, .int 0, w3, w4, w5, w6, w7, w8, w9, w10, w11, w12, w13, w14, w15, w16, w17, w18, w19])), (ou, .inl (dC 101, 1, .inr (.inl f0))), (m0, .inr (10, [.ref nw, z1, z2, z3, z4, z5, z6, z7, z8, z9, z10, z11, z12, z13, z14, z15, z16])), (nw, .inr (12, [t0, t1, .int 0, t3, t4, t5, t6, t7, t8, t9, t10, .int 0, t12, t13, t14, t15, t16, t17, t18, .int 0, t20, t21]))] H) (hD : va_D A [(h0, .inr (0, [.ref st, v1, v2, v3, v4, v5, v6, v7, v8, v9, v10])), (st, .inr (8, [.int 0, .int 0, .int 0, w3, w4, w5, w6, w7, w8, w9, w10, w11, w12, w13, w14, w15, w16, w17, w18, w19])), (ou, .inl (dC 101, 1, .inr (.inl f0))), (m0, .inr (10, [.ref nw, z1, z2, z3, z4, z5, z6, z7, z8, z9, z10, z11, z12, z13, z14, z15, z16])), (nw, .inr (12, [t0, t1, .int 0, t3, t4, t5, t6, t7, t8, t9, t10, .int 0, t12, t13, t14, t15, t16, t17, t18, .int 0, t20, t21]))]) (hS : va_S A s.heap H locs) (hl : lv_has ls 8 [(0, .ref b), (1, .ref h0), (2, .ref m0), (3, .ref ou), (4, .int 0)]) (hend : ∀ (H : Heap) (locs : List Loc) (ls : Array Slot), va_S A s.heap H locs → lv_has ls 8 [(4, .int 0), (0, .ref b)] → W p l e room_1 s m #[Value.ref b] below meth c H locs 600002 7302232 Z (F0 m 3410 ls [])) : W p l e room_1 s m #[Value.ref b] below meth c H locs 403 120029 Z (F0 m 608 ls []) := by
  subst hL
  refine lv_aload_n hx hb dM_L_law_608 rfl (lv_at hl 1 rfl) ?_
  refine lv_aload_n hx hb dM_L_law_609 rfl (lv_at hl 0 rfl) ?_
  refine lv_iload hx hb dM_L_law_610 (lv_at hl 4 rfl) ?_
  refine lv_iconst (v := 1) hx hb dM_L_law_612 (by decide) ?_
  refine lv_iadd hx hb dM_L_law_613 ?_
  refine lv_topi (fun y_1 ey_1 => ?_)
  obtain rfl : y_1 = 1 := ey_1.trans (by decide)
  refine va_sld hx hb hX hbl hbA hS (by unfold vp_in; decide) dM_L_law_614 ?_
  refine lv_topi (fun y_2 ey_2 => ?_)
  refine lv_aload_n hx hb dM_L_law_615 rfl (lv_at hl 0 rfl) ?_
  refine lv_iload hx hb dM_L_law_616 (lv_at hl 4 rfl) ?_
  refine lv_iconst (v := 2) hx hb dM_L_law_618 (by decide) ?_
  refine lv_iadd hx hb dM_L_law_619 ?_
  refine lv_topi (fun y_3 ey_3 => ?_)
  obtain rfl : y_3 = 2 := ey_3.trans (by decide)
  refine va_sld hx hb hX hbl hbA hS (by unfold vp_in; decide) dM_L_law_620 ?_
  refine lv_topi (fun y_4 ey_4 => ?_)
  refine lv_aload_n hx hb dM_L_law_621 rfl (lv_at hl 0 rfl) ?_
  refine lv_iload hx hb dM_L_law_622 (lv_at hl 4 rfl) ?_
  refine lv_iconst (v := 3) hx hb dM_L_law_624 (by decide) ?_
  refine lv_iadd hx hb dM_L_law_625 ?_
  refine lv_topi (fun y_5 ey_5 => ?_)
  obtain rfl : y_5 = 3 := ey_5.trans (by decide)
  refine va_sld hx hb hX hbl hbA hS (by unfold vp_in; decide) dM_L_law_626 ?_
  refine lv_topi (fun y_6 ey_6 => ?_)
  refine lv_aload_n hx hb dM_L_law_627 rfl (lv_at hl 0 rfl) ?_
  refine lv_iload hx hb dM_L_law_628 (lv_at hl 4 rfl) ?_
  refine lv_iconst (v := 4) hx hb dM_L_law_630 (by decide) ?_
  refine lv_iadd hx hb dM_L_law_631 ?_
  refine lv_topi (fun y_7 ey_7 => ?_)
  obtain rfl : y_7 = 4 := ey_7.trans (by decide)
  refine va_sld hx hb hX hbl hbA hS (by unfold vp_in; decide) dM_L_law_632 ?_
  refine lv_topi (fun y_8 ey_8 => ?_)
  refine lv_i2l (v := y_8.toInt64) hx hb dM_L_law_633 rfl ?_
  refine lv_bipush (v := 32) hx hb dM_L_law_634 (by decide) ?_
  refine lv_lshl (v := y_8.toInt64 <<< ((32 : Int32).toInt64 &&& 63)) hx hb dM_L_law_636 rfl ?_
  refine lv_aload_n hx hb dM_L_law_637 rfl (lv_at hl 0 rfl) ?_
  refine lv_iload hx hb dM_L_law_638 (lv_at hl 4 rfl) ?_
  refine lv_iconst (v := 5) hx hb dM_L_law_640 (by decide) ?_
  refine lv_iadd hx hb dM_L_law_641 ?_
  refine lv_topi (fun y_9 ey_9 => ?_)
  obtain rfl : y_9 = 5 := ey_9.trans (by decide)
  refine va_sld hx hb hX hbl hbA hS (by unfold vp_in; decide) dM_L_law_642 ?_
  refine lv_topi (fun y_10 ey_10 => ?_)
  refine lv_i2l (v := y_10.toInt64) hx hb dM_L_law_643 rfl ?_
  refine lv_ldc2 (v := 4294967295) hx hb hown (hbg _ wd_2851) dM_L_law_644 ?_
  refine lv_land hx hb dM_L_law_647 ?_
  refine lv_topl (fun y_11 ey_11 => ?_)
  refine lv_lor hx hb dM_L_law_648 ?_
  refine lv_topl (fun y_12 ey_12 => ?_)
  refine lv_aload_n hx hb dM_L_law_649 rfl (lv_at hl 3 rfl) ?_
  have hFc := va_free (wc := [(h0, .inr (0, [.ref st, v1, v2, v3, v4, v5, v6, v7, v8, v9, v10])), (st, .inr (8, [.int 0, .int 0, .int 0, w3, w4, w5, w6, w7, w8, w9, w10, w11, w12, w13, w14, w15, w16, w17, w18, w19])), (ou, .inl (dC 101, 1, .inr (.inl f0)))]) hD hS hA [0, 1, 2] rfl
  refine va_calli (vx_runSW (As := [.ref h0, .int y_2, .int y_4, .int y_6, .long y_12, .ref ou]) (rest := []) ⟨hx, hb, hml, hown, hbg⟩ (c_L_hold l hl9 dC dI h0 y_2 y_4 y_6 y_12 ou st v1 v2 v3 v4 v5 v6 v7 v8 v9 v10 w3 w4 w5 w6 w7 w8 w9 w10 w11 w12 w13 w14 w15 w16 w17 w18 w19 f0 _ ) (vx_cwSW 6 hbg (gd_S (fun _ h => h) wd_1204 wd_1205 wd_0 (gd_wmW (fun _ h => h) wd_1206)) rfl rfl rfl (by decide +kernel) ⟨Nat.le_of_ble_eq_true rfl, Nat.le_of_ble_eq_true rfl⟩) (nPreS [0, 1, 2] hP hD hK hN hS hA (by decide) rfl) rfl rfl hl.1 rfl (lv_room (Nat.le_of_ble_eq_true rfl)) dM_L_law_650 ⟨Nat.le_of_ble_eq_true rfl, Nat.le_of_ble_eq_true rfl⟩) hS (fun q _ h => hFc q h) hFc (fun r_13 u t H1 locs ht hvm hw hB hz1 hk1 hS => ?_)
  obtain ⟨rfl, hu_15⟩ := hw
  obtain rfl := hu_15.symm
  obtain ⟨hP1, hD1⟩ := hB
  rw [ht] at hP1
  obtain ⟨hP, hD⟩ := va_join (wr := [(m0, .inr (10, [.ref nw, z1, z2, z3, z4, z5, z6, z7, z8, z9, z10, z11, z12, z13, z14, z15, z16])), (nw, .inr (12, [t0, t1, .int 0, t3, t4, t5, t6, t7, t8, t9, t10, .int 0, t12, t13, t14, t15, t16, t17, t18, .int 0, t20, t21]))]) (w1 := [(ou, .inl (dC 101, 1, .inr (.inl f0)))]) hP hD [0, 1, 2] [3, 4] rfl rfl (by decide) (by decide) hk1 hFc hP1 hD1
  generalize H1 = H at hP hS ⊢
  have hP : va_P (dC, dI) classes [(m0, .inr (10, [.ref nw, z1, z2, z3, z4, z5, z6, z7, z8, z9, z10, z11, z12, z13, z14, z15, z16])), (nw, .inr (12, [t0, t1, .int 0, t3, t4, t5, t6, t7, t8, t9, t10, .int 0, t12, t13, t14, t15, t16, t17, t18, .int 0, t20, t21])), (ou, .inl (dC 101, 1, .inr (.inl f0)))] H := hP
  have hD : va_D A [(m0, .inr (10, [.ref nw, z1, z2, z3, z4, z5, z6, z7, z8, z9, z10, z11, z12, z13, z14, z15, z16])), (nw, .inr (12, [t0, t1, .int 0, t3, t4, t5, t6, t7, t8, t9, t10, .int 0, t12, t13, t14, t15, t16, t17, t18, .int 0, t20, t21])), (ou, .inl (dC 101, 1, .inr (.inl f0)))] := hD
  refine W.widen (k := 404) (n := 120035) (Nat.le_of_ble_eq_true rfl) (Nat.le_of_ble_eq_true rfl) ?_
  refine lv_istore (lv' := [(5, .int 1), (0, .ref b), (1, .ref h0), (2, .ref m0), (3, .ref ou), (4, .int 0)]) hx hb dM_L_law_653 hl (by decide) rfl (fun ls hl => ?_)
  refine lv_aload_n hx hb dM_L_law_655 rfl (lv_at hl 3 rfl) ?_
  refine lv_aload_n hx hb dM_L_law_656 rfl (lv_at hl 1 rfl) ?_
  refine lv_iload hx hb dM_L_law_657 (lv_at hl 5 rfl) ?_
  refine lv_iconst (v := 1) hx hb dM_L_law_659 (by decide) ?_
  refine lv_iadd hx hb dM_L_law_660 ?_
  refine lv_topi (fun y_16 ey_16 => ?_)
  obtain rfl : y_16 = 1 := ey_16.trans (by decide)
  refine va_sld hx hb hX hbl hbA hS (by unfold vp_in; decide) dM_L_law_661 ?_
  refine lv_topi (fun y_17 ey_17 => ?_)
  obtain rfl : y_2 = y_17 := ey_2.trans ey_17.symm
  refine lv_aload_n hx hb dM_L_law_662 rfl (lv_at hl 1 rfl) ?_
  refine lv_iload hx hb dM_L_law_663 (lv_at hl 5 rfl) ?_
  refine lv_iconst (v := 2) hx hb dM_L_law_665 (by decide) ?_
  refine lv_iadd hx hb dM_L_law_666 ?_
  refine lv_topi (fun y_18 ey_18 => ?_)
  obtain rfl : y_18 = 2 := ey_18.trans (by decide)
  refine va_sld hx hb hX hbl hbA hS (by unfold vp_in; decide) dM_L_law_667 ?_
  refine lv_topi (fun y_19 ey_19 => ?_)
  obtain rfl : y_4 = y_19 := ey_4.trans ey_19.symm
  refine lv_aload_n hx hb dM_L_law_668 rfl (lv_at hl 1 rfl) ?_
  refine lv_iload hx hb dM_L_law_669 (lv_at hl 5 rfl) ?_
  refine lv_iconst (v := 3) hx hb dM_L_law_671 (by decide) ?_
  refine lv_iadd hx hb dM_L_law_672 ?_
  refine lv_topi (fun y_20 ey_20 => ?_)
  obtain rfl : y_20 = 3 := ey_20.trans (by decide)
  refine va_sld hx hb hX hbl hbA hS (by unfold vp_in; decide) dM_L_law_673 ?_
  refine lv_topi (fun y_21 ey_21 => ?_)
  obtain rfl : y_6 = y_21 := ey_6.trans ey_21.symm
  refine lv_aload_n hx hb dM_L_law_674 rfl (lv_at hl 1 rfl) ?_
  refine lv_iload hx hb dM_L_law_675 (lv_at hl 5 rfl) ?_
  refine lv_iconst (v := 4) hx hb dM_L_law_677 (by decide) ?_
  refine lv_iadd hx hb dM_L_law_678 ?_
  refine lv_topi (fun y_22 ey_22 => ?_)
  obtain rfl : y_22 = 4 := ey_22.trans (by decide)
  refine va_sld hx hb hX hbl hbA hS (by unfold vp_in; decide) dM_L_law_679 ?_
  refine lv_topi (fun y_23 ey_23 => ?_)
  obtain rfl : y_8 = y_23 := ey_8.trans ey_23.symm
  refine lv_i2l (v := y_8.toInt64) hx hb dM_L_law_680 rfl ?_
  refine lv_bipush (v := 32) hx hb dM_L_law_681 (by decide) ?_
  refine lv_lshl (v := y_8.toInt64 <<< ((32 : Int32).toInt64 &&& 63)) hx hb dM_L_law_683 rfl ?_
  refine lv_aload_n hx hb dM_L_law_684 rfl (lv_at hl 1 rfl) ?_
  refine lv_iload hx hb dM_L_law_685 (lv_at hl 5 rfl) ?_
  refine lv_iconst (v := 5) hx hb dM_L_law_687 (by decide) ?_
  refine lv_iadd hx hb dM_L_law_688 ?_
  refine lv_topi (fun y_24 ey_24 => ?_)
  obtain rfl : y_24 = 5 := ey_24.trans (by decide)
  refine va_sld hx hb hX hbl hbA hS (by unfold vp_in; decide) dM_L_law_689 ?_
  refine lv_topi (fun y_25 ey_25 => ?_)
  obtain rfl : y_10 = y_25 := ey_10.trans ey_25.symm
  refine lv_i2l (v := y_10.toInt64) hx hb dM_L_law_690 rfl ?_
  refine lv_ldc2 (v := 4294967295) hx hb hown (hbg _ wd_2851) dM_L_law_691 ?_
  refine lv_land hx hb dM_L_law_694 ?_
  refine lv_topl (fun y_26 ey_26 => ?_)
  obtain rfl : y_11 = y_26 := ey_11.trans ey_26.symm
  refine lv_lor hx hb dM_L_law_695 ?_
  refine lv_topl (fun y_27 ey_27 => ?_)
  obtain rfl : y_12 = y_27 := ey_12.trans ey_27.symm
  have hFc := va_free (wc := [(m0, .inr (10, [.ref nw, z1, z2, z3, z4, z5, z6, z7, z8, z9, z10, z11, z12, z13, z14, z15, z16])), (nw, .inr (12, [t0, t1, .int 0, t3, t4, t5, t6, t7, t8, t9, t10, .int 0, t12, t13, t14, t15, t16, t17, t18, .int 0, t20, t21]))]) hD hS hA [0, 1] rfl
  refine va_calli (va_runV (As := [.int y_2, .int y_4, .int y_6, .long y_12]) (rest := []) ⟨hx, hb, hml, hown, hbg⟩ (c_M_hold l dC dI m0 y_2 y_4 y_6 y_12 nw z1 z2 z3 z4 z5 z6 z7 z8 z9 z10 z11 z12 z13 z14 z15 z16 t0 t1 t3 t4 t5 t6 t7 t8 t9 t10 t12 t13 t14 t15 t16 t17 t18 t20 t21 _ ) (cwV 4 hbg (gd_V (fun _ h => h) wd_2583 wd_2584 wd_2585 wd_12 (gd_wm (fun _ h => h) wd_2586)) rfl rfl rfl (by decide +kernel) ⟨Nat.le_of_ble_eq_true rfl, Nat.le_of_ble_eq_true rfl⟩) (nPreV [0, 1] hP hD hK hN hS hA (by decide) rfl 0 rfl rfl) rfl rfl hl.1 rfl (lv_room (Nat.le_of_ble_eq_true rfl)) dM_L_law_696 ⟨Nat.le_of_ble_eq_true rfl, Nat.le_of_ble_eq_true rfl⟩) hS (fun q _ h => hFc q h) hFc (fun r_28 u t H1 locs ht hvm hw hB hz1 hk1 hS => ?_)
  obtain ⟨rfl, rfl⟩ := hw
  obtain ⟨r0_30, r1_31, r2_32, r3_33, r4_34, r5_35, r6_36, r7_37, r8_38, r9_39, r10_40, r11_41, r12_42, r13_43, r14_44, r15_45, hP1, hD1⟩ := hB
  rw [ht] at hP1
  obtain ⟨hP, hD⟩ := va_join (wr := [(ou, .inl (dC 101, 1, .inr (.inl f0)))]) (w1 := [(m0, .inr (10, [r0_30, r1_31, r2_32, r3_33, r4_34, r5_35, r6_36, r7_37, r8_38, r9_39, r10_40, r11_41, r12_42, r13_43, r14_44, r15_45, .int 1]))]) hP hD [0, 1] [2] rfl rfl (by decide) (by decide) hk1 hFc hP1 hD1
  generalize H1 = H at hP hS ⊢
  have hP : va_P (dC, dI) classes [(ou, .inl (dC 101, 1, .inr (.inl f0))), (m0, .inr (10, [r0_30, r1_31, r2_32, r3_33, r4_34, r5_35, r6_36, r7_37, r8_38, r9_39, r10_40, r11_41, r12_42, r13_43, r14_44, r15_45, .int 1]))] H := hP
  have hD : va_D A [(ou, .inl (dC 101, 1, .inr (.inl f0))), (m0, .inr (10, [r0_30, r1_31, r2_32, r3_33, r4_34, r5_35, r6_36, r7_37, r8_38, r9_39, r10_40, r11_41, r12_42, r13_43, r14_44, r15_45, .int 1]))] := hD
  refine W.widen (k := 404) (n := 120035) (Nat.le_of_ble_eq_true rfl) (Nat.le_of_ble_eq_true rfl) ?_
  refine lv_istore (lv' := [(6, .int 0), (5, .int 1), (0, .ref b), (1, .ref h0), (2, .ref m0), (3, .ref ou), (4, .int 0)]) hx hb dM_L_law_699 hl (by decide) rfl (fun ls hl => ?_)
  refine lv_aload_n hx hb dM_L_law_701 rfl (lv_at hl 4 rfl) ?_
  have hFc := va_free (wc := [(m0, .inr (10, [r0_30, r1_31, r2_32, r3_33, r4_34, r5_35, r6_36, r7_37, r8_38, r9_39, r10_40, r11_41, r12_42, r13_43, r14_44, r15_45, .int 1]))]) hD hS hA [1] rfl
  refine va_calli (va_runV (As := []) (rest := []) ⟨hx, hb, hml, hown, hbg⟩ (c_M_thrown l dC dI m0 r0_30 r1_31 r2_32 r3_33 r4_34 r5_35 r6_36 r7_37 r8_38 r9_39 r10_40 r11_41 r12_42 r13_43 r14_44 r15_45 1 _ ) (cwV 0 hbg (gd_V (fun _ h => h) wd_2190 wd_2191 wd_2192 wd_12 (gd_wm (fun _ h => h) wd_2193)) rfl rfl rfl (by decide +kernel) ⟨Nat.le_of_ble_eq_true rfl, Nat.le_of_ble_eq_true rfl⟩) (nPreV [1] hP hD hK hN hS hA (by decide) rfl 1 rfl rfl) rfl rfl hl.1 rfl (lv_room (Nat.le_of_ble_eq_true rfl)) dM_L_law_702 ⟨Nat.le_of_ble_eq_true rfl, Nat.le_of_ble_eq_true rfl⟩) hS (fun q _ h => hFc q h) hFc (fun r_46 u t H1 locs ht hvm hw hB hz1 hk1 hS => ?_)
  obtain ⟨rfl, rfl⟩ := hw
  obtain ⟨r0_48, r1_49, r2_50, r3_51, r4_52, r5_53, r6_54, r7_55, r8_56, r9_57, r10_58, r11_59, r12_60, r13_61, r14_62, r15_63, hP1, hD1⟩ := hB
  rw [ht] at hP1
  obtain ⟨hP, hD⟩ := va_join (wr := [(ou, .inl (dC 101, 1, .inr (.inl f0)))]) (w1 := [(m0, .inr (10, [r0_48, r1_49, r2_50, r3_51, r4_52, r5_53, r6_54, r7_55, r8_56, r9_57, r10_58, r11_59, r12_60, r13_61, r14_62, r15_63, .int 1]))]) hP hD [1] [0] rfl rfl (by decide) (by decide) hk1 hFc hP1 hD1
  generalize H1 = H at hP hS ⊢
  have hP : va_P (dC, dI) classes [(ou, .inl (dC 101, 1, .inr (.inl f0))), (m0, .inr (10, [r0_48, r1_49, r2_50, r3_51, r4_52, r5_53, r6_54, r7_55, r8_56, r9_57, r10_58, r11_59, r12_60, r13_61, r14_62, r15_63, .int 1]))] H := hP
  have hD : va_D A [(ou, .inl (dC 101, 1, .inr (.inl f0))), (m0, .inr (10, [r0_48, r1_49, r2_50, r3_51, r4_52, r5_53, r6_54, r7_55, r8_56, r9_57, r10_58, r11_59, r12_60, r13_61, r14_62, r15_63, .int 1]))] := hD
  refine W.widen (k := 404) (n := 120035) (Nat.le_of_ble_eq_true rfl) (Nat.le_of_ble_eq_true rfl) ?_
  refine lv_iload hx hb dM_L_law_705 (lv_at hl 1 rfl) ?_
  refine lv_icmp_eq (tgt := 712) hx hb dM_L_law_707 (by decide) (fun _ => ?_) (fun q => absurd (by decide) q)
  refine lv_iload hx hb dM_L_law_712 (lv_at hl 1 rfl) ?_
  refine lv_if_ne (tgt := 736) hx hb dM_L_law_714 (by decide) (fun _ => ?_) (fun q => absurd q (by decide))
  refine lv_goto (tgt := 3410) hx hb dM_L_law_736 (by decide) ?_
  refine W.widen (k := 600002) (n := 7302232) (Nat.le_of_ble_eq_true rfl) (Nat.le_of_ble_eq_true rfl) ?_
  exact hend _ _ _ hS (lv_sub hl [6, 2] rfl)
set_option maxHeartbeats 4000000 in
set_option maxRecDepth 100000 in
theorem lawc_6 {p : Program} {e : Env} {s : State} {m : MethodId} {below : List Frame} {meth : Method} {c : Code} {Z : State → Prop} (l : Launch) (hl9 : l.stackTraces = false) (dC : Nat → ClassId) (dI : Nat → Nat → Nat) {A : Nat → Prop} {b L : Nat} {xs : Nat → Int32} (hL : L = 8) (hx : p.tables.exec = Jvm.exec) (hb : c.code = cM_L_law) (hml : c.maxLocals = 8) (hown : s.vm.findClass "NoteDocumentLaw" = some m.cls) (hbg : ∀ w ∈ BIG, w.before #[Value.ref b] s = true) (hK : nK (dC, dI) s) (hN : nS A s s.heap) (hA : ∀ q : Nat, s.heap.size ≤ q → A q) (hX : va_X b L xs s s.heap) (hbl : b < s.heap.size) (hbA : ¬ A b) {H : Heap} {locs : List Loc} {ls : Array Slot} {h0 : Nat} {m0 : Nat} {ou : Nat} {st : Nat} {no : Nat} {ch : Nat} {he : Nat} {de : Nat} {fi : Nat} {v6 : Value} {kp : Nat} {a_columns : Nat} {a_rows : Nat} {a_content : Nat} {a_held : Nat} {a_other : Nat} {a_named : Nat} {a_body : Nat} {a_parts : Nat} {a_partCount : Nat} {a_refRow : Nat} {a_refColumn : Nat} {a_refToRow : Nat} {a_torn : Nat} {a_record : Nat} {g_columns : Nat → Int32} {g_rows : Nat → Int32} {g_content : Nat → Int64} {g_held : Nat → Int64} {g_other : Nat → Int64} {g_named : Nat → Int32} {g_body : Nat → Int32} {g_parts : Nat → Int32} {g_partCount : Nat → Int32} {g_refRow : Nat → Int32} {g_refColumn : Nat → Int32} {g_refToRow : Nat → Int32} {g_torn : Nat → Int32} {g_record : Nat → Int32} {gk : Nat → Option Nat} {k0 : Nat} {ak_columns : Nat} {ak_rows : Nat} {ak_content : Nat} {ak_held : Nat} {ak_other : Nat} {ak_named : Nat} {ak_body : Nat} {ak_parts : Nat} {ak_partCount : Nat} {ak_refRow : Nat} {ak_refColumn : Nat} {ak_refToRow : Nat} {ak_torn : Nat} {ak_record : Nat} {gk_columns : Nat → Int32} {gk_rows : Nat → Int32} {gk_content : Nat → Int64} {gk_held : Nat → Int64} {gk_other : Nat → Int64} {gk_named : Nat → Int32} {gk_body : Nat → Int32} {gk_parts : Nat → Int32} {gk_partCount : Nat → Int32} {gk_refRow : Nat → Int32} {gk_refColumn : Nat → Int32} {gk_refToRow : Nat → Int32} {gk_torn : Nat → Int32} {gk_record : Nat → Int32} {x2 : Value} {x4 : Value} {x6 : Value} {x7 : Value} {x8 : Value} {x9 : Value} {x10 : Value} {x11 : Value} {x12 : Value} {x13 : Value} {x14 : Value} {x15 : Value} {x16 : Value} {x17 : Value} {x18 : Value} {aw : Nat} {gw : Nat → Int64} {ac_cell : Nat} {ac_behind : Nat} {ac_size : Nat} {ac_nextLikely : Nat} {ac_firstLikely : Nat} {gc : Nat → Int32} {f0 : Nat → Int64} {nw : Nat} {kq : Nat} {z4 : Value} {z5 : Value} {z6 : Value} {z7 : Value} {z8 : Value} {z9 : Value} {z10 : Value} {z11 : Value} {z12 : Value} {en : Nat} {z14 : Value} {z15 : Value} {z16 : Value} {b_rows : Nat} {b_columns : Nat} {b_types : Nat} {b_numbers : Nat} {b_formulas : Nat} {b_held : Nat} {b_holds : Nat} {b_found : Nat} {b_names : Nat} {b_bodies : Nat} {b_parts : Nat} {b_noteParts : Nat} {b_over : Nat} {b_overs : Nat} {b_places : Nat} {b_torn : Nat} {f_rows : Nat → Int32} {f_columns : Nat → Int32} {f_types : Nat → Int32} {f_numbers : Nat → Int64} {f_formulas : Nat → Int32} {f_held : Nat → Int32} {f_holds : Nat → Int64} {f_found : Nat → Option Nat} {f_names : Nat → Int32} {f_bodies : Nat → Int32} {f_parts : Nat → Int32} {f_noteParts : Nat → Int32} {f_over : Nat → Int32} {f_overs : Nat → Int64} {f_places : Nat → Int32} {f_torn : Nat → Int32} {fq : Nat → Option Nat} {k9 : Nat} {bk_rows : Nat} {bk_columns : Nat} {bk_types : Nat} {bk_numbers : Nat} {bk_formulas : Nat} {bk_held : Nat} {bk_holds : Nat} {bk_found : Nat} {bk_names : Nat} {bk_bodies : Nat} {bk_parts : Nat} {bk_noteParts : Nat} {bk_over : Nat} {bk_overs : Nat} {bk_places : Nat} {bk_torn : Nat} {fk_rows : Nat → Int32} {fk_columns : Nat → Int32} {fk_types : Nat → Int32} {fk_numbers : Nat → Int64} {fk_formulas : Nat → Int32} {fk_held : Nat → Int32} {fk_holds : Nat → Int64} {fk_found : Nat → Option Nat} {fk_names : Nat → Int32} {fk_bodies : Nat → Int32} {fk_parts : Nat → Int32} {fk_noteParts : Nat → Int32} {fk_over : Nat → Int32} {fk_overs : Nat → Int64} {fk_places : Nat → Int32} {fk_torn : Nat → Int32} {e0 : Value} {e1 : Value} {e2 : Value} {e3 : Value} {e4 : Value} {cg : Int32} {e6 : Value} {e7 : Value} {e8 : Value} {e9 : Value} {e10 : Value} {e11 : Value} {e12 : Value} {e13 : Value} {e14 : Value} {e15 : Value} {e16 : Value} {e17 : Value} {e18 : Value} {e19 : Value} {e20 : Value} {e21 : Value} {e22 : Value} {e23 : Value} {e24 : Value} {e25 : Value} {e26 : Value} (hP : va_P (dC, dI) classes [(h0, .inr (0, [.ref st, .ref no, .ref ch, .ref he, .ref de, .ref fi, v6, .ref kp, .int 0, .int 0, .int 0])), (st, .inr (8, [.int 0, .int 0, .int 0, .ref a_columns, .ref a_rows, .ref a_content, .ref a_held, .ref a_other, .ref a_named, .ref a_body, .ref a_parts, .ref a_partCount, .ref a_refRow, .ref a_refColumn, .ref a_refToRow, .ref a_torn, .ref a_record, .int 0, .int 0, .int 0])), (a_columns, .inl (dC 100, 4, .inl g_columns)), (a_rows, .inl (dC 100, 4, .inl g_rows)), (a_content, .inl (dC 101, 200, .inr (.inl g_content))), (a_held, .inl (dC 101, 200, .inr (.inl g_held))), (a_other, .inl (dC 101, 600, .inr (.inl g_other))), (a_named, .inl (dC 100, 6, .inl g_named)), (a_body, .inl (dC 100, 4, .inl g_body)), (a_parts, .inl (dC 100, 24, .inl g_parts)), (a_partCount, .inl (dC 100, 3, .inl g_partCount)), (a_refRow, .inl (dC 100, 150, .inl g_refRow)), (a_refColumn, .inl (dC 100, 150, .inl g_refColumn)), (a_refToRow, .inl (dC 100, 150, .inl g_refToRow)), (a_torn, .inl (dC 102, 150, .inl g_torn)), (a_record, .inl (dC 100, 885, .inl g_record)), (kp, .inl (dC 103, 5, .inr (.inr (.inr (.inr gk))))), (k0, .inr (8, [.int 0, .int 0, .int 0, .ref ak_columns, .ref ak_rows, .ref ak_content, .ref ak_held, .ref ak_other, .ref ak_named, .ref ak_body, .ref ak_parts, .ref ak_partCount, .ref ak_refRow, .ref ak_refColumn, .ref ak_refToRow, .ref ak_torn, .ref ak_record, .int 0, .int 0, .int 0])), (ak_columns, .inl (dC 100, 4, .inl gk_columns)), (ak_rows, .inl (dC 100, 4, .inl gk_rows)), (ak_content, .inl (dC 101, 200, .inr (.inl gk_content))), (ak_held, .inl (dC 101, 200, .inr (.inl gk_held))), (ak_other, .inl (dC 101, 600, .inr (.inl gk_other))), (ak_named, .inl (dC 100, 6, .inl gk_named)), (ak_body, .inl (dC 100, 4, .inl gk_body)), (ak_parts, .inl (dC 100, 24, .inl gk_parts)), (ak_partCount, .inl (dC 100, 3, .inl gk_partCount)), (ak_refRow, .inl (dC 100, 150, .inl gk_refRow)), (ak_refColumn, .inl (dC 100, 150, .inl gk_refColumn)), (ak_refToRow, .inl (dC 100, 150, .inl gk_refToRow)), (ak_torn, .inl (dC 102, 150, .inl gk_torn)), (ak_record, .inl (dC 100, 885, .inl gk_record)), (de, .inr (2, [.ref st, .ref he, x2, .int 1, x4, .int 0, x6, x7, x8, x9, x10, x11, x12, x13, x14, x15, x16, x17, x18])), (he, .inr (4, [.ref aw, .int 1])), (aw, .inl (dC 101, 8192, .inr (.inl gw))), (ch, .inr (1, [.ref ac_cell, .ref ac_behind, .ref ac_size, .ref ac_nextLikely, .ref ac_firstLikely, .int (nI (200 + 1))])), (ac_cell, .inl (dC 100, 512, .inl gc)), (ou, .inl (dC 101, 1, .inr (.inl f0))), (m0, .inr (10, [.ref nw, .ref kq, .int 0, .int 0, z4, z5, z6, z7, z8, z9, z10, z11, z12, .ref en, z14, z15, z16])), (nw, .inr (12, [.ref b_rows, .ref b_columns, .int 0, .ref b_types, .ref b_numbers, .ref b_formulas, .ref b_held, .ref b_holds, .ref b_found, .ref b_names, .ref b_bodies, .int 0, .ref b_parts, .ref b_noteParts, .ref b_over, .ref b_overs, .long 0, .long 0, .int 0, .int 0, .ref b_places, .ref b_torn])), (b_rows, .inl (dC 100, 4, .inl f_rows)), (b_columns, .inl (dC 100, 4, .inl f_columns)), (b_types, .inl (dC 100, 200, .inl f_types)), (b_numbers, .inl (dC 101, 200, .inr (.inl f_numbers))), (b_formulas, .inl (dC 100, 200, .inl f_formulas)), (b_held, .inl (dC 102, 200, .inl f_held)), (b_holds, .inl (dC 101, 200, .inr (.inl f_holds))), (b_found, .inl (dC 105, 885, .inr (.inr (.inr (.inr f_found))))), (b_names, .inl (dC 100, 6, .inl f_names)), (b_bodies, .inl (dC 100, 4, .inl f_bodies)), (b_parts, .inl (dC 100, 3, .inl f_parts)), (b_noteParts, .inl (dC 100, 72, .inl f_noteParts)), (b_over, .inl (dC 102, 600, .inl f_over)), (b_overs, .inl (dC 101, 600, .inr (.inl f_overs))), (b_places, .inl (dC 100, 750, .inl f_places)), (b_torn, .inl (dC 102, 150, .inl f_torn)), (kq, .inl (dC 104, 5, .inr (.inr (.inr (.inr fq))))), (k9, .inr (12, [.ref bk_rows, .ref bk_columns, .int 0, .ref bk_types, .ref bk_numbers, .ref bk_formulas, .ref bk_held, .ref bk_holds, .ref bk_found, .ref bk_names, .ref bk_bodies, .int 0, .ref bk_parts, .ref bk_noteParts, .ref bk_over, .ref bk_overs, .long 0, .long 0, .int 0, .int 0, .ref bk_places, .ref bk_torn])), (bk_rows, .inl (dC 100, 4, .inl fk_rows)), (bk_columns, .inl (dC 100, 4, .inl fk_columns)), (bk_types, .inl (dC 100, 200, .inl fk_types)), (bk_numbers, .inl (dC 101, 200, .inr (.inl fk_numbers))), (bk_formulas, .inl (dC 100, 200, .inl fk_formulas)), (bk_held, .inl (dC 102, 200, .inl fk_held)), (bk_holds, .inl (dC 101, 200, .inr (.inl fk_holds))), (bk_found, .inl (dC 105, 885, .inr (.inr (.inr (.inr fk_found))))), (bk_names, .inl (dC 100, 6, .inl fk_names)), (bk_bodies, .inl (dC 100, 4, .inl fk_bodies)), (bk_parts, .inl (dC 100, 3, .inl fk_parts)), (bk_noteParts, .inl (dC 100, 72, .inl fk_noteParts)), (bk_over, .inl (dC 102, 600, .inl fk_over)), (bk_overs, .inl (dC 101, 600, .inr (.inl fk_overs))), (bk_places, .inl (dC 100, 750, .inl fk_places)), (bk_torn, .inl (dC 102, 150, .inl fk_torn)), (en, .inr (11, [e0, e1, e2, e3, e4, .int cg, e6, e7, e8, e9, e10, e11, e12, e13, e14, e15, e16, e17, e18, e19, e20, e21, e22, e23, e24, e25, e26]))] H) (hD : va_D A [(h0, .inr (0, [.ref st, .ref no, .ref ch, .ref he, .ref de, .ref fi, v6, .ref kp, .int 0, .int 0, .int 0])), (st, .inr (8, [.int 0, .int 0, .int 0, .ref a_columns, .ref a_rows, .ref a_content, .ref a_held, .ref a_other, .ref a_named, .ref a_body, .ref a_parts, .ref a_partCount, .ref a_refRow, .ref a_refColumn, .ref a_refToRow, .ref a_torn, .ref a_record, .int 0, .int 0, .int 0])), (a_columns, .inl (dC 100, 4, .inl g_columns)), (a_rows, .inl (dC 100, 4, .inl g_rows)), (a_content, .inl (dC 101, 200, .inr (.inl g_content))), (a_held, .inl (dC 101, 200, .inr (.inl g_held))), (a_other, .inl (dC 101, 600, .inr (.inl g_other))), (a_named, .inl (dC 100, 6, .inl g_named)), (a_body, .inl (dC 100, 4, .inl g_body)), (a_parts, .inl (dC 100, 24, .inl g_parts)), (a_partCount, .inl (dC 100, 3, .inl g_partCount)), (a_refRow, .inl (dC 100, 150, .inl g_refRow)), (a_refColumn, .inl (dC 100, 150, .inl g_refColumn)), (a_refToRow, .inl (dC 100, 150, .inl g_refToRow)), (a_torn, .inl (dC 102, 150, .inl g_torn)), (a_record, .inl (dC 100, 885, .inl g_record)), (kp, .inl (dC 103, 5, .inr (.inr (.inr (.inr gk))))), (k0, .inr (8, [.int 0, .int 0, .int 0, .ref ak_columns, .ref ak_rows, .ref ak_content, .ref ak_held, .ref ak_other, .ref ak_named, .ref ak_body, .ref ak_parts, .ref ak_partCount, .ref ak_refRow, .ref ak_refColumn, .ref ak_refToRow, .ref ak_torn, .ref ak_record, .int 0, .int 0, .int 0])), (ak_columns, .inl (dC 100, 4, .inl gk_columns)), (ak_rows, .inl (dC 100, 4, .inl gk_rows)), (ak_content, .inl (dC 101, 200, .inr (.inl gk_content))), (ak_held, .inl (dC 101, 200, .inr (.inl gk_held))), (ak_other, .inl (dC 101, 600, .inr (.inl gk_other))), (ak_named, .inl (dC 100, 6, .inl gk_named)), (ak_body, .inl (dC 100, 4, .inl gk_body)), (ak_parts, .inl (dC 100, 24, .inl gk_parts)), (ak_partCount, .inl (dC 100, 3, .inl gk_partCount)), (ak_refRow, .inl (dC 100, 150, .inl gk_refRow)), (ak_refColumn, .inl (dC 100, 150, .inl gk_refColumn)), (ak_refToRow, .inl (dC 100, 150, .inl gk_refToRow)), (ak_torn, .inl (dC 102, 150, .inl gk_torn)), (ak_record, .inl (dC 100, 885, .inl gk_record)), (de, .inr (2, [.ref st, .ref he, x2, .int 1, x4, .int 0, x6, x7, x8, x9, x10, x11, x12, x13, x14, x15, x16, x17, x18])), (he, .inr (4, [.ref aw, .int 1])), (aw, .inl (dC 101, 8192, .inr (.inl gw))), (ch, .inr (1, [.ref ac_cell, .ref ac_behind, .ref ac_size, .ref ac_nextLikely, .ref ac_firstLikely, .int (nI (200 + 1))])), (ac_cell, .inl (dC 100, 512, .inl gc)), (ou, .inl (dC 101, 1, .inr (.inl f0))), (m0, .inr (10, [.ref nw, .ref kq, .int 0, .int 0, z4, z5, z6, z7, z8, z9, z10, z11, z12, .ref en, z14, z15, z16])), (nw, .inr (12, [.ref b_rows, .ref b_columns, .int 0, .ref b_types, .ref b_numbers, .ref b_formulas, .ref b_held, .ref b_holds, .ref b_found, .ref b_names, .ref b_bodies, .int 0, .ref b_parts, .ref b_noteParts, .ref b_over, .ref b_overs, .long 0, .long 0, .int 0, .int 0, .ref b_places, .ref b_torn])), (b_rows, .inl (dC 100, 4, .inl f_rows)), (b_columns, .inl (dC 100, 4, .inl f_columns)), (b_types, .inl (dC 100, 200, .inl f_types)), (b_numbers, .inl (dC 101, 200, .inr (.inl f_numbers))), (b_formulas, .inl (dC 100, 200, .inl f_formulas)), (b_held, .inl (dC 102, 200, .inl f_held)), (b_holds, .inl (dC 101, 200, .inr (.inl f_holds))), (b_found, .inl (dC 105, 885, .inr (.inr (.inr (.inr f_found))))), (b_names, .inl (dC 100, 6, .inl f_names)), (b_bodies, .inl (dC 100, 4, .inl f_bodies)), (b_parts, .inl (dC 100, 3, .inl f_parts)), (b_noteParts, .inl (dC 100, 72, .inl f_noteParts)), (b_over, .inl (dC 102, 600, .inl f_over)), (b_overs, .inl (dC 101, 600, .inr (.inl f_overs))), (b_places, .inl (dC 100, 750, .inl f_places)), (b_torn, .inl (dC 102, 150, .inl f_torn)), (kq, .inl (dC 104, 5, .inr (.inr (.inr (.inr fq))))), (k9, .inr (12, [.ref bk_rows, .ref bk_columns, .int 0, .ref bk_types, .ref bk_numbers, .ref bk_formulas, .ref bk_held, .ref bk_holds, .ref bk_found, .ref bk_names, .ref bk_bodies, .int 0, .ref bk_parts, .ref bk_noteParts, .ref bk_over, .ref bk_overs, .long 0, .long 0, .int 0, .int 0, .ref bk_places, .ref bk_torn])), (bk_rows, .inl (dC 100, 4, .inl fk_rows)), (bk_columns, .inl (dC 100, 4, .inl fk_columns)), (bk_types, .inl (dC 100, 200, .inl fk_types)), (bk_numbers, .inl (dC 101, 200, .inr (.inl fk_numbers))), (bk_formulas, .inl (dC 100, 200, .inl fk_formulas)), (bk_held, .inl (dC 102, 200, .inl fk_held)), (bk_holds, .inl (dC 101, 200, .inr (.inl fk_holds))), (bk_found, .inl (dC 105, 885, .inr (.inr (.inr (.inr fk_found))))), (bk_names, .inl (dC 100, 6, .inl fk_names)), (bk_bodies, .inl (dC 100, 4, .inl fk_bodies)), (bk_parts, .inl (dC 100, 3, .inl fk_parts)), (bk_noteParts, .inl (dC 100, 72, .inl fk_noteParts)), (bk_over, .inl (dC 102, 600, .inl fk_over)), (bk_overs, .inl (dC 101, 600, .inr (.inl fk_overs))), (bk_places, .inl (dC 100, 750, .inl fk_places)), (bk_torn, .inl (dC 102, 150, .inl fk_torn)), (en, .inr (11, [e0, e1, e2, e3, e4, .int cg, e6, e7, e8, e9, e10, e11, e12, e13, e14, e15, e16, e17, e18, e19, e20, e21, e22, e23, e24, e25, e26]))]) (hS : va_S A s.heap H locs) (hl : lv_has ls 8 [(0, .ref b), (1, .ref h0), (2, .ref m0), (3, .ref ou), (4, .int 0)]) (hk0 : gk (0 : Int32).toNatClampNeg = some k0) (hheld : ∀ j, j < 200 → g_held j = 1125899906842624) (hrec : ∀ j, j < 885 → g_record j = 0) (hfd : ∀ j, j < 885 → f_found j = none) (hk9 : fq (0 : Int32).toNatClampNeg = some k9) (hhe : ∀ j, j < 200 → f_held j = 0) (hend : ∀ (H : Heap) (locs : List Loc) (ls : Array Slot), va_S A s.heap H locs → lv_has ls 8 [(4, .int 0), (0, .ref b)] → W p l e room_1 s m #[Value.ref b] below meth c H locs 600002 7302232 Z (F0 m 3410 ls [])) : W p l e room_1 s m #[Value.ref b] below meth c H locs 403 120029 Z (F0 m 739 ls []) := by
  subst hL
  refine lv_aload_n hx hb dM_L_law_739 rfl (lv_at hl 1 rfl) ?_
  refine lv_aload_n hx hb dM_L_law_740 rfl (lv_at hl 0 rfl) ?_
  refine lv_iload hx hb dM_L_law_741 (lv_at hl 4 rfl) ?_
  refine lv_iconst (v := 1) hx hb dM_L_law_743 (by decide) ?_
  refine lv_iadd hx hb dM_L_law_744 ?_
  refine lv_topi (fun y_1 ey_1 => ?_)
  obtain rfl : y_1 = 1 := ey_1.trans (by decide)
  refine va_sld hx hb hX hbl hbA hS (by unfold vp_in; decide) dM_L_law_745 ?_
  refine lv_topi (fun y_2 ey_2 => ?_)
  refine lv_aload_n hx hb dM_L_law_746 rfl (lv_at hl 3 rfl) ?_
  have hFc := va_free (wc := [(h0, .inr (0, [.ref st, .ref no, .ref ch, .ref he, .ref de, .ref fi, v6, .ref kp, .int 0, .int 0, .int 0])), (st, .inr (8, [.int 0, .int 0, .int 0, .ref a_columns, .ref a_rows, .ref a_content, .ref a_held, .ref a_other, .ref a_named, .ref a_body, .ref a_parts, .ref a_partCount, .ref a_refRow, .ref a_refColumn, .ref a_refToRow, .ref a_torn, .ref a_record, .int 0, .int 0, .int 0])), (a_columns, .inl (dC 100, 4, .inl g_columns)), (a_rows, .inl (dC 100, 4, .inl g_rows)), (a_content, .inl (dC 101, 200, .inr (.inl g_content))), (a_held, .inl (dC 101, 200, .inr (.inl g_held))), (a_other, .inl (dC 101, 600, .inr (.inl g_other))), (a_named, .inl (dC 100, 6, .inl g_named)), (a_body, .inl (dC 100, 4, .inl g_body)), (a_parts, .inl (dC 100, 24, .inl g_parts)), (a_partCount, .inl (dC 100, 3, .inl g_partCount)), (a_refRow, .inl (dC 100, 150, .inl g_refRow)), (a_refColumn, .inl (dC 100, 150, .inl g_refColumn)), (a_refToRow, .inl (dC 100, 150, .inl g_refToRow)), (a_torn, .inl (dC 102, 150, .inl g_torn)), (a_record, .inl (dC 100, 885, .inl g_record)), (kp, .inl (dC 103, 5, .inr (.inr (.inr (.inr gk))))), (k0, .inr (8, [.int 0, .int 0, .int 0, .ref ak_columns, .ref ak_rows, .ref ak_content, .ref ak_held, .ref ak_other, .ref ak_named, .ref ak_body, .ref ak_parts, .ref ak_partCount, .ref ak_refRow, .ref ak_refColumn, .ref ak_refToRow, .ref ak_torn, .ref ak_record, .int 0, .int 0, .int 0])), (ak_columns, .inl (dC 100, 4, .inl gk_columns)), (ak_rows, .inl (dC 100, 4, .inl gk_rows)), (ak_content, .inl (dC 101, 200, .inr (.inl gk_content))), (ak_held, .inl (dC 101, 200, .inr (.inl gk_held))), (ak_other, .inl (dC 101, 600, .inr (.inl gk_other))), (ak_named, .inl (dC 100, 6, .inl gk_named)), (ak_body, .inl (dC 100, 4, .inl gk_body)), (ak_parts, .inl (dC 100, 24, .inl gk_parts)), (ak_partCount, .inl (dC 100, 3, .inl gk_partCount)), (ak_refRow, .inl (dC 100, 150, .inl gk_refRow)), (ak_refColumn, .inl (dC 100, 150, .inl gk_refColumn)), (ak_refToRow, .inl (dC 100, 150, .inl gk_refToRow)), (ak_torn, .inl (dC 102, 150, .inl gk_torn)), (ak_record, .inl (dC 100, 885, .inl gk_record)), (de, .inr (2, [.ref st, .ref he, x2, .int 1, x4, .int 0, x6, x7, x8, x9, x10, x11, x12, x13, x14, x15, x16, x17, x18])), (he, .inr (4, [.ref aw, .int 1])), (aw, .inl (dC 101, 8192, .inr (.inl gw))), (ch, .inr (1, [.ref ac_cell, .ref ac_behind, .ref ac_size, .ref ac_nextLikely, .ref ac_firstLikely, .int (nI (200 + 1))])), (ac_cell, .inl (dC 100, 512, .inl gc)), (ou, .inl (dC 101, 1, .inr (.inl f0)))]) hD hS hA [0, 1, 2, 3, 4, 5, 6, 7, 8, 9, 10, 11, 12, 13, 14, 15, 16, 17, 18, 19, 20, 21, 22, 23, 24, 25, 26, 27, 28, 29, 30, 31, 32, 33, 34, 35, 36, 37] rfl
  refine va_calli (vx_runSW (As := [.ref h0, .int y_2, .ref ou]) (rest := []) ⟨hx, hb, hml, hown, hbg⟩ (c_L_rounds l hl9 dC dI h0 y_2 ou st no ch he de fi v6 kp a_columns a_rows a_content a_held a_other a_named a_body a_parts a_partCount a_refRow a_refColumn a_refToRow a_torn a_record g_columns g_rows g_content g_held g_other g_named g_body g_parts g_partCount g_refRow g_refColumn g_refToRow g_torn g_record gk k0 ak_columns ak_rows ak_content ak_held ak_other ak_named ak_body ak_parts ak_partCount ak_refRow ak_refColumn ak_refToRow ak_torn ak_record gk_columns gk_rows gk_content gk_held gk_other gk_named gk_body gk_parts gk_partCount gk_refRow gk_refColumn gk_refToRow gk_torn gk_record x2 x4 x6 x7 x8 x9 x10 x11 x12 x13 x14 x15 x16 x17 x18 aw gw ac_cell ac_behind ac_size ac_nextLikely ac_firstLikely gc f0 _ (hk0) (hheld) (hrec)) (vx_cwSW 3 hbg (gd_S (fun _ h => h) wd_1213 wd_1214 wd_0 (gd_wmW (fun _ h => h) wd_1215)) rfl rfl rfl (by decide +kernel) ⟨Nat.le_of_ble_eq_true rfl, Nat.le_of_ble_eq_true rfl⟩) (nPreS [0, 1, 2, 3, 4, 5, 6, 7, 8, 9, 10, 11, 12, 13, 14, 15, 16, 17, 18, 19, 20, 21, 22, 23, 24, 25, 26, 27, 28, 29, 30, 31, 32, 33, 34, 35, 36, 37] hP hD hK hN hS hA (by decide) rfl) rfl rfl hl.1 rfl (lv_room (Nat.le_of_ble_eq_true rfl)) dM_L_law_747 ⟨Nat.le_of_ble_eq_true rfl, Nat.le_of_ble_eq_true rfl⟩) hS (fun q _ h => hFc q h) hFc (fun r_3 u t H1 locs ht hvm hw hB hz1 hk1 hS => ?_)
  rcases hw with ⟨c_4, rfl, rfl⟩ | ⟨c_5, rfl, hu_6⟩
  · --
    obtain ⟨hP1, hD1⟩ := hB
    rw [ht] at hP1
    obtain ⟨hP, hD⟩ := va_join (wr := [(m0, .inr (10, [.ref nw, .ref kq, .int 0, .int 0, z4, z5, z6, z7, z8, z9, z10, z11, z12, .ref en, z14, z15, z16])), (nw, .inr (12, [.ref b_rows, .ref b_columns, .int 0, .ref b_types, .ref b_numbers, .ref b_formulas, .ref b_held, .ref b_holds, .ref b_found, .ref b_names, .ref b_bodies, .int 0, .ref b_parts, .ref b_noteParts, .ref b_over, .ref b_overs, .long 0, .long 0, .int 0, .int 0, .ref b_places, .ref b_torn])), (b_rows, .inl (dC 100, 4, .inl f_rows)), (b_columns, .inl (dC 100, 4, .inl f_columns)), (b_types, .inl (dC 100, 200, .inl f_types)), (b_numbers, .inl (dC 101, 200, .inr (.inl f_numbers))), (b_formulas, .inl (dC 100, 200, .inl f_formulas)), (b_held, .inl (dC 102, 200, .inl f_held)), (b_holds, .inl (dC 101, 200, .inr (.inl f_holds))), (b_found, .inl (dC 105, 885, .inr (.inr (.inr (.inr f_found))))), (b_names, .inl (dC 100, 6, .inl f_names)), (b_bodies, .inl (dC 100, 4, .inl f_bodies)), (b_parts, .inl (dC 100, 3, .inl f_parts)), (b_noteParts, .inl (dC 100, 72, .inl f_noteParts)), (b_over, .inl (dC 102, 600, .inl f_over)), (b_overs, .inl (dC 101, 600, .inr (.inl f_overs))), (b_places, .inl (dC 100, 750, .inl f_places)), (b_torn, .inl (dC 102, 150, .inl f_torn)), (kq, .inl (dC 104, 5, .inr (.inr (.inr (.inr fq))))), (k9, .inr (12, [.ref bk_rows, .ref bk_columns, .int 0, .ref bk_types, .ref bk_numbers, .ref bk_formulas, .ref bk_held, .ref bk_holds, .ref bk_found, .ref bk_names, .ref bk_bodies, .int 0, .ref bk_parts, .ref bk_noteParts, .ref bk_over, .ref bk_overs, .long 0, .long 0, .int 0, .int 0, .ref bk_places, .ref bk_torn])), (bk_rows, .inl (dC 100, 4, .inl fk_rows)), (bk_columns, .inl (dC 100, 4, .inl fk_columns)), (bk_types, .inl (dC 100, 200, .inl fk_types)), (bk_numbers, .inl (dC 101, 200, .inr (.inl fk_numbers))), (bk_formulas, .inl (dC 100, 200, .inl fk_formulas)), (bk_held, .inl (dC 102, 200, .inl fk_held)), (bk_holds, .inl (dC 101, 200, .inr (.inl fk_holds))), (bk_found, .inl (dC 105, 885, .inr (.inr (.inr (.inr fk_found))))), (bk_names, .inl (dC 100, 6, .inl fk_names)), (bk_bodies, .inl (dC 100, 4, .inl fk_bodies)), (bk_parts, .inl (dC 100, 3, .inl fk_parts)), (bk_noteParts, .inl (dC 100, 72, .inl fk_noteParts)), (bk_over, .inl (dC 102, 600, .inl fk_over)), (bk_overs, .inl (dC 101, 600, .inr (.inl fk_overs))), (bk_places, .inl (dC 100, 750, .inl fk_places)), (bk_torn, .inl (dC 102, 150, .inl fk_torn)), (en, .inr (11, [e0, e1, e2, e3, e4, .int cg, e6, e7, e8, e9, e10, e11, e12, e13, e14, e15, e16, e17, e18, e19, e20, e21, e22, e23, e24, e25, e26]))]) (w1 := [(ou, .inl (dC 101, 1, .inr (.inl (vp_updL f0 (0 : Int32).toNatClampNeg 0))))]) hP hD [0, 1, 2, 3, 4, 5, 6, 7, 8, 9, 10, 11, 12, 13, 14, 15, 16, 17, 18, 19, 20, 21, 22, 23, 24, 25, 26, 27, 28, 29, 30, 31, 32, 33, 34, 35, 36, 37] [38, 39, 40, 41, 42, 43, 44, 45, 46, 47, 48, 49, 50, 51, 52, 53, 54, 55, 56, 57, 58, 59, 60, 61, 62, 63, 64, 65, 66, 67, 68, 69, 70, 71, 72, 73, 74] rfl rfl (by decide) (by decide) hk1 hFc hP1 hD1
    generalize H1 = H at hP hS ⊢
    have hP : va_P (dC, dI) classes [(m0, .inr (10, [.ref nw, .ref kq, .int 0, .int 0, z4, z5, z6, z7, z8, z9, z10, z11, z12, .ref en, z14, z15, z16])), (nw, .inr (12, [.ref b_rows, .ref b_columns, .int 0, .ref b_types, .ref b_numbers, .ref b_formulas, .ref b_held, .ref b_holds, .ref b_found, .ref b_names, .ref b_bodies, .int 0, .ref b_parts, .ref b_noteParts, .ref b_over, .ref b_overs, .long 0, .long 0, .int 0, .int 0, .ref b_places, .ref b_torn])), (b_rows, .inl (dC 100, 4, .inl f_rows)), (b_columns, .inl (dC 100, 4, .inl f_columns)), (b_types, .inl (dC 100, 200, .inl f_types)), (b_numbers, .inl (dC 101, 200, .inr (.inl f_numbers))), (b_formulas, .inl (dC 100, 200, .inl f_formulas)), (b_held, .inl (dC 102, 200, .inl f_held)), (b_holds, .inl (dC 101, 200, .inr (.inl f_holds))), (b_found, .inl (dC 105, 885, .inr (.inr (.inr (.inr f_found))))), (b_names, .inl (dC 100, 6, .inl f_names)), (b_bodies, .inl (dC 100, 4, .inl f_bodies)), (b_parts, .inl (dC 100, 3, .inl f_parts)), (b_noteParts, .inl (dC 100, 72, .inl f_noteParts)), (b_over, .inl (dC 102, 600, .inl f_over)), (b_overs, .inl (dC 101, 600, .inr (.inl f_overs))), (b_places, .inl (dC 100, 750, .inl f_places)), (b_torn, .inl (dC 102, 150, .inl f_torn)), (kq, .inl (dC 104, 5, .inr (.inr (.inr (.inr fq))))), (k9, .inr (12, [.ref bk_rows, .ref bk_columns, .int 0, .ref bk_types, .ref bk_numbers, .ref bk_formulas, .ref bk_held, .ref bk_holds, .ref bk_found, .ref bk_names, .ref bk_bodies, .int 0, .ref bk_parts, .ref bk_noteParts, .ref bk_over, .ref bk_overs, .long 0, .long 0, .int 0, .int 0, .ref bk_places, .ref bk_torn])), (bk_rows, .inl (dC 100, 4, .inl fk_rows)), (bk_columns, .inl (dC 100, 4, .inl fk_columns)), (bk_types, .inl (dC 100, 200, .inl fk_types)), (bk_numbers, .inl (dC 101, 200, .inr (.inl fk_numbers))), (bk_formulas, .inl (dC 100, 200, .inl fk_formulas)), (bk_held, .inl (dC 102, 200, .inl fk_held)), (bk_holds, .inl (dC 101, 200, .inr (.inl fk_holds))), (bk_found, .inl (dC 105, 885, .inr (.inr (.inr (.inr fk_found))))), (bk_names, .inl (dC 100, 6, .inl fk_names)), (bk_bodies, .inl (dC 100, 4, .inl fk_bodies)), (bk_parts, .inl (dC 100, 3, .inl fk_parts)), (bk_noteParts, .inl (dC 100, 72, .inl fk_noteParts)), (bk_over, .inl (dC 102, 600, .inl fk_over)), (bk_overs, .inl (dC 101, 600, .inr (.inl fk_overs))), (bk_places, .inl (dC 100, 750, .inl fk_places)), (bk_torn, .inl (dC 102, 150, .inl fk_torn)), (en, .inr (11, [e0, e1, e2, e3, e4, .int cg, e6, e7, e8, e9, e10, e11, e12, e13, e14, e15, e16, e17, e18, e19, e20, e21, e22, e23, e24, e25, e26])), (ou, .inl (dC 101, 1, .inr (.inl (vp_updL f0 (0 : Int32).toNatClampNeg 0))))] H := hP
    have hD : va_D A [(m0, .inr (10, [.ref nw, .ref kq, .int 0, .int 0, z4, z5, z6, z7, z8, z9, z10, z11, z12, .ref en, z14, z15, z16])), (nw, .inr (12, [.ref b_rows, .ref b_columns, .int 0, .ref b_types, .ref b_numbers, .ref b_formulas, .ref b_held, .ref b_holds, .ref b_found, .ref b_names, .ref b_bodies, .int 0, .ref b_parts, .ref b_noteParts, .ref b_over, .ref b_overs, .long 0, .long 0, .int 0, .int 0, .ref b_places, .ref b_torn])), (b_rows, .inl (dC 100, 4, .inl f_rows)), (b_columns, .inl (dC 100, 4, .inl f_columns)), (b_types, .inl (dC 100, 200, .inl f_types)), (b_numbers, .inl (dC 101, 200, .inr (.inl f_numbers))), (b_formulas, .inl (dC 100, 200, .inl f_formulas)), (b_held, .inl (dC 102, 200, .inl f_held)), (b_holds, .inl (dC 101, 200, .inr (.inl f_holds))), (b_found, .inl (dC 105, 885, .inr (.inr (.inr (.inr f_found))))), (b_names, .inl (dC 100, 6, .inl f_names)), (b_bodies, .inl (dC 100, 4, .inl f_bodies)), (b_parts, .inl (dC 100, 3, .inl f_parts)), (b_noteParts, .inl (dC 100, 72, .inl f_noteParts)), (b_over, .inl (dC 102, 600, .inl f_over)), (b_overs, .inl (dC 101, 600, .inr (.inl f_overs))), (b_places, .inl (dC 100, 750, .inl f_places)), (b_torn, .inl (dC 102, 150, .inl f_torn)), (kq, .inl (dC 104, 5, .inr (.inr (.inr (.inr fq))))), (k9, .inr (12, [.ref bk_rows, .ref bk_columns, .int 0, .ref bk_types, .ref bk_numbers, .ref bk_formulas, .ref bk_held, .ref bk_holds, .ref bk_found, .ref bk_names, .ref bk_bodies, .int 0, .ref bk_parts, .ref bk_noteParts, .ref bk_over, .ref bk_overs, .long 0, .long 0, .int 0, .int 0, .ref bk_places, .ref bk_torn])), (bk_rows, .inl (dC 100, 4, .inl fk_rows)), (bk_columns, .inl (dC 100, 4, .inl fk_columns)), (bk_types, .inl (dC 100, 200, .inl fk_types)), (bk_numbers, .inl (dC 101, 200, .inr (.inl fk_numbers))), (bk_formulas, .inl (dC 100, 200, .inl fk_formulas)), (bk_held, .inl (dC 102, 200, .inl fk_held)), (bk_holds, .inl (dC 101, 200, .inr (.inl fk_holds))), (bk_found, .inl (dC 105, 885, .inr (.inr (.inr (.inr fk_found))))), (bk_names, .inl (dC 100, 6, .inl fk_names)), (bk_bodies, .inl (dC 100, 4, .inl fk_bodies)), (bk_parts, .inl (dC 100, 3, .inl fk_parts)), (bk_noteParts, .inl (dC 100, 72, .inl fk_noteParts)), (bk_over, .inl (dC 102, 600, .inl fk_over)), (bk_overs, .inl (dC 101, 600, .inr (.inl fk_overs))), (bk_places, .inl (dC 100, 750, .inl fk_places)), (bk_torn, .inl (dC 102, 150, .inl fk_torn)), (en, .inr (11, [e0, e1, e2, e3, e4, .int cg, e6, e7, e8, e9, e10, e11, e12, e13, e14, e15, e16, e17, e18, e19, e20, e21, e22, e23, e24, e25, e26])), (ou, .inl (dC 101, 1, .inr (.inl (vp_updL f0 (0 : Int32).toNatClampNeg 0))))] := hD
    refine W.widen (k := 404) (n := 120035) (Nat.le_of_ble_eq_true rfl) (Nat.le_of_ble_eq_true rfl) ?_
    refine lv_istore (lv' := [(5, .int 0), (0, .ref b), (1, .ref h0), (2, .ref m0), (3, .ref ou), (4, .int 0)]) hx hb dM_L_law_750 hl (by decide) rfl (fun ls hl => ?_)
    refine lv_aload_n hx hb dM_L_law_752 rfl (lv_at hl 3 rfl) ?_
    refine lv_aload_n hx hb dM_L_law_753 rfl (lv_at hl 1 rfl) ?_
    refine lv_iload hx hb dM_L_law_754 (lv_at hl 5 rfl) ?_
    refine lv_iconst (v := 1) hx hb dM_L_law_756 (by decide) ?_
    refine lv_iadd hx hb dM_L_law_757 ?_
    refine lv_topi (fun y_7 ey_7 => ?_)
    obtain rfl : y_7 = 1 := ey_7.trans (by decide)
    refine va_sld hx hb hX hbl hbA hS (by unfold vp_in; decide) dM_L_law_758 ?_
    refine lv_topi (fun y_8 ey_8 => ?_)
    obtain rfl : y_2 = y_8 := ey_2.trans ey_8.symm
    have hFc := va_free (wc := [(m0, .inr (10, [.ref nw, .ref kq, .int 0, .int 0, z4, z5, z6, z7, z8, z9, z10, z11, z12, .ref en, z14, z15, z16])), (nw, .inr (12, [.ref b_rows, .ref b_columns, .int 0, .ref b_types, .ref b_numbers, .ref b_formulas, .ref b_held, .ref b_holds, .ref b_found, .ref b_names, .ref b_bodies, .int 0, .ref b_parts, .ref b_noteParts, .ref b_over, .ref b_overs, .long 0, .long 0, .int 0, .int 0, .ref b_places, .ref b_torn])), (b_rows, .inl (dC 100, 4, .inl f_rows)), (b_columns, .inl (dC 100, 4, .inl f_columns)), (b_types, .inl (dC 100, 200, .inl f_types)), (b_numbers, .inl (dC 101, 200, .inr (.inl f_numbers))), (b_formulas, .inl (dC 100, 200, .inl f_formulas)), (b_held, .inl (dC 102, 200, .inl f_held)), (b_holds, .inl (dC 101, 200, .inr (.inl f_holds))), (b_found, .inl (dC 105, 885, .inr (.inr (.inr (.inr f_found))))), (b_names, .inl (dC 100, 6, .inl f_names)), (b_bodies, .inl (dC 100, 4, .inl f_bodies)), (b_parts, .inl (dC 100, 3, .inl f_parts)), (b_noteParts, .inl (dC 100, 72, .inl f_noteParts)), (b_over, .inl (dC 102, 600, .inl f_over)), (b_overs, .inl (dC 101, 600, .inr (.inl f_overs))), (b_places, .inl (dC 100, 750, .inl f_places)), (b_torn, .inl (dC 102, 150, .inl f_torn)), (kq, .inl (dC 104, 5, .inr (.inr (.inr (.inr fq))))), (k9, .inr (12, [.ref bk_rows, .ref bk_columns, .int 0, .ref bk_types, .ref bk_numbers, .ref bk_formulas, .ref bk_held, .ref bk_holds, .ref bk_found, .ref bk_names, .ref bk_bodies, .int 0, .ref bk_parts, .ref bk_noteParts, .ref bk_over, .ref bk_overs, .long 0, .long 0, .int 0, .int 0, .ref bk_places, .ref bk_torn])), (bk_rows, .inl (dC 100, 4, .inl fk_rows)), (bk_columns, .inl (dC 100, 4, .inl fk_columns)), (bk_types, .inl (dC 100, 200, .inl fk_types)), (bk_numbers, .inl (dC 101, 200, .inr (.inl fk_numbers))), (bk_formulas, .inl (dC 100, 200, .inl fk_formulas)), (bk_held, .inl (dC 102, 200, .inl fk_held)), (bk_holds, .inl (dC 101, 200, .inr (.inl fk_holds))), (bk_found, .inl (dC 105, 885, .inr (.inr (.inr (.inr fk_found))))), (bk_names, .inl (dC 100, 6, .inl fk_names)), (bk_bodies, .inl (dC 100, 4, .inl fk_bodies)), (bk_parts, .inl (dC 100, 3, .inl fk_parts)), (bk_noteParts, .inl (dC 100, 72, .inl fk_noteParts)), (bk_over, .inl (dC 102, 600, .inl fk_over)), (bk_overs, .inl (dC 101, 600, .inr (.inl fk_overs))), (bk_places, .inl (dC 100, 750, .inl fk_places)), (bk_torn, .inl (dC 102, 150, .inl fk_torn)), (en, .inr (11, [e0, e1, e2, e3, e4, .int cg, e6, e7, e8, e9, e10, e11, e12, e13, e14, e15, e16, e17, e18, e19, e20, e21, e22, e23, e24, e25, e26]))]) hD hS hA [0, 1, 2, 3, 4, 5, 6, 7, 8, 9, 10, 11, 12, 13, 14, 15, 16, 17, 18, 19, 20, 21, 22, 23, 24, 25, 26, 27, 28, 29, 30, 31, 32, 33, 34, 35, 36] rfl
    refine va_calli (va_runV (As := [.int y_2]) (rest := []) ⟨hx, hb, hml, hown, hbg⟩ (c_M_rounds l dC dI m0 y_2 nw kq z4 z5 z6 z7 z8 z9 z10 z11 z12 en z14 z15 z16 b_rows b_columns b_types b_numbers b_formulas b_held b_holds b_found b_names b_bodies b_parts b_noteParts b_over b_overs b_places b_torn f_rows f_columns f_types f_numbers f_formulas f_held f_holds f_found f_names f_bodies f_parts f_noteParts f_over f_overs f_places f_torn fq k9 bk_rows bk_columns bk_types bk_numbers bk_formulas bk_held bk_holds bk_found bk_names bk_bodies bk_parts bk_noteParts bk_over bk_overs bk_places bk_torn fk_rows fk_columns fk_types fk_numbers fk_formulas fk_held fk_holds fk_found fk_names fk_bodies fk_parts fk_noteParts fk_over fk_overs fk_places fk_torn e0 e1 e2 e3 e4 cg e6 e7 e8 e9 e10 e11 e12 e13 e14 e15 e16 e17 e18 e19 e20 e21 e22 e23 e24 e25 e26 _ (hfd) (hk9) (hhe)) (cwV 1 hbg (gd_V (fun _ h => h) wd_2587 wd_2588 wd_2589 wd_12 (gd_wm (fun _ h => h) wd_2590)) rfl rfl rfl (by decide +kernel) ⟨Nat.le_of_ble_eq_true rfl, Nat.le_of_ble_eq_true rfl⟩) (nPreV [0, 1, 2, 3, 4, 5, 6, 7, 8, 9, 10, 11, 12, 13, 14, 15, 16, 17, 18, 19, 20, 21, 22, 23, 24, 25, 26, 27, 28, 29, 30, 31, 32, 33, 34, 35, 36] hP hD hK hN hS hA (by decide) rfl 0 rfl rfl) rfl rfl hl.1 rfl (lv_room (Nat.le_of_ble_eq_true rfl)) dM_L_law_759 ⟨Nat.le_of_ble_eq_true rfl, Nat.le_of_ble_eq_true rfl⟩) hS (fun q _ h => hFc q h) hFc (fun r_9 u t H1 locs ht hvm hw hB hz1 hk1 hS => ?_)
    rcases hw with ⟨c_10, rfl, rfl⟩ | ⟨c_11, rfl, rfl⟩
    · --
      obtain ⟨r0_12, r1_13, r2_14, r3_15, r4_16, r5_17, r6_18, r7_19, r8_20, r9_21, r10_22, r11_23, r12_24, r13_25, r14_26, r15_27, hP1, hD1⟩ := hB
      rw [ht] at hP1
      obtain ⟨hP, hD⟩ := va_join (wr := [(ou, .inl (dC 101, 1, .inr (.inl (vp_updL f0 (0 : Int32).toNatClampNeg 0))))]) (w1 := [(m0, .inr (10, [r0_12, r1_13, r2_14, r3_15, r4_16, r5_17, r6_18, r7_19, r8_20, r9_21, r10_22, r11_23, r12_24, r13_25, r14_26, r15_27, .int 0]))]) hP hD [0, 1, 2, 3, 4, 5, 6, 7, 8, 9, 10, 11, 12, 13, 14, 15, 16, 17, 18, 19, 20, 21, 22, 23, 24, 25, 26, 27, 28, 29, 30, 31, 32, 33, 34, 35, 36] [37] rfl rfl (by decide) (by decide) hk1 hFc hP1 hD1
      generalize H1 = H at hP hS ⊢
      have hP : va_P (dC, dI) classes [(ou, .inl (dC 101, 1, .inr (.inl (vp_updL f0 (0 : Int32).toNatClampNeg 0)))), (m0, .inr (10, [r0_12, r1_13, r2_14, r3_15, r4_16, r5_17, r6_18, r7_19, r8_20, r9_21, r10_22, r11_23, r12_24, r13_25, r14_26, r15_27, .int 0]))] H := hP
      have hD : va_D A [(ou, .inl (dC 101, 1, .inr (.inl (vp_updL f0 (0 : Int32).toNatClampNeg 0)))), (m0, .inr (10, [r0_12, r1_13, r2_14, r3_15, r4_16, r5_17, r6_18, r7_19, r8_20, r9_21, r10_22, r11_23, r12_24, r13_25, r14_26, r15_27, .int 0]))] := hD
      refine W.widen (k := 404) (n := 120035) (Nat.le_of_ble_eq_true rfl) (Nat.le_of_ble_eq_true rfl) ?_
      refine lv_istore (lv' := [(6, .int 0), (5, .int 0), (0, .ref b), (1, .ref h0), (2, .ref m0), (3, .ref ou), (4, .int 0)]) hx hb dM_L_law_762 hl (by decide) rfl (fun ls hl => ?_)
      refine lv_aload_n hx hb dM_L_law_764 rfl (lv_at hl 4 rfl) ?_
      have hFc := va_free (wc := [(m0, .inr (10, [r0_12, r1_13, r2_14, r3_15, r4_16, r5_17, r6_18, r7_19, r8_20, r9_21, r10_22, r11_23, r12_24, r13_25, r14_26, r15_27, .int 0]))]) hD hS hA [1] rfl
      refine va_calli (va_runV (As := []) (rest := []) ⟨hx, hb, hml, hown, hbg⟩ (c_M_thrown l dC dI m0 r0_12 r1_13 r2_14 r3_15 r4_16 r5_17 r6_18 r7_19 r8_20 r9_21 r10_22 r11_23 r12_24 r13_25 r14_26 r15_27 0 _ ) (cwV 0 hbg (gd_V (fun _ h => h) wd_2190 wd_2191 wd_2192 wd_12 (gd_wm (fun _ h => h) wd_2193)) rfl rfl rfl (by decide +kernel) ⟨Nat.le_of_ble_eq_true rfl, Nat.le_of_ble_eq_true rfl⟩) (nPreV [1] hP hD hK hN hS hA (by decide) rfl 1 rfl rfl) rfl rfl hl.1 rfl (lv_room (Nat.le_of_ble_eq_true rfl)) dM_L_law_765 ⟨Nat.le_of_ble_eq_true rfl, Nat.le_of_ble_eq_true rfl⟩) hS (fun q _ h => hFc q h) hFc (fun r_28 u t H1 locs ht hvm hw hB hz1 hk1 hS => ?_)
      obtain ⟨rfl, rfl⟩ := hw
      obtain ⟨r0_30, r1_31, r2_32, r3_33, r4_34, r5_35, r6_36, r7_37, r8_38, r9_39, r10_40, r11_41, r12_42, r13_43, r14_44, r15_45, hP1, hD1⟩ := hB
      rw [ht] at hP1
      obtain ⟨hP, hD⟩ := va_join (wr := [(ou, .inl (dC 101, 1, .inr (.inl (vp_updL f0 (0 : Int32).toNatClampNeg 0))))]) (w1 := [(m0, .inr (10, [r0_30, r1_31, r2_32, r3_33, r4_34, r5_35, r6_36, r7_37, r8_38, r9_39, r10_40, r11_41, r12_42, r13_43, r14_44, r15_45, .int 0]))]) hP hD [1] [0] rfl rfl (by decide) (by decide) hk1 hFc hP1 hD1
      generalize H1 = H at hP hS ⊢
      have hP : va_P (dC, dI) classes [(ou, .inl (dC 101, 1, .inr (.inl (vp_updL f0 (0 : Int32).toNatClampNeg 0)))), (m0, .inr (10, [r0_30, r1_31, r2_32, r3_33, r4_34, r5_35, r6_36, r7_37, r8_38, r9_39, r10_40, r11_41, r12_42, r13_43, r14_44, r15_45, .int 0]))] H := hP
      have hD : va_D A [(ou, .inl (dC 101, 1, .inr (.inl (vp_updL f0 (0 : Int32).toNatClampNeg 0)))), (m0, .inr (10, [r0_30, r1_31, r2_32, r3_33, r4_34, r5_35, r6_36, r7_37, r8_38, r9_39, r10_40, r11_41, r12_42, r13_43, r14_44, r15_45, .int 0]))] := hD
      refine W.widen (k := 404) (n := 120035) (Nat.le_of_ble_eq_true rfl) (Nat.le_of_ble_eq_true rfl) ?_
      refine lv_iload hx hb dM_L_law_768 (lv_at hl 1 rfl) ?_
      refine lv_icmp_eq (tgt := 775) hx hb dM_L_law_770 (by decide) (fun _ => ?_) (fun q => absurd (by decide) q)
      refine lv_iload hx hb dM_L_law_775 (lv_at hl 1 rfl) ?_
      refine lv_if_ne (tgt := 792) hx hb dM_L_law_777 (by decide) (fun q => absurd (by decide) q) (fun _ => ?_)
      refine lv_aload_n hx hb dM_L_law_780 rfl (lv_at hl 5 rfl) ?_
      refine lv_iconst (v := 0) hx hb dM_L_law_781 (by decide) ?_
      refine va_lald hx hb hK.1 hP 0 1 rfl rfl (by unfold vp_in; decide) dM_L_law_782 ?_
      rw [pk_uLs]
      refine lv_iload hx hb dM_L_law_783 (lv_at hl 0 rfl) ?_
      refine lv_i2l (v := 0) hx hb dM_L_law_785 (by decide) ?_
      refine W.lcmp hx hb dM_L_law_786 ?_
      refine lv_topi (fun y_46 ey_46 => ?_)
      obtain rfl : y_46 = 0 := ey_46.trans (by decide)
      refine lv_if_eq (tgt := 792) hx hb dM_L_law_787 (by decide) (fun _ => ?_) (fun q => absurd (by decide) q)
      refine lv_goto (tgt := 3410) hx hb dM_L_law_792 (by decide) ?_
      refine W.widen (k := 600002) (n := 7302232) (Nat.le_of_ble_eq_true rfl) (Nat.le_of_ble_eq_true rfl) ?_
      exact hend _ _ _ hS (lv_sub hl [6, 2] rfl)
    · --
      exact absurd c_4 c_11
  · --
    obtain rfl := hu_6.symm
    obtain ⟨hP1, hD1⟩ := hB
    rw [ht] at hP1
    obtain ⟨hP, hD⟩ := va_join (wr := [(m0, .inr (10, [.ref nw, .ref kq, .int 0, .int 0, z4, z5, z6, z7, z8, z9, z10, z11, z12, .ref en, z14, z15, z16])), (nw, .inr (12, [.ref b_rows, .ref b_columns, .int 0, .ref b_types, .ref b_numbers, .ref b_formulas, .ref b_held, .ref b_holds, .ref b_found, .ref b_names, .ref b_bodies, .int 0, .ref b_parts, .ref b_noteParts, .ref b_over, .ref b_overs, .long 0, .long 0, .int 0, .int 0, .ref b_places, .ref b_torn])), (b_rows, .inl (dC 100, 4, .inl f_rows)), (b_columns, .inl (dC 100, 4, .inl f_columns)), (b_types, .inl (dC 100, 200, .inl f_types)), (b_numbers, .inl (dC 101, 200, .inr (.inl f_numbers))), (b_formulas, .inl (dC 100, 200, .inl f_formulas)), (b_held, .inl (dC 102, 200, .inl f_held)), (b_holds, .inl (dC 101, 200, .inr (.inl f_holds))), (b_found, .inl (dC 105, 885, .inr (.inr (.inr (.inr f_found))))), (b_names, .inl (dC 100, 6, .inl f_names)), (b_bodies, .inl (dC 100, 4, .inl f_bodies)), (b_parts, .inl (dC 100, 3, .inl f_parts)), (b_noteParts, .inl (dC 100, 72, .inl f_noteParts)), (b_over, .inl (dC 102, 600, .inl f_over)), (b_overs, .inl (dC 101, 600, .inr (.inl f_overs))), (b_places, .inl (dC 100, 750, .inl f_places)), (b_torn, .inl (dC 102, 150, .inl f_torn)), (kq, .inl (dC 104, 5, .inr (.inr (.inr (.inr fq))))), (k9, .inr (12, [.ref bk_rows, .ref bk_columns, .int 0, .ref bk_types, .ref bk_numbers, .ref bk_formulas, .ref bk_held, .ref bk_holds, .ref bk_found, .ref bk_names, .ref bk_bodies, .int 0, .ref bk_parts, .ref bk_noteParts, .ref bk_over, .ref bk_overs, .long 0, .long 0, .int 0, .int 0, .ref bk_places, .ref bk_torn])), (bk_rows, .inl (dC 100, 4, .inl fk_rows)), (bk_columns, .inl (dC 100, 4, .inl fk_columns)), (bk_types, .inl (dC 100, 200, .inl fk_types)), (bk_numbers, .inl (dC 101, 200, .inr (.inl fk_numbers))), (bk_formulas, .inl (dC 100, 200, .inl fk_formulas)), (bk_held, .inl (dC 102, 200, .inl fk_held)), (bk_holds, .inl (dC 101, 200, .inr (.inl fk_holds))), (bk_found, .inl (dC 105, 885, .inr (.inr (.inr (.inr fk_found))))), (bk_names, .inl (dC 100, 6, .inl fk_names)), (bk_bodies, .inl (dC 100, 4, .inl fk_bodies)), (bk_parts, .inl (dC 100, 3, .inl fk_parts)), (bk_noteParts, .inl (dC 100, 72, .inl fk_noteParts)), (bk_over, .inl (dC 102, 600, .inl fk_over)), (bk_overs, .inl (dC 101, 600, .inr (.inl fk_overs))), (bk_places, .inl (dC 100, 750, .inl fk_places)), (bk_torn, .inl (dC 102, 150, .inl fk_torn)), (en, .inr (11, [e0, e1, e2, e3, e4, .int cg, e6, e7, e8, e9, e10, e11, e12, e13, e14, e15, e16, e17, e18, e19, e20, e21, e22, e23, e24, e25, e26]))]) (w1 := [(ou, .inl (dC 101, 1, .inr (.inl f0)))]) hP hD [0, 1, 2, 3, 4, 5, 6, 7, 8, 9, 10, 11, 12, 13, 14, 15, 16, 17, 18, 19, 20, 21, 22, 23, 24, 25, 26, 27, 28, 29, 30, 31, 32, 33, 34, 35, 36, 37] [38, 39, 40, 41, 42, 43, 44, 45, 46, 47, 48, 49, 50, 51, 52, 53, 54, 55, 56, 57, 58, 59, 60, 61, 62, 63, 64, 65, 66, 67, 68, 69, 70, 71, 72, 73, 74] rfl rfl (by decide) (by decide) hk1 hFc hP1 hD1
    generalize H1 = H at hP hS ⊢
    have hP : va_P (dC, dI) classes [(m0, .inr (10, [.ref nw, .ref kq, .int 0, .int 0, z4, z5, z6, z7, z8, z9, z10, z11, z12, .ref en, z14, z15, z16])), (nw, .inr (12, [.ref b_rows, .ref b_columns, .int 0, .ref b_types, .ref b_numbers, .ref b_formulas, .ref b_held, .ref b_holds, .ref b_found, .ref b_names, .ref b_bodies, .int 0, .ref b_parts, .ref b_noteParts, .ref b_over, .ref b_overs, .long 0, .long 0, .int 0, .int 0, .ref b_places, .ref b_torn])), (b_rows, .inl (dC 100, 4, .inl f_rows)), (b_columns, .inl (dC 100, 4, .inl f_columns)), (b_types, .inl (dC 100, 200, .inl f_types)), (b_numbers, .inl (dC 101, 200, .inr (.inl f_numbers))), (b_formulas, .inl (dC 100, 200, .inl f_formulas)), (b_held, .inl (dC 102, 200, .inl f_held)), (b_holds, .inl (dC 101, 200, .inr (.inl f_holds))), (b_found, .inl (dC 105, 885, .inr (.inr (.inr (.inr f_found))))), (b_names, .inl (dC 100, 6, .inl f_names)), (b_bodies, .inl (dC 100, 4, .inl f_bodies)), (b_parts, .inl (dC 100, 3, .inl f_parts)), (b_noteParts, .inl (dC 100, 72, .inl f_noteParts)), (b_over, .inl (dC 102, 600, .inl f_over)), (b_overs, .inl (dC 101, 600, .inr (.inl f_overs))), (b_places, .inl (dC 100, 750, .inl f_places)), (b_torn, .inl (dC 102, 150, .inl f_torn)), (kq, .inl (dC 104, 5, .inr (.inr (.inr (.inr fq))))), (k9, .inr (12, [.ref bk_rows, .ref bk_columns, .int 0, .ref bk_types, .ref bk_numbers, .ref bk_formulas, .ref bk_held, .ref bk_holds, .ref bk_found, .ref bk_names, .ref bk_bodies, .int 0, .ref bk_parts, .ref bk_noteParts, .ref bk_over, .ref bk_overs, .long 0, .long 0, .int 0, .int 0, .ref bk_places, .ref bk_torn])), (bk_rows, .inl (dC 100, 4, .inl fk_rows)), (bk_columns, .inl (dC 100, 4, .inl fk_columns)), (bk_types, .inl (dC 100, 200, .inl fk_types)), (bk_numbers, .inl (dC 101, 200, .inr (.inl fk_numbers))), (bk_formulas, .inl (dC 100, 200, .inl fk_formulas)), (bk_held, .inl (dC 102, 200, .inl fk_held)), (bk_holds, .inl (dC 101, 200, .inr (.inl fk_holds))), (bk_found, .inl (dC 105, 885, .inr (.inr (.inr (.inr fk_found))))), (bk_names, .inl (dC 100, 6, .inl fk_names)), (bk_bodies, .inl (dC 100, 4, .inl fk_bodies)), (bk_parts, .inl (dC 100, 3, .inl fk_parts)), (bk_noteParts, .inl (dC 100, 72, .inl fk_noteParts)), (bk_over, .inl (dC 102, 600, .inl fk_over)), (bk_overs, .inl (dC 101, 600, .inr (.inl fk_overs))), (bk_places, .inl (dC 100, 750, .inl fk_places)), (bk_torn, .inl (dC 102, 150, .inl fk_torn)), (en, .inr (11, [e0, e1, e2, e3, e4, .int cg, e6, e7, e8, e9, e10, e11, e12, e13, e14, e15, e16, e17, e18, e19, e20, e21, e22, e23, e24, e25, e26])), (ou, .inl (dC 101, 1, .inr (.inl f0)))] H := hP
    have hD : va_D A [(m0, .inr (10, [.ref nw, .ref kq, .int 0, .int 0, z4, z5, z6, z7, z8, z9, z10, z11, z12, .ref en, z14, z15, z16])), (nw, .inr (12, [.ref b_rows, .ref b_columns, .int 0, .ref b_types, .ref b_numbers, .ref b_formulas, .ref b_held, .ref b_holds, .ref b_found, .ref b_names, .ref b_bodies, .int 0, .ref b_parts, .ref b_noteParts, .ref b_over, .ref b_overs, .long 0, .long 0, .int 0, .int 0, .ref b_places, .ref b_torn])), (b_rows, .inl (dC 100, 4, .inl f_rows)), (b_columns, .inl (dC 100, 4, .inl f_columns)), (b_types, .inl (dC 100, 200, .inl f_types)), (b_numbers, .inl (dC 101, 200, .inr (.inl f_numbers))), (b_formulas, .inl (dC 100, 200, .inl f_formulas)), (b_held, .inl (dC 102, 200, .inl f_held)), (b_holds, .inl (dC 101, 200, .inr (.inl f_holds))), (b_found, .inl (dC 105, 885, .inr (.inr (.inr (.inr f_found))))), (b_names, .inl (dC 100, 6, .inl f_names)), (b_bodies, .inl (dC 100, 4, .inl f_bodies)), (b_parts, .inl (dC 100, 3, .inl f_parts)), (b_noteParts, .inl (dC 100, 72, .inl f_noteParts)), (b_over, .inl (dC 102, 600, .inl f_over)), (b_overs, .inl (dC 101, 600, .inr (.inl f_overs))), (b_places, .inl (dC 100, 750, .inl f_places)), (b_torn, .inl (dC 102, 150, .inl f_torn)), (kq, .inl (dC 104, 5, .inr (.inr (.inr (.inr fq))))), (k9, .inr (12, [.ref bk_rows, .ref bk_columns, .int 0, .ref bk_types, .ref bk_numbers, .ref bk_formulas, .ref bk_held, .ref bk_holds, .ref bk_found, .ref bk_names, .ref bk_bodies, .int 0, .ref bk_parts, .ref bk_noteParts, .ref bk_over, .ref bk_overs, .long 0, .long 0, .int 0, .int 0, .ref bk_places, .ref bk_torn])), (bk_rows, .inl (dC 100, 4, .inl fk_rows)), (bk_columns, .inl (dC 100, 4, .inl fk_columns)), (bk_types, .inl (dC 100, 200, .inl fk_types)), (bk_numbers, .inl (dC 101, 200, .inr (.inl fk_numbers))), (bk_formulas, .inl (dC 100, 200, .inl fk_formulas)), (bk_held, .inl (dC 102, 200, .inl fk_held)), (bk_holds, .inl (dC 101, 200, .inr (.inl fk_holds))), (bk_found, .inl (dC 105, 885, .inr (.inr (.inr (.inr fk_found))))), (bk_names, .inl (dC 100, 6, .inl fk_names)), (bk_bodies, .inl (dC 100, 4, .inl fk_bodies)), (bk_parts, .inl (dC 100, 3, .inl fk_parts)), (bk_noteParts, .inl (dC 100, 72, .inl fk_noteParts)), (bk_over, .inl (dC 102, 600, .inl fk_over)), (bk_overs, .inl (dC 101, 600, .inr (.inl fk_overs))), (bk_places, .inl (dC 100, 750, .inl fk_places)), (bk_torn, .inl (dC 102, 150, .inl fk_torn)), (en, .inr (11, [e0, e1, e2, e3, e4, .int cg, e6, e7, e8, e9, e10, e11, e12, e13, e14, e15, e16, e17, e18, e19, e20, e21, e22, e23, e24, e25, e26])), (ou, .inl (dC 101, 1, .inr (.inl f0)))] := hD
    refine W.widen (k := 404) (n := 120035) (Nat.le_of_ble_eq_true rfl) (Nat.le_of_ble_eq_true rfl) ?_
    refine lv_istore (lv' := [(5, .int 1), (0, .ref b), (1, .ref h0), (2, .ref m0), (3, .ref ou), (4, .int 0)]) hx hb dM_L_law_750 hl (by decide) rfl (fun ls hl => ?_)
    refine lv_aload_n hx hb dM_L_law_752 rfl (lv_at hl 3 rfl) ?_
    refine lv_aload_n hx hb dM_L_law_753 rfl (lv_at hl 1 rfl) ?_
    refine lv_iload hx hb dM_L_law_754 (lv_at hl 5 rfl) ?_
    refine lv_iconst (v := 1) hx hb dM_L_law_756 (by decide) ?_
    refine lv_iadd hx hb dM_L_law_757 ?_
    refine lv_topi (fun y_47 ey_47 => ?_)
    obtain rfl : y_47 = 1 := ey_47.trans (by decide)
    refine va_sld hx hb hX hbl hbA hS (by unfold vp_in; decide) dM_L_law_758 ?_
    refine lv_topi (fun y_48 ey_48 => ?_)
    obtain rfl : y_2 = y_48 := ey_2.trans ey_48.symm
    have hFc := va_free (wc := [(m0, .inr (10, [.ref nw, .ref kq, .int 0, .int 0, z4, z5, z6, z7, z8, z9, z10, z11, z12, .ref en, z14, z15, z16])), (nw, .inr (12, [.ref b_rows, .ref b_columns, .int 0, .ref b_types, .ref b_numbers, .ref b_formulas, .ref b_held, .ref b_holds, .ref b_found, .ref b_names, .ref b_bodies, .int 0, .ref b_parts, .ref b_noteParts, .ref b_over, .ref b_overs, .long 0, .long 0, .int 0, .int 0, .ref b_places, .ref b_torn])), (b_rows, .inl (dC 100, 4, .inl f_rows)), (b_columns, .inl (dC 100, 4, .inl f_columns)), (b_types, .inl (dC 100, 200, .inl f_types)), (b_numbers, .inl (dC 101, 200, .inr (.inl f_numbers))), (b_formulas, .inl (dC 100, 200, .inl f_formulas)), (b_held, .inl (dC 102, 200, .inl f_held)), (b_holds, .inl (dC 101, 200, .inr (.inl f_holds))), (b_found, .inl (dC 105, 885, .inr (.inr (.inr (.inr f_found))))), (b_names, .inl (dC 100, 6, .inl f_names)), (b_bodies, .inl (dC 100, 4, .inl f_bodies)), (b_parts, .inl (dC 100, 3, .inl f_parts)), (b_noteParts, .inl (dC 100, 72, .inl f_noteParts)), (b_over, .inl (dC 102, 600, .inl f_over)), (b_overs, .inl (dC 101, 600, .inr (.inl f_overs))), (b_places, .inl (dC 100, 750, .inl f_places)), (b_torn, .inl (dC 102, 150, .inl f_torn)), (kq, .inl (dC 104, 5, .inr (.inr (.inr (.inr fq))))), (k9, .inr (12, [.ref bk_rows, .ref bk_columns, .int 0, .ref bk_types, .ref bk_numbers, .ref bk_formulas, .ref bk_held, .ref bk_holds, .ref bk_found, .ref bk_names, .ref bk_bodies, .int 0, .ref bk_parts, .ref bk_noteParts, .ref bk_over, .ref bk_overs, .long 0, .long 0, .int 0, .int 0, .ref bk_places, .ref bk_torn])), (bk_rows, .inl (dC 100, 4, .inl fk_rows)), (bk_columns, .inl (dC 100, 4, .inl fk_columns)), (bk_types, .inl (dC 100, 200, .inl fk_types)), (bk_numbers, .inl (dC 101, 200, .inr (.inl fk_numbers))), (bk_formulas, .inl (dC 100, 200, .inl fk_formulas)), (bk_held, .inl (dC 102, 200, .inl fk_held)), (bk_holds, .inl (dC 101, 200, .inr (.inl fk_holds))), (bk_found, .inl (dC 105, 885, .inr (.inr (.inr (.inr fk_found))))), (bk_names, .inl (dC 100, 6, .inl fk_names)), (bk_bodies, .inl (dC 100, 4, .inl fk_bodies)), (bk_parts, .inl (dC 100, 3, .inl fk_parts)), (bk_noteParts, .inl (dC 100, 72, .inl fk_noteParts)), (bk_over, .inl (dC 102, 600, .inl fk_over)), (bk_overs, .inl (dC 101, 600, .inr (.inl fk_overs))), (bk_places, .inl (dC 100, 750, .inl fk_places)), (bk_torn, .inl (dC 102, 150, .inl fk_torn)), (en, .inr (11, [e0, e1, e2, e3, e4, .int cg, e6, e7, e8, e9, e10, e11, e12, e13, e14, e15, e16, e17, e18, e19, e20, e21, e22, e23, e24, e25, e26]))]) hD hS hA [0, 1, 2, 3, 4, 5, 6, 7, 8, 9, 10, 11, 12, 13, 14, 15, 16, 17, 18, 19, 20, 21, 22, 23, 24, 25, 26, 27, 28, 29, 30, 31, 32, 33, 34, 35, 36] rfl
    refine va_calli (va_runV (As := [.int y_2]) (rest := []) ⟨hx, hb, hml, hown, hbg⟩ (c_M_rounds l dC dI m0 y_2 nw kq z4 z5 z6 z7 z8 z9 z10 z11 z12 en z14 z15 z16 b_rows b_columns b_types b_numbers b_formulas b_held b_holds b_found b_names b_bodies b_parts b_noteParts b_over b_overs b_places b_torn f_rows f_columns f_types f_numbers f_formulas f_held f_holds f_found f_names f_bodies f_parts f_noteParts f_over f_overs f_places f_torn fq k9 bk_rows bk_columns bk_types bk_numbers bk_formulas bk_held bk_holds bk_found bk_names bk_bodies bk_parts bk_noteParts bk_over bk_overs bk_places bk_torn fk_rows fk_columns fk_types fk_numbers fk_formulas fk_held fk_holds fk_found fk_names fk_bodies fk_parts fk_noteParts fk_over fk_overs fk_places fk_torn e0 e1 e2 e3 e4 cg e6 e7 e8 e9 e10 e11 e12 e13 e14 e15 e16 e17 e18 e19 e20 e21 e22 e23 e24 e25 e26 _ (hfd) (hk9) (hhe)) (cwV 1 hbg (gd_V (fun _ h => h) wd_2587 wd_2588 wd_2589 wd_12 (gd_wm (fun _ h => h) wd_2590)) rfl rfl rfl (by decide +kernel) ⟨Nat.le_of_ble_eq_true rfl, Nat.le_of_ble_eq_true rfl⟩) (nPreV [0, 1, 2, 3, 4, 5, 6, 7, 8, 9, 10, 11, 12, 13, 14, 15, 16, 17, 18, 19, 20, 21, 22, 23, 24, 25, 26, 27, 28, 29, 30, 31, 32, 33, 34, 35, 36] hP hD hK hN hS hA (by decide) rfl 0 rfl rfl) rfl rfl hl.1 rfl (lv_room (Nat.le_of_ble_eq_true rfl)) dM_L_law_759 ⟨Nat.le_of_ble_eq_true rfl, Nat.le_of_ble_eq_true rfl⟩) hS (fun q _ h => hFc q h) hFc (fun r_49 u t H1 locs ht hvm hw hB hz1 hk1 hS => ?_)
    rcases hw with ⟨c_50, rfl, rfl⟩ | ⟨c_51, rfl, rfl⟩
    · --
      exact absurd c_50 c_5
    · --
      obtain ⟨r0_52, r1_53, r2_54, r3_55, r4_56, r5_57, r6_58, r7_59, r8_60, r9_61, r10_62, r11_63, r12_64, r13_65, r14_66, r15_67, hP1, hD1⟩ := hB
      rw [ht] at hP1
      obtain ⟨hP, hD⟩ := va_join (wr := [(ou, .inl (dC 101, 1, .inr (.inl f0)))]) (w1 := [(m0, .inr (10, [r0_52, r1_53, r2_54, r3_55, r4_56, r5_57, r6_58, r7_59, r8_60, r9_61, r10_62, r11_63, r12_64, r13_65, r14_66, r15_67, .int 1]))]) hP hD [0, 1, 2, 3, 4, 5, 6, 7, 8, 9, 10, 11, 12, 13, 14, 15, 16, 17, 18, 19, 20, 21, 22, 23, 24, 25, 26, 27, 28, 29, 30, 31, 32, 33, 34, 35, 36] [37] rfl rfl (by decide) (by decide) hk1 hFc hP1 hD1
      generalize H1 = H at hP hS ⊢
      have hP : va_P (dC, dI) classes [(ou, .inl (dC 101, 1, .inr (.inl f0))), (m0, .inr (10, [r0_52, r1_53, r2_54, r3_55, r4_56, r5_57, r6_58, r7_59, r8_60, r9_61, r10_62, r11_63, r12_64, r13_65, r14_66, r15_67, .int 1]))] H := hP
      have hD : va_D A [(ou, .inl (dC 101, 1, .inr (.inl f0))), (m0, .inr (10, [r0_52, r1_53, r2_54, r3_55, r4_56, r5_57, r6_58, r7_59, r8_60, r9_61, r10_62, r11_63, r12_64, r13_65, r14_66, r15_67, .int 1]))] := hD
      refine W.widen (k := 404) (n := 120035) (Nat.le_of_ble_eq_true rfl) (Nat.le_of_ble_eq_true rfl) ?_
      refine lv_istore (lv' := [(6, .int 0), (5, .int 1), (0, .ref b), (1, .ref h0), (2, .ref m0), (3, .ref ou), (4, .int 0)]) hx hb dM_L_law_762 hl (by decide) rfl (fun ls hl => ?_)
      refine lv_aload_n hx hb dM_L_law_764 rfl (lv_at hl 4 rfl) ?_
      have hFc := va_free (wc := [(m0, .inr (10, [r0_52, r1_53, r2_54, r3_55, r4_56, r5_57, r6_58, r7_59, r8_60, r9_61, r10_62, r11_63, r12_64, r13_65, r14_66, r15_67, .int 1]))]) hD hS hA [1] rfl
      refine va_calli (va_runV (As := []) (rest := []) ⟨hx, hb, hml, hown, hbg⟩ (c_M_thrown l dC dI m0 r0_52 r1_53 r2_54 r3_55 r4_56 r5_57 r6_58 r7_59 r8_60 r9_61 r10_62 r11_63 r12_64 r13_65 r14_66 r15_67 1 _ ) (cwV 0 hbg (gd_V (fun _ h => h) wd_2190 wd_2191 wd_2192 wd_12 (gd_wm (fun _ h => h) wd_2193)) rfl rfl rfl (by decide +kernel) ⟨Nat.le_of_ble_eq_true rfl, Nat.le_of_ble_eq_true rfl⟩) (nPreV [1] hP hD hK hN hS hA (by decide) rfl 1 rfl rfl) rfl rfl hl.1 rfl (lv_room (Nat.le_of_ble_eq_true rfl)) dM_L_law_765 ⟨Nat.le_of_ble_eq_true rfl, Nat.le_of_ble_eq_true rfl⟩) hS (fun q _ h => hFc q h) hFc (fun r_68 u t H1 locs ht hvm hw hB hz1 hk1 hS => ?_)
      obtain ⟨rfl, rfl⟩ := hw
      obtain ⟨r0_70, r1_71, r2_72, r3_73, r4_74, r5_75, r6_76, r7_77, r8_78, r9_79, r10_80, r11_81, r12_82, r13_83, r14_84, r15_85, hP1, hD1⟩ := hB
      rw [ht] at hP1
      obtain ⟨hP, hD⟩ := va_join (wr := [(ou, .inl (dC 101, 1, .inr (.inl f0)))]) (w1 := [(m0, .inr (10, [r0_70, r1_71, r2_72, r3_73, r4_74, r5_75, r6_76, r7_77, r8_78, r9_79, r10_80, r11_81, r12_82, r13_83, r14_84, r15_85, .int 1]))]) hP hD [1] [0] rfl rfl (by decide) (by decide) hk1 hFc hP1 hD1
      generalize H1 = H at hP hS ⊢
      have hP : va_P (dC, dI) classes [(ou, .inl (dC 101, 1, .inr (.inl f0))), (m0, .inr (10, [r0_70, r1_71, r2_72, r3_73, r4_74, r5_75, r6_76, r7_77, r8_78, r9_79, r10_80, r11_81, r12_82, r13_83, r14_84, r15_85, .int 1]))] H := hP
      have hD : va_D A [(ou, .inl (dC 101, 1, .inr (.inl f0))), (m0, .inr (10, [r0_70, r1_71, r2_72, r3_73, r4_74, r5_75, r6_76, r7_77, r8_78, r9_79, r10_80, r11_81, r12_82, r13_83, r14_84, r15_85, .int 1]))] := hD
      refine W.widen (k := 404) (n := 120035) (Nat.le_of_ble_eq_true rfl) (Nat.le_of_ble_eq_true rfl) ?_
      refine lv_iload hx hb dM_L_law_768 (lv_at hl 1 rfl) ?_
      refine lv_icmp_eq (tgt := 775) hx hb dM_L_law_770 (by decide) (fun _ => ?_) (fun q => absurd (by decide) q)
      refine lv_iload hx hb dM_L_law_775 (lv_at hl 1 rfl) ?_
      refine lv_if_ne (tgt := 792) hx hb dM_L_law_777 (by decide) (fun _ => ?_) (fun q => absurd q (by decide))
      refine lv_goto (tgt := 3410) hx hb dM_L_law_792 (by decide) ?_
      refine W.widen (k := 600002) (n := 7302232) (Nat.le_of_ble_eq_true rfl) (Nat.le_of_ble_eq_true rfl) ?_
      exact hend _ _ _ hS (lv_sub hl [6, 2] rfl)
set_option maxHeartbeats 4000000 in
set_option maxRecDepth 100000 in
theorem lawc_7 {p : Program} {e : Env} {s : State} {m : MethodId} {below : List Frame} {meth : Method} {c : Code} {Z : State → Prop} (l : Launch) (hl9 : l.stackTraces = false) (dC : Nat → ClassId) (dI : Nat → Nat → Nat) {A : Nat → Prop} {b L : Nat} {xs : Nat → Int32} (hL : L = 8) (hx : p.tables.exec = Jvm.exec) (hb : c.code = cM_L_law) (hml : c.maxLocals = 8) (hown : s.vm.findClass "NoteDocumentLaw" = some m.cls) (hbg : ∀ w ∈ BIG, w.before #[Value.ref b] s = true) (hK : nK (dC, dI) s) (hN : nS A s s.heap) (hA : ∀ q : Nat, s.heap.size ≤ q → A q) (hX : va_X b L xs s s.heap) (hbl : b < s.heap.size) (hbA : ¬ A b) {H : Heap} {locs : List Loc} {ls : Array Slot} {h0 : Nat} {m0 : Nat} {ou : Nat} {st : Nat} {no : Nat} {v2 : Value} {v3 : Value} {v4 : Value} {v5 : Value} {v6 : Value} {v7 : Value} {v8 : Value} {v9 : Value} {v10 : Value} {an_kind : Nat} {an_of : Nat} {an_first : Nat} {an_second : Nat} {an_third : Nat} {an_weight : Nat} {an_number : Nat} {gn_kind : Nat → Int32} {gn_of : Nat → Int32} {gn_first : Nat → Int32} {gn_second : Nat → Int32} {gn_third : Nat → Int32} {gn_weight : Nat → Int32} {gn_number : Nat → Int64} {a_columns : Nat} {a_rows : Nat} {a_content : Nat} {a_held : Nat} {a_other : Nat} {a_named : Nat} {a_body : Nat} {a_parts : Nat} {a_partCount : Nat} {a_refRow : Nat} {a_refColumn : Nat} {a_refToRow : Nat} {a_torn : Nat} {a_record : Nat} {f0 : Nat → Int64} {nw : Nat} {z1 : Value} {z2 : Value} {z3 : Value} {z4 : Value} {z5 : Value} {bm_kinds : Nat} {bm_signs : Nat} {bm_figures : Nat} {bm_ones : Nat} {bm_others : Nat} {bm_thirds : Nat} {bm_weights : Nat} {z13 : Value} {z14 : Value} {z15 : Value} {z16 : Value} {fm_kinds : Nat → Int32} {fm_signs : Nat → Int32} {fm_figures : Nat → Int64} {fm_ones : Nat → Int32} {fm_others : Nat → Int32} {fm_thirds : Nat → Int32} {fm_weights : Nat → Int32} {t0 : Value} {t1 : Value} {t2 : Value} {t3 : Value} {t4 : Value} {t5 : Value} {t6 : Value} {t7 : Value} {t8 : Value} {t9 : Value} {t10 : Value} {t11 : Value} {t12 : Value} {t13 : Value} {t14 : Value} {t15 : Value} {t16 : Value} {t17 : Value} {t18 : Value} {t20 : Value} {b_torn : Nat} {f_torn : Nat → Int32} (hP : va_P (dC, dI) classes [(h0, .inr (0, [.ref st, .ref no, v2, v3, v4, v5, v6, v7, v8, v9, v10])), (no, .inr (6, [.ref st, .ref an_kind, .ref an_of, .ref an_first, .ref an_second, .ref an_third, .ref an_weight, .ref an_number])), (an_kind, .inl (dC 100, 150, .inl gn_kind)), (an_of, .inl (dC 100, 150, .inl gn_of)), (an_first, .inl (dC 100, 150, .inl gn_first)), (an_second, .inl (dC 100, 150, .inl gn_second)), (an_third, .inl (dC 100, 150, .inl gn_third)), (an_weight, .inl (dC 100, 150, .inl gn_weight)), (an_number, .inl (dC 101, 150, .inr (.inl gn_number))), (st, .inr (8, [.int 0, .int 0, .int 0, .ref a_columns, .ref a_rows, .ref a_content, .ref a_held, .ref a_other, .ref a_named, .ref a_body, .ref a_parts, .ref a_partCount, .ref a_refRow, .ref a_refColumn, .ref a_refToRow, .ref a_torn, .ref a_record, .int 0, .int 0, .int 0])), (ou, .inl (dC 101, 1, .inr (.inl f0))), (m0, .inr (10, [.ref nw, z1, z2, z3, z4, z5, .ref bm_kinds, .ref bm_signs, .ref bm_figures, .ref bm_ones, .ref bm_others, .ref bm_thirds, .ref bm_weights, z13, z14, z15, z16])), (bm_kinds, .inl (dC 100, 150, .inl fm_kinds)), (bm_signs, .inl (dC 100, 150, .inl fm_signs)), (bm_figures, .inl (dC 101, 150, .inr (.inl fm_figures))), (bm_ones, .inl (dC 100, 150, .inl fm_ones)), (bm_others, .inl (dC 100, 150, .inl fm_others)), (bm_thirds, .inl (dC 100, 150, .inl fm_thirds)), (bm_weights, .inl (dC 100, 150, .inl fm_weights)), (nw, .inr (12, [t0, t1, t2, t3, t4, t5, t6, t7, t8, t9, t10, t11, t12, t13, t14, t15, t16, t17, t18, .int 0, t20, .ref b_torn])), (b_torn, .inl (dC 102, 150, .inl f_torn))] H) (hD : va_D A [(h0, .inr (0, [.ref st, .ref no, v2, v3, v4, v5, v6, v7, v8, v9, v10])), (no, .inr (6, [.ref st, .ref an_kind, .ref an_of, .ref an_first, .ref an_second, .ref an_third, .ref an_weight, .ref an_number])), (an_kind, .inl (dC 100, 150, .inl gn_kind)), (an_of, .inl (dC 100, 150, .inl gn_of)), (an_first, .inl (dC 100, 150, .inl gn_first)), (an_second, .inl (dC 100, 150, .inl gn_second)), (an_third, .inl (dC 100, 150, .inl gn_third)), (an_weight, .inl (dC 100, 150, .inl gn_weight)), (an_number, .inl (dC 101, 150, .inr (.inl gn_number))), (st, .inr (8, [.int 0, .int 0, .int 0, .ref a_columns, .ref a_rows, .ref a_content, .ref a_held, .ref a_other, .ref a_named, .ref a_body, .ref a_parts, .ref a_partCount, .ref a_refRow, .ref a_refColumn, .ref a_refToRow, .ref a_torn, .ref a_record, .int 0, .int 0, .int 0])), (ou, .inl (dC 101, 1, .inr (.inl f0))), (m0, .inr (10, [.ref nw, z1, z2, z3, z4, z5, .ref bm_kinds, .ref bm_signs, .ref bm_figures, .ref bm_ones, .ref bm_others, .ref bm_thirds, .ref bm_weights, z13, z14, z15, z16])), (bm_kinds, .inl (dC 100, 150, .inl fm_kinds)), (bm_signs, .inl (dC 100, 150, .inl fm_signs)), (bm_figures, .inl (dC 101, 150, .inr (.inl fm_figures))), (bm_ones, .inl (dC 100, 150, .inl fm_ones)), (bm_others, .inl (dC 100, 150, .inl fm_others)), (bm_thirds, .inl (dC 100, 150, .inl fm_thirds)), (bm_weights, .inl (dC 100, 150, .inl fm_weights)), (nw, .inr (12, [t0, t1, t2, t3, t4, t5, t6, t7, t8, t9, t10, t11, t12, t13, t14, t15, t16, t17, t18, .int 0, t20, .ref b_torn])), (b_torn, .inl (dC 102, 150, .inl f_torn))]) (hS : va_S A s.heap H locs) (hl : lv_has ls 8 [(0, .ref b), (1, .ref h0), (2, .ref m0), (3, .ref ou), (4, .int 0)]) (hend : ∀ (H : Heap) (locs : List Loc) (ls : Array Slot), va_S A s.heap H locs → lv_has ls 8 [(4, .int 0), (0, .ref b)] → W p l e room_1 s m #[Value.ref b] below meth c H locs 600002 7302232 Z (F0 m 3410 ls [])) : W p l e room_1 s m #[Value.ref b] below meth c H locs 403 120029 Z (F0 m 795 ls []) := by
  subst hL
  refine lv_aload_n hx hb dM_L_law_795 rfl (lv_at hl 1 rfl) ?_
  refine lv_aload_n hx hb dM_L_law_796 rfl (lv_at hl 0 rfl) ?_
  refine lv_iload hx hb dM_L_law_797 (lv_at hl 4 rfl) ?_
  refine lv_iconst (v := 1) hx hb dM_L_law_799 (by decide) ?_
  refine lv_iadd hx hb dM_L_law_800 ?_
  refine lv_topi (fun y_1 ey_1 => ?_)
  obtain rfl : y_1 = 1 := ey_1.trans (by decide)
  refine va_sld hx hb hX hbl hbA hS (by unfold vp_in; decide) dM_L_law_801 ?_
  refine lv_topi (fun y_2 ey_2 => ?_)
  refine lv_i2l (v := y_2.toInt64) hx hb dM_L_law_802 rfl ?_
  refine lv_bipush (v := 32) hx hb dM_L_law_803 (by decide) ?_
  refine lv_lshl (v := y_2.toInt64 <<< ((32 : Int32).toInt64 &&& 63)) hx hb dM_L_law_805 rfl ?_
  refine lv_aload_n hx hb dM_L_law_806 rfl (lv_at hl 0 rfl) ?_
  refine lv_iload hx hb dM_L_law_807 (lv_at hl 4 rfl) ?_
  refine lv_iconst (v := 2) hx hb dM_L_law_809 (by decide) ?_
  refine lv_iadd hx hb dM_L_law_810 ?_
  refine lv_topi (fun y_3 ey_3 => ?_)
  obtain rfl : y_3 = 2 := ey_3.trans (by decide)
  refine va_sld hx hb hX hbl hbA hS (by unfold vp_in; decide) dM_L_law_811 ?_
  refine lv_topi (fun y_4 ey_4 => ?_)
  refine lv_i2l (v := y_4.toInt64) hx hb dM_L_law_812 rfl ?_
  refine lv_ldc2 (v := 4294967295) hx hb hown (hbg _ wd_2851) dM_L_law_813 ?_
  refine lv_land hx hb dM_L_law_816 ?_
  refine lv_topl (fun y_5 ey_5 => ?_)
  refine lv_lor hx hb dM_L_law_817 ?_
  refine lv_topl (fun y_6 ey_6 => ?_)
  refine lv_aload_n hx hb dM_L_law_818 rfl (lv_at hl 3 rfl) ?_
  have hFc := va_free (wc := [(h0, .inr (0, [.ref st, .ref no, v2, v3, v4, v5, v6, v7, v8, v9, v10])), (no, .inr (6, [.ref st, .ref an_kind, .ref an_of, .ref an_first, .ref an_second, .ref an_third, .ref an_weight, .ref an_number])), (an_kind, .inl (dC 100, 150, .inl gn_kind)), (an_of, .inl (dC 100, 150, .inl gn_of)), (an_first, .inl (dC 100, 150, .inl gn_first)), (an_second, .inl (dC 100, 150, .inl gn_second)), (an_third, .inl (dC 100, 150, .inl gn_third)), (an_weight, .inl (dC 100, 150, .inl gn_weight)), (an_number, .inl (dC 101, 150, .inr (.inl gn_number))), (st, .inr (8, [.int 0, .int 0, .int 0, .ref a_columns, .ref a_rows, .ref a_content, .ref a_held, .ref a_other, .ref a_named, .ref a_body, .ref a_parts, .ref a_partCount, .ref a_refRow, .ref a_refColumn, .ref a_refToRow, .ref a_torn, .ref a_record, .int 0, .int 0, .int 0])), (ou, .inl (dC 101, 1, .inr (.inl f0)))]) hD hS hA [0, 1, 2, 3, 4, 5, 6, 7, 8, 9, 10] rfl
  refine va_calli (vx_runSW (As := [.ref h0, .long y_6, .ref ou]) (rest := []) ⟨hx, hb, hml, hown, hbg⟩ (c_L_number l hl9 dC dI h0 y_6 ou st no v2 v3 v4 v5 v6 v7 v8 v9 v10 an_kind an_of an_first an_second an_third an_weight an_number gn_kind gn_of gn_first gn_second gn_third gn_weight gn_number a_columns a_rows a_content a_held a_other a_named a_body a_parts a_partCount a_refRow a_refColumn a_refToRow a_torn a_record f0 _ ) (vx_cwSW 3 hbg (gd_S (fun _ h => h) wd_1232 wd_1233 wd_0 (gd_wmW (fun _ h => h) wd_1234)) rfl rfl rfl (by decide +kernel) ⟨Nat.le_of_ble_eq_true rfl, Nat.le_of_ble_eq_true rfl⟩) (nPreS [0, 1, 2, 3, 4, 5, 6, 7, 8, 9, 10] hP hD hK hN hS hA (by decide) rfl) rfl rfl hl.1 rfl (lv_room (Nat.le_of_ble_eq_true rfl)) dM_L_law_819 ⟨Nat.le_of_ble_eq_true rfl, Nat.le_of_ble_eq_true rfl⟩) hS (fun q _ h => hFc q h) hFc (fun r_7 u t H1 locs ht hvm hw hB hz1 hk1 hS => ?_)
  rcases hw with ⟨c_8, rfl, rfl⟩ | ⟨c_9, rfl, hu_10⟩
  · --
    obtain ⟨hP1, hD1⟩ := hB
    rw [ht] at hP1
    obtain ⟨hP, hD⟩ := va_join (wr := [(m0, .inr (10, [.ref nw, z1, z2, z3, z4, z5, .ref bm_kinds, .ref bm_signs, .ref bm_figures, .ref bm_ones, .ref bm_others, .ref bm_thirds, .ref bm_weights, z13, z14, z15, z16])), (bm_kinds, .inl (dC 100, 150, .inl fm_kinds)), (bm_signs, .inl (dC 100, 150, .inl fm_signs)), (bm_figures, .inl (dC 101, 150, .inr (.inl fm_figures))), (bm_ones, .inl (dC 100, 150, .inl fm_ones)), (bm_others, .inl (dC 100, 150, .inl fm_others)), (bm_thirds, .inl (dC 100, 150, .inl fm_thirds)), (bm_weights, .inl (dC 100, 150, .inl fm_weights)), (nw, .inr (12, [t0, t1, t2, t3, t4, t5, t6, t7, t8, t9, t10, t11, t12, t13, t14, t15, t16, t17, t18, .int 0, t20, .ref b_torn])), (b_torn, .inl (dC 102, 150, .inl f_torn))]) (w1 := [(ou, .inl (dC 101, 1, .inr (.inl (vp_updL f0 (0 : Int32).toNatClampNeg 0))))]) hP hD [0, 1, 2, 3, 4, 5, 6, 7, 8, 9, 10] [11, 12, 13, 14, 15, 16, 17, 18, 19, 20] rfl rfl (by decide) (by decide) hk1 hFc hP1 hD1
    generalize H1 = H at hP hS ⊢
    have hP : va_P (dC, dI) classes [(m0, .inr (10, [.ref nw, z1, z2, z3, z4, z5, .ref bm_kinds, .ref bm_signs, .ref bm_figures, .ref bm_ones, .ref bm_others, .ref bm_thirds, .ref bm_weights, z13, z14, z15, z16])), (bm_kinds, .inl (dC 100, 150, .inl fm_kinds)), (bm_signs, .inl (dC 100, 150, .inl fm_signs)), (bm_figures, .inl (dC 101, 150, .inr (.inl fm_figures))), (bm_ones, .inl (dC 100, 150, .inl fm_ones)), (bm_others, .inl (dC 100, 150, .inl fm_others)), (bm_thirds, .inl (dC 100, 150, .inl fm_thirds)), (bm_weights, .inl (dC 100, 150, .inl fm_weights)), (nw, .inr (12, [t0, t1, t2, t3, t4, t5, t6, t7, t8, t9, t10, t11, t12, t13, t14, t15, t16, t17, t18, .int 0, t20, .ref b_torn])), (b_torn, .inl (dC 102, 150, .inl f_torn)), (ou, .inl (dC 101, 1, .inr (.inl (vp_updL f0 (0 : Int32).toNatClampNeg 0))))] H := hP
    have hD : va_D A [(m0, .inr (10, [.ref nw, z1, z2, z3, z4, z5, .ref bm_kinds, .ref bm_signs, .ref bm_figures, .ref bm_ones, .ref bm_others, .ref bm_thirds, .ref bm_weights, z13, z14, z15, z16])), (bm_kinds, .inl (dC 100, 150, .inl fm_kinds)), (bm_signs, .inl (dC 100, 150, .inl fm_signs)), (bm_figures, .inl (dC 101, 150, .inr (.inl fm_figures))), (bm_ones, .inl (dC 100, 150, .inl fm_ones)), (bm_others, .inl (dC 100, 150, .inl fm_others)), (bm_thirds, .inl (dC 100, 150, .inl fm_thirds)), (bm_weights, .inl (dC 100, 150, .inl fm_weights)), (nw, .inr (12, [t0, t1, t2, t3, t4, t5, t6, t7, t8, t9, t10, t11, t12, t13, t14, t15, t16, t17, t18, .int 0, t20, .ref b_torn])), (b_torn, .inl (dC 102, 150, .inl f_torn)), (ou, .inl (dC 101, 1, .inr (.inl (vp_updL f0 (0 : Int32).toNatClampNeg 0))))] := hD
    refine W.widen (k := 404) (n := 120035) (Nat.le_of_ble_eq_true rfl) (Nat.le_of_ble_eq_true rfl) ?_
    refine lv_istore (lv' := [(5, .int 0), (0, .ref b), (1, .ref h0), (2, .ref m0), (3, .ref ou), (4, .int 0)]) hx hb dM_L_law_822 hl (by decide) rfl (fun ls hl => ?_)
    refine lv_aload_n hx hb dM_L_law_824 rfl (lv_at hl 3 rfl) ?_
    refine lv_aload_n hx hb dM_L_law_825 rfl (lv_at hl 1 rfl) ?_
    refine lv_iload hx hb dM_L_law_826 (lv_at hl 5 rfl) ?_
    refine lv_iconst (v := 1) hx hb dM_L_law_828 (by decide) ?_
    refine lv_iadd hx hb dM_L_law_829 ?_
    refine lv_topi (fun y_11 ey_11 => ?_)
    obtain rfl : y_11 = 1 := ey_11.trans (by decide)
    refine va_sld hx hb hX hbl hbA hS (by unfold vp_in; decide) dM_L_law_830 ?_
    refine lv_topi (fun y_12 ey_12 => ?_)
    obtain rfl : y_2 = y_12 := ey_2.trans ey_12.symm
    refine lv_i2l (v := y_2.toInt64) hx hb dM_L_law_831 rfl ?_
    refine lv_bipush (v := 32) hx hb dM_L_law_832 (by decide) ?_
    refine lv_lshl (v := y_2.toInt64 <<< ((32 : Int32).toInt64 &&& 63)) hx hb dM_L_law_834 rfl ?_
    refine lv_aload_n hx hb dM_L_law_835 rfl (lv_at hl 1 rfl) ?_
    refine lv_iload hx hb dM_L_law_836 (lv_at hl 5 rfl) ?_
    refine lv_iconst (v := 2) hx hb dM_L_law_838 (by decide) ?_
    refine lv_iadd hx hb dM_L_law_839 ?_
    refine lv_topi (fun y_13 ey_13 => ?_)
    obtain rfl : y_13 = 2 := ey_13.trans (by decide)
    refine va_sld hx hb hX hbl hbA hS (by unfold vp_in; decide) dM_L_law_840 ?_
    refine lv_topi (fun y_14 ey_14 => ?_)
    obtain rfl : y_4 = y_14 := ey_4.trans ey_14.symm
    refine lv_i2l (v := y_4.toInt64) hx hb dM_L_law_841 rfl ?_
    refine lv_ldc2 (v := 4294967295) hx hb hown (hbg _ wd_2851) dM_L_law_842 ?_
    refine lv_land hx hb dM_L_law_845 ?_
    refine lv_topl (fun y_15 ey_15 => ?_)
    obtain rfl : y_5 = y_15 := ey_5.trans ey_15.symm
    refine lv_lor hx hb dM_L_law_846 ?_
    refine lv_topl (fun y_16 ey_16 => ?_)
    obtain rfl : y_6 = y_16 := ey_6.trans ey_16.symm
    have hFc := va_free (wc := [(m0, .inr (10, [.ref nw, z1, z2, z3, z4, z5, .ref bm_kinds, .ref bm_signs, .ref bm_figures, .ref bm_ones, .ref bm_others, .ref bm_thirds, .ref bm_weights, z13, z14, z15, z16])), (bm_kinds, .inl (dC 100, 150, .inl fm_kinds)), (bm_signs, .inl (dC 100, 150, .inl fm_signs)), (bm_figures, .inl (dC 101, 150, .inr (.inl fm_figures))), (bm_ones, .inl (dC 100, 150, .inl fm_ones)), (bm_others, .inl (dC 100, 150, .inl fm_others)), (bm_thirds, .inl (dC 100, 150, .inl fm_thirds)), (bm_weights, .inl (dC 100, 150, .inl fm_weights)), (nw, .inr (12, [t0, t1, t2, t3, t4, t5, t6, t7, t8, t9, t10, t11, t12, t13, t14, t15, t16, t17, t18, .int 0, t20, .ref b_torn])), (b_torn, .inl (dC 102, 150, .inl f_torn))]) hD hS hA [0, 1, 2, 3, 4, 5, 6, 7, 8, 9] rfl
    refine va_calli (va_runV (As := [.long y_6]) (rest := []) ⟨hx, hb, hml, hown, hbg⟩ (c_M_number l dC dI m0 y_6 nw z1 z2 z3 z4 z5 bm_kinds bm_signs bm_figures bm_ones bm_others bm_thirds bm_weights z13 z14 z15 z16 fm_kinds fm_signs fm_figures fm_ones fm_others fm_thirds fm_weights t0 t1 t2 t3 t4 t5 t6 t7 t8 t9 t10 t11 t12 t13 t14 t15 t16 t17 t18 t20 b_torn f_torn _ ) (cwV 1 hbg (gd_V (fun _ h => h) wd_2596 wd_2597 wd_2598 wd_12 (gd_wm (fun _ h => h) wd_2599)) rfl rfl rfl (by decide +kernel) ⟨Nat.le_of_ble_eq_true rfl, Nat.le_of_ble_eq_true rfl⟩) (nPreV [0, 1, 2, 3, 4, 5, 6, 7, 8, 9] hP hD hK hN hS hA (by decide) rfl 0 rfl rfl) rfl rfl hl.1 rfl (lv_room (Nat.le_of_ble_eq_true rfl)) dM_L_law_847 ⟨Nat.le_of_ble_eq_true rfl, Nat.le_of_ble_eq_true rfl⟩) hS (fun q _ h => hFc q h) hFc (fun r_17 u t H1 locs ht hvm hw hB hz1 hk1 hS => ?_)
    rcases hw with ⟨c_18, rfl, rfl⟩ | ⟨c_19, rfl, rfl⟩
    · --
      obtain ⟨r0_20, r1_21, r2_22, r3_23, r4_24, r5_25, r6_26, r7_27, r8_28, r9_29, r10_30, r11_31, r12_32, r13_33, r14_34, r15_35, hP1, hD1⟩ := hB
      rw [ht] at hP1
      obtain ⟨hP, hD⟩ := va_join (wr := [(ou, .inl (dC 101, 1, .inr (.inl (vp_updL f0 (0 : Int32).toNatClampNeg 0))))]) (w1 := [(m0, .inr (10, [r0_20, r1_21, r2_22, r3_23, r4_24, r5_25, r6_26, r7_27, r8_28, r9_29, r10_30, r11_31, r12_32, r13_33, r14_34, r15_35, .int 0]))]) hP hD [0, 1, 2, 3, 4, 5, 6, 7, 8, 9] [10] rfl rfl (by decide) (by decide) hk1 hFc hP1 hD1
      generalize H1 = H at hP hS ⊢
      have hP : va_P (dC, dI) classes [(ou, .inl (dC 101, 1, .inr (.inl (vp_updL f0 (0 : Int32).toNatClampNeg 0)))), (m0, .inr (10, [r0_20, r1_21, r2_22, r3_23, r4_24, r5_25, r6_26, r7_27, r8_28, r9_29, r10_30, r11_31, r12_32, r13_33, r14_34, r15_35, .int 0]))] H := hP
      have hD : va_D A [(ou, .inl (dC 101, 1, .inr (.inl (vp_updL f0 (0 : Int32).toNatClampNeg 0)))), (m0, .inr (10, [r0_20, r1_21, r2_22, r3_23, r4_24, r5_25, r6_26, r7_27, r8_28, r9_29, r10_30, r11_31, r12_32, r13_33, r14_34, r15_35, .int 0]))] := hD
      refine W.widen (k := 404) (n := 120035) (Nat.le_of_ble_eq_true rfl) (Nat.le_of_ble_eq_true rfl) ?_
      refine lv_istore (lv' := [(6, .int 0), (5, .int 0), (0, .ref b), (1, .ref h0), (2, .ref m0), (3, .ref ou), (4, .int 0)]) hx hb dM_L_law_850 hl (by decide) rfl (fun ls hl => ?_)
      refine lv_aload_n hx hb dM_L_law_852 rfl (lv_at hl 4 rfl) ?_
      have hFc := va_free (wc := [(m0, .inr (10, [r0_20, r1_21, r2_22, r3_23, r4_24, r5_25, r6_26, r7_27, r8_28, r9_29, r10_30, r11_31, r12_32, r13_33, r14_34, r15_35, .int 0]))]) hD hS hA [1] rfl
      refine va_calli (va_runV (As := []) (rest := []) ⟨hx, hb, hml, hown, hbg⟩ (c_M_thrown l dC dI m0 r0_20 r1_21 r2_22 r3_23 r4_24 r5_25 r6_26 r7_27 r8_28 r9_29 r10_30 r11_31 r12_32 r13_33 r14_34 r15_35 0 _ ) (cwV 0 hbg (gd_V (fun _ h => h) wd_2190 wd_2191 wd_2192 wd_12 (gd_wm (fun _ h => h) wd_2193)) rfl rfl rfl (by decide +kernel) ⟨Nat.le_of_ble_eq_true rfl, Nat.le_of_ble_eq_true rfl⟩) (nPreV [1] hP hD hK hN hS hA (by decide) rfl 1 rfl rfl) rfl rfl hl.1 rfl (lv_room (Nat.le_of_ble_eq_true rfl)) dM_L_law_853 ⟨Nat.le_of_ble_eq_true rfl, Nat.le_of_ble_eq_true rfl⟩) hS (fun q _ h => hFc q h) hFc (fun r_36 u t H1 locs ht hvm hw hB hz1 hk1 hS => ?_)
      obtain ⟨rfl, rfl⟩ := hw
      obtain ⟨r0_38, r1_39, r2_40, r3_41, r4_42, r5_43, r6_44, r7_45, r8_46, r9_47, r10_48, r11_49, r12_50, r13_51, r14_52, r15_53, hP1, hD1⟩ := hB
      rw [ht] at hP1
      obtain ⟨hP, hD⟩ := va_join (wr := [(ou, .inl (dC 101, 1, .inr (.inl (vp_updL f0 (0 : Int32).toNatClampNeg 0))))]) (w1 := [(m0, .inr (10, [r0_38, r1_39, r2_40, r3_41, r4_42, r5_43, r6_44, r7_45, r8_46, r9_47, r10_48, r11_49, r12_50, r13_51, r14_52, r15_53, .int 0]))]) hP hD [1] [0] rfl rfl (by decide) (by decide) hk1 hFc hP1 hD1
      generalize H1 = H at hP hS ⊢
      have hP : va_P (dC, dI) classes [(ou, .inl (dC 101, 1, .inr (.inl (vp_updL f0 (0 : Int32).toNatClampNeg 0)))), (m0, .inr (10, [r0_38, r1_39, r2_40, r3_41, r4_42, r5_43, r6_44, r7_45, r8_46, r9_47, r10_48, r11_49, r12_50, r13_51, r14_52, r15_53, .int 0]))] H := hP
      have hD : va_D A [(ou, .inl (dC 101, 1, .inr (.inl (vp_updL f0 (0 : Int32).toNatClampNeg 0)))), (m0, .inr (10, [r0_38, r1_39, r2_40, r3_41, r4_42, r5_43, r6_44, r7_45, r8_46, r9_47, r10_48, r11_49, r12_50, r13_51, r14_52, r15_53, .int 0]))] := hD
      refine W.widen (k := 404) (n := 120035) (Nat.le_of_ble_eq_true rfl) (Nat.le_of_ble_eq_true rfl) ?_
      refine lv_iload hx hb dM_L_law_856 (lv_at hl 1 rfl) ?_
      refine lv_icmp_eq (tgt := 863) hx hb dM_L_law_858 (by decide) (fun _ => ?_) (fun q => absurd (by decide) q)
      refine lv_iload hx hb dM_L_law_863 (lv_at hl 1 rfl) ?_
      refine lv_if_ne (tgt := 880) hx hb dM_L_law_865 (by decide) (fun q => absurd (by decide) q) (fun _ => ?_)
      refine lv_aload_n hx hb dM_L_law_868 rfl (lv_at hl 5 rfl) ?_
      refine lv_iconst (v := 0) hx hb dM_L_law_869 (by decide) ?_
      refine va_lald hx hb hK.1 hP 0 1 rfl rfl (by unfold vp_in; decide) dM_L_law_870 ?_
      rw [pk_uLs]
      refine lv_iload hx hb dM_L_law_871 (lv_at hl 0 rfl) ?_
      refine lv_i2l (v := 0) hx hb dM_L_law_873 (by decide) ?_
      refine W.lcmp hx hb dM_L_law_874 ?_
      refine lv_topi (fun y_54 ey_54 => ?_)
      obtain rfl : y_54 = 0 := ey_54.trans (by decide)
      refine lv_if_eq (tgt := 880) hx hb dM_L_law_875 (by decide) (fun _ => ?_) (fun q => absurd (by decide) q)
      refine lv_goto (tgt := 3410) hx hb dM_L_law_880 (by decide) ?_
      refine W.widen (k := 600002) (n := 7302232) (Nat.le_of_ble_eq_true rfl) (Nat.le_of_ble_eq_true rfl) ?_
      exact hend _ _ _ hS (lv_sub hl [6, 2] rfl)
    · --
      exact absurd c_8 c_19
  · --
    obtain rfl := hu_10.symm
    obtain ⟨hP1, hD1⟩ := hB
    rw [ht] at hP1
    obtain ⟨hP, hD⟩ := va_join (wr := [(m0, .inr (10, [.ref nw, z1, z2, z3, z4, z5, .ref bm_kinds, .ref bm_signs, .ref bm_figures, .ref bm_ones, .ref bm_others, .ref bm_thirds, .ref bm_weights, z13, z14, z15, z16])), (bm_kinds, .inl (dC 100, 150, .inl fm_kinds)), (bm_signs, .inl (dC 100, 150, .inl fm_signs)), (bm_figures, .inl (dC 101, 150, .inr (.inl fm_figures))), (bm_ones, .inl (dC 100, 150, .inl fm_ones)), (bm_others, .inl (dC 100, 150, .inl fm_others)), (bm_thirds, .inl (dC 100, 150, .inl fm_thirds)), (bm_weights, .inl (dC 100, 150, .inl fm_weights)), (nw, .inr (12, [t0, t1, t2, t3, t4, t5, t6, t7, t8, t9, t10, t11, t12, t13, t14, t15, t16, t17, t18, .int 0, t20, .ref b_torn])), (b_torn, .inl (dC 102, 150, .inl f_torn))]) (w1 := [(ou, .inl (dC 101, 1, .inr (.inl f0)))]) hP hD [0, 1, 2, 3, 4, 5, 6, 7, 8, 9, 10] [11, 12, 13, 14, 15, 16, 17, 18, 19, 20] rfl rfl (by decide) (by decide) hk1 hFc hP1 hD1
    generalize H1 = H at hP hS ⊢
    have hP : va_P (dC, dI) classes [(m0, .inr (10, [.ref nw, z1, z2, z3, z4, z5, .ref bm_kinds, .ref bm_signs, .ref bm_figures, .ref bm_ones, .ref bm_others, .ref bm_thirds, .ref bm_weights, z13, z14, z15, z16])), (bm_kinds, .inl (dC 100, 150, .inl fm_kinds)), (bm_signs, .inl (dC 100, 150, .inl fm_signs)), (bm_figures, .inl (dC 101, 150, .inr (.inl fm_figures))), (bm_ones, .inl (dC 100, 150, .inl fm_ones)), (bm_others, .inl (dC 100, 150, .inl fm_others)), (bm_thirds, .inl (dC 100, 150, .inl fm_thirds)), (bm_weights, .inl (dC 100, 150, .inl fm_weights)), (nw, .inr (12, [t0, t1, t2, t3, t4, t5, t6, t7, t8, t9, t10, t11, t12, t13, t14, t15, t16, t17, t18, .int 0, t20, .ref b_torn])), (b_torn, .inl (dC 102, 150, .inl f_torn)), (ou, .inl (dC 101, 1, .inr (.inl f0)))] H := hP
    have hD : va_D A [(m0, .inr (10, [.ref nw, z1, z2, z3, z4, z5, .ref bm_kinds, .ref bm_signs, .ref bm_figures, .ref bm_ones, .ref bm_others, .ref bm_thirds, .ref bm_weights, z13, z14, z15, z16])), (bm_kinds, .inl (dC 100, 150, .inl fm_kinds)), (bm_signs, .inl (dC 100, 150, .inl fm_signs)), (bm_figures, .inl (dC 101, 150, .inr (.inl fm_figures))), (bm_ones, .inl (dC 100, 150, .inl fm_ones)), (bm_others, .inl (dC 100, 150, .inl fm_others)), (bm_thirds, .inl (dC 100, 150, .inl fm_thirds)), (bm_weights, .inl (dC 100, 150, .inl fm_weights)), (nw, .inr (12, [t0, t1, t2, t3, t4, t5, t6, t7, t8, t9, t10, t11, t12, t13, t14, t15, t16, t17, t18, .int 0, t20, .ref b_torn])), (b_torn, .inl (dC 102, 150, .inl f_torn)), (ou, .inl (dC 101, 1, .inr (.inl f0)))] := hD
    refine W.widen (k := 404) (n := 120035) (Nat.le_of_ble_eq_true rfl) (Nat.le_of_ble_eq_true rfl) ?_
    refine lv_istore (lv' := [(5, .int 1), (0, .ref b), (1, .ref h0), (2, .ref m0), (3, .ref ou), (4, .int 0)]) hx hb dM_L_law_822 hl (by decide) rfl (fun ls hl => ?_)
    refine lv_aload_n hx hb dM_L_law_824 rfl (lv_at hl 3 rfl) ?_
    refine lv_aload_n hx hb dM_L_law_825 rfl (lv_at hl 1 rfl) ?_
    refine lv_iload hx hb dM_L_law_826 (lv_at hl 5 rfl) ?_
    refine lv_iconst (v := 1) hx hb dM_L_law_828 (by decide) ?_
    refine lv_iadd hx hb dM_L_law_829 ?_
    refine lv_topi (fun y_55 ey_55 => ?_)
    obtain rfl : y_55 = 1 := ey_55.trans (by decide)
    refine va_sld hx hb hX hbl hbA hS (by unfold vp_in; decide) dM_L_law_830 ?_
    refine lv_topi (fun y_56 ey_56 => ?_)
    obtain rfl : y_2 = y_56 := ey_2.trans ey_56.symm
    refine lv_i2l (v := y_2.toInt64) hx hb dM_L_law_831 rfl ?_
    refine lv_bipush (v := 32) hx hb dM_L_law_832 (by decide) ?_
    refine lv_lshl (v := y_2.toInt64 <<< ((32 : Int32).toInt64 &&& 63)) hx hb dM_L_law_834 rfl ?_
    refine lv_aload_n hx hb dM_L_law_835 rfl (lv_at hl 1 rfl) ?_
    refine lv_iload hx hb dM_L_law_836 (lv_at hl 5 rfl) ?_
    refine lv_iconst (v := 2) hx hb dM_L_law_838 (by decide) ?_
    refine lv_iadd hx hb dM_L_law_839 ?_
    refine lv_topi (fun y_57 ey_57 => ?_)
    obtain rfl : y_57 = 2 := ey_57.trans (by decide)
    refine va_sld hx hb hX hbl hbA hS (by unfold vp_in; decide) dM_L_law_840 ?_
    refine lv_topi (fun y_58 ey_58 => ?_)
    obtain rfl : y_4 = y_58 := ey_4.trans ey_58.symm
    refine lv_i2l (v := y_4.toInt64) hx hb dM_L_law_841 rfl ?_
    refine lv_ldc2 (v := 4294967295) hx hb hown (hbg _ wd_2851) dM_L_law_842 ?_
    refine lv_land hx hb dM_L_law_845 ?_
    refine lv_topl (fun y_59 ey_59 => ?_)
    obtain rfl : y_5 = y_59 := ey_5.trans ey_59.symm
    refine lv_lor hx hb dM_L_law_846 ?_
    refine lv_topl (fun y_60 ey_60 => ?_)
    obtain rfl : y_6 = y_60 := ey_6.trans ey_60.symm
    have hFc := va_free (wc := [(m0, .inr (10, [.ref nw, z1, z2, z3, z4, z5, .ref bm_kinds, .ref bm_signs, .ref bm_figures, .ref bm_ones, .ref bm_others, .ref bm_thirds, .ref bm_weights, z13, z14, z15, z16])), (bm_kinds, .inl (dC 100, 150, .inl fm_kinds)), (bm_signs, .inl (dC 100, 150, .inl fm_signs)), (bm_figures, .inl (dC 101, 150, .inr (.inl fm_figures))), (bm_ones, .inl (dC 100, 150, .inl fm_ones)), (bm_others, .inl (dC 100, 150, .inl fm_others)), (bm_thirds, .inl (dC 100, 150, .inl fm_thirds)), (bm_weights, .inl (dC 100, 150, .inl fm_weights)), (nw, .inr (12, [t0, t1, t2, t3, t4, t5, t6, t7, t8, t9, t10, t11, t12, t13, t14, t15, t16, t17, t18, .int 0, t20, .ref b_torn])), (b_torn, .inl (dC 102, 150, .inl f_torn))]) hD hS hA [0, 1, 2, 3, 4, 5, 6, 7, 8, 9] rfl
    refine va_calli (va_runV (As := [.long y_6]) (rest := []) ⟨hx, hb, hml, hown, hbg⟩ (c_M_number l dC dI m0 y_6 nw z1 z2 z3 z4 z5 bm_kinds bm_signs bm_figures bm_ones bm_others bm_thirds bm_weights z13 z14 z15 z16 fm_kinds fm_signs fm_figures fm_ones fm_others fm_thirds fm_weights t0 t1 t2 t3 t4 t5 t6 t7 t8 t9 t10 t11 t12 t13 t14 t15 t16 t17 t18 t20 b_torn f_torn _ ) (cwV 1 hbg (gd_V (fun _ h => h) wd_2596 wd_2597 wd_2598 wd_12 (gd_wm (fun _ h => h) wd_2599)) rfl rfl rfl (by decide +kernel) ⟨Nat.le_of_ble_eq_true rfl, Nat.le_of_ble_eq_true rfl⟩) (nPreV [0, 1, 2, 3, 4, 5, 6, 7, 8, 9] hP hD hK hN hS hA (by decide) rfl 0 rfl rfl) rfl rfl hl.1 rfl (lv_room (Nat.le_of_ble_eq_true rfl)) dM_L_law_847 ⟨Nat.le_of_ble_eq_true rfl, Nat.le_of_ble_eq_true rfl⟩) hS (fun q _ h => hFc q h) hFc (fun r_61 u t H1 locs ht hvm hw hB hz1 hk1 hS => ?_)
    rcases hw with ⟨c_62, rfl, rfl⟩ | ⟨c_63, rfl, rfl⟩
    · --
      exact absurd c_62 c_9
    · --
      obtain ⟨r0_64, r1_65, r2_66, r3_67, r4_68, r5_69, r6_70, r7_71, r8_72, r9_73, r10_74, r11_75, r12_76, r13_77, r14_78, r15_79, hP1, hD1⟩ := hB
      rw [ht] at hP1
      obtain ⟨hP, hD⟩ := va_join (wr := [(ou, .inl (dC 101, 1, .inr (.inl f0)))]) (w1 := [(m0, .inr (10, [r0_64, r1_65, r2_66, r3_67, r4_68, r5_69, r6_70, r7_71, r8_72, r9_73, r10_74, r11_75, r12_76, r13_77, r14_78, r15_79, .int 1]))]) hP hD [0, 1, 2, 3, 4, 5, 6, 7, 8, 9] [10] rfl rfl (by decide) (by decide) hk1 hFc hP1 hD1
      generalize H1 = H at hP hS ⊢
      have hP : va_P (dC, dI) classes [(ou, .inl (dC 101, 1, .inr (.inl f0))), (m0, .inr (10, [r0_64, r1_65, r2_66, r3_67, r4_68, r5_69, r6_70, r7_71, r8_72, r9_73, r10_74, r11_75, r12_76, r13_77, r14_78, r15_79, .int 1]))] H := hP
      have hD : va_D A [(ou, .inl (dC 101, 1, .inr (.inl f0))), (m0, .inr (10, [r0_64, r1_65, r2_66, r3_67, r4_68, r5_69, r6_70, r7_71, r8_72, r9_73, r10_74, r11_75, r12_76, r13_77, r14_78, r15_79, .int 1]))] := hD
      refine W.widen (k := 404) (n := 120035) (Nat.le_of_ble_eq_true rfl) (Nat.le_of_ble_eq_true rfl) ?_
      refine lv_istore (lv' := [(6, .int 0), (5, .int 1), (0, .ref b), (1, .ref h0), (2, .ref m0), (3, .ref ou), (4, .int 0)]) hx hb dM_L_law_850 hl (by decide) rfl (fun ls hl => ?_)
      refine lv_aload_n hx hb dM_L_law_852 rfl (lv_at hl 4 rfl) ?_
      have hFc := va_free (wc := [(m0, .inr (10, [r0_64, r1_65, r2_66, r3_67, r4_68, r5_69, r6_70, r7_71, r8_72, r9_73, r10_74, r11_75, r12_76, r13_77, r14_78, r15_79, .int 1]))]) hD hS hA [1] rfl
      refine va_calli (va_runV (As := []) (rest := []) ⟨hx, hb, hml, hown, hbg⟩ (c_M_thrown l dC dI m0 r0_64 r1_65 r2_66 r3_67 r4_68 r5_69 r6_70 r7_71 r8_72 r9_73 r10_74 r11_75 r12_76 r13_77 r14_78 r15_79 1 _ ) (cwV 0 hbg (gd_V (fun _ h => h) wd_2190 wd_2191 wd_2192 wd_12 (gd_wm (fun _ h => h) wd_2193)) rfl rfl rfl (by decide +kernel) ⟨Nat.le_of_ble_eq_true rfl, Nat.le_of_ble_eq_true rfl⟩) (nPreV [1] hP hD hK hN hS hA (by decide) rfl 1 rfl rfl) rfl rfl hl.1 rfl (lv_room (Nat.le_of_ble_eq_true rfl)) dM_L_law_853 ⟨Nat.le_of_ble_eq_true rfl, Nat.le_of_ble_eq_true rfl⟩) hS (fun q _ h => hFc q h) hFc (fun r_80 u t H1 locs ht hvm hw hB hz1 hk1 hS => ?_)
      obtain ⟨rfl, rfl⟩ := hw
      obtain ⟨r0_82, r1_83, r2_84, r3_85, r4_86, r5_87, r6_88, r7_89, r8_90, r9_91, r10_92, r11_93, r12_94, r13_95, r14_96, r15_97, hP1, hD1⟩ := hB
      rw [ht] at hP1
      obtain ⟨hP, hD⟩ := va_join (wr := [(ou, .inl (dC 101, 1, .inr (.inl f0)))]) (w1 := [(m0, .inr (10, [r0_82, r1_83, r2_84, r3_85, r4_86, r5_87, r6_88, r7_89, r8_90, r9_91, r10_92, r11_93, r12_94, r13_95, r14_96, r15_97, .int 1]))]) hP hD [1] [0] rfl rfl (by decide) (by decide) hk1 hFc hP1 hD1
      generalize H1 = H at hP hS ⊢
      have hP : va_P (dC, dI) classes [(ou, .inl (dC 101, 1, .inr (.inl f0))), (m0, .inr (10, [r0_82, r1_83, r2_84, r3_85, r4_86, r5_87, r6_88, r7_89, r8_90, r9_91, r10_92, r11_93, r12_94, r13_95, r14_96, r15_97, .int 1]))] H := hP
      have hD : va_D A [(ou, .inl (dC 101, 1, .inr (.inl f0))), (m0, .inr (10, [r0_82, r1_83, r2_84, r3_85, r4_86, r5_87, r6_88, r7_89, r8_90, r9_91, r10_92, r11_93, r12_94, r13_95, r14_96, r15_97, .int 1]))] := hD
      refine W.widen (k := 404) (n := 120035) (Nat.le_of_ble_eq_true rfl) (Nat.le_of_ble_eq_true rfl) ?_
      refine lv_iload hx hb dM_L_law_856 (lv_at hl 1 rfl) ?_
      refine lv_icmp_eq (tgt := 863) hx hb dM_L_law_858 (by decide) (fun _ => ?_) (fun q => absurd (by decide) q)
      refine lv_iload hx hb dM_L_law_863 (lv_at hl 1 rfl) ?_
      refine lv_if_ne (tgt := 880) hx hb dM_L_law_865 (by decide) (fun _ => ?_) (fun q => absurd q (by decide))
      refine lv_goto (tgt := 3410) hx hb dM_L_law_880 (by decide) ?_
      refine W.widen (k := 600002) (n := 7302232) (Nat.le_of_ble_eq_true rfl) (Nat.le_of_ble_eq_true rfl) ?_
      exact hend _ _ _ hS (lv_sub hl [6, 2] rfl)
set_option maxHeartbeats 4000000 in
set_option maxRecDepth 100000 in
theorem lawc_8 {p : Program} {e : Env} {s : State} {m : MethodId} {below : List Frame} {meth : Method} {c : Code} {Z : State → Prop} (l : Launch) (hl9 : l.stackTraces = false) (dC : Nat → ClassId) (dI : Nat → Nat → Nat) {A : Nat → Prop} {b L : Nat} {xs : Nat → Int32} (hL : L = 8) (hx : p.tables.exec = Jvm.exec) (hb : c.code = cM_L_law) (hml : c.maxLocals = 8) (hown : s.vm.findClass "NoteDocumentLaw" = some m.cls) (hbg : ∀ w ∈ BIG, w.before #[Value.ref b] s = true) (hK : nK (dC, dI) s) (hN : nS A s s.heap) (hA : ∀ q : Nat, s.heap.size ≤ q → A q) (hX : va_X b L xs s s.heap) (hbl : b < s.heap.size) (hbA : ¬ A b) {H : Heap} {locs : List Loc} {ls : Array Slot} {h0 : Nat} {m0 : Nat} {ou : Nat} {st : Nat} {v1 : Value} {v2 : Value} {v3 : Value} {v4 : Value} {v5 : Value} {v6 : Value} {v7 : Value} {v8 : Value} {v9 : Value} {v10 : Value} {w3 : Value} {w4 : Value} {w5 : Value} {w6 : Value} {w7 : Value} {w8 : Value} {w9 : Value} {w10 : Value} {w11 : Value} {w12 : Value} {w13 : Value} {w14 : Value} {w15 : Value} {w16 : Value} {w17 : Value} {w18 : Value} {w19 : Value} {f0 : Nat → Int64} {nw : Nat} {z1 : Value} {z2 : Value} {z3 : Value} {z4 : Value} {z5 : Value} {z6 : Value} {z7 : Value} {z8 : Value} {z9 : Value} {z10 : Value} {z11 : Value} {z12 : Value} {z13 : Value} {z14 : Value} {z15 : Value} {z16 : Value} {t0 : Value} {t1 : Value} {t3 : Value} {t4 : Value} {t5 : Value} {t6 : Value} {t7 : Value} {t8 : Value} {t9 : Value} {t10 : Value} {t12 : Value} {t13 : Value} {t14 : Value} {t15 : Value} {t16 : Value} {t17 : Value} {t18 : Value} {t20 : Value} {t21 : Value} (hP : va_P (dC, dI) classes [(h0, .inr (0, [.ref st, v1, v2, v3, v4, v5, v6, v7, v8, v9, v10])), (st, .inr (8, [.int 0, .int 0, .int 0, w3, w4, w5, w6, w7, w8, w9, w10, w11, w12, w13, w14, w15, w16, w17, w18, w19])), (ou, .inl (dC 101, 1, .inr (.inl f0))), (m0, .inr (10, [.ref nw, z1, z2, z3, z4, z5, z6, z7, z8, z9, z10, z11, z12, z13, z14, z15, z16])), (nw, .inr (12, [t0, t1, .int 0, t3, t4, t5, t6, t7, t8, t9, t10, .int 0, t12, t13, t14, t15, t16, t17, t18, .int 0, t20, t21]))] H) (hD : va_D A [(h0, .inr (0, [.ref st, v1, v2, v3, v4, v5, v6, v7, v8, v9, v10])), (st, .inr (8, [.int 0, .int 0, .int 0, w3, w4, w5, w6, w7, w8, w9, w10, w11, w12, w13, w14, w15, w16, w17, w18, w19])), (ou, .inl (dC 101, 1, .inr (.inl f0))), (m0, .inr (10, [.ref nw, z1, z2, z3, z4, z5, z6, z7, z8, z9, z10, z11, z12, z13, z14, z15, z16])), (nw, .inr (12, [t0, t1, .int 0, t3, t4, t5, t6, t7, t8, t9, t10, .int 0, t12, t13, t14, t15, t16, t17, t18, .int 0, t20, t21]))]) (hS : va_S A s.heap H locs) (hl : lv_has ls 8 [(0, .ref b), (1, .ref h0), (2, .ref m0), (3, .ref ou), (4, .int 0)]) (hend : ∀ (H : Heap) (locs : List Loc) (ls : Array Slot), va_S A s.heap H locs → lv_has ls 8 [(4, .int 0), (0, .ref b)] → W p l e room_1 s m #[Value.ref b] below meth c H locs 600002 7302232 Z (F0 m 3410 ls [])) : W p l e room_1 s m #[Value.ref b] below meth c H locs 403 120029 Z (F0 m 883 ls []) := by
  subst hL
  refine lv_aload_n hx hb dM_L_law_883 rfl (lv_at hl 1 rfl) ?_
  refine lv_aload_n hx hb dM_L_law_884 rfl (lv_at hl 0 rfl) ?_
  refine lv_iload hx hb dM_L_law_885 (lv_at hl 4 rfl) ?_
  refine lv_iconst (v := 1) hx hb dM_L_law_887 (by decide) ?_
  refine lv_iadd hx hb dM_L_law_888 ?_
  refine lv_topi (fun y_1 ey_1 => ?_)
  obtain rfl : y_1 = 1 := ey_1.trans (by decide)
  refine va_sld hx hb hX hbl hbA hS (by unfold vp_in; decide) dM_L_law_889 ?_
  refine lv_topi (fun y_2 ey_2 => ?_)
  refine lv_aload_n hx hb dM_L_law_890 rfl (lv_at hl 0 rfl) ?_
  refine lv_iload hx hb dM_L_law_891 (lv_at hl 4 rfl) ?_
  refine lv_iconst (v := 2) hx hb dM_L_law_893 (by decide) ?_
  refine lv_iadd hx hb dM_L_law_894 ?_
  refine lv_topi (fun y_3 ey_3 => ?_)
  obtain rfl : y_3 = 2 := ey_3.trans (by decide)
  refine va_sld hx hb hX hbl hbA hS (by unfold vp_in; decide) dM_L_law_895 ?_
  refine lv_topi (fun y_4 ey_4 => ?_)
  refine lv_aload_n hx hb dM_L_law_896 rfl (lv_at hl 0 rfl) ?_
  refine lv_iload hx hb dM_L_law_897 (lv_at hl 4 rfl) ?_
  refine lv_iconst (v := 3) hx hb dM_L_law_899 (by decide) ?_
  refine lv_iadd hx hb dM_L_law_900 ?_
  refine lv_topi (fun y_5 ey_5 => ?_)
  obtain rfl : y_5 = 3 := ey_5.trans (by decide)
  refine va_sld hx hb hX hbl hbA hS (by unfold vp_in; decide) dM_L_law_901 ?_
  refine lv_topi (fun y_6 ey_6 => ?_)
  refine lv_aload_n hx hb dM_L_law_902 rfl (lv_at hl 0 rfl) ?_
  refine lv_iload hx hb dM_L_law_903 (lv_at hl 4 rfl) ?_
  refine lv_iconst (v := 4) hx hb dM_L_law_905 (by decide) ?_
  refine lv_iadd hx hb dM_L_law_906 ?_
  refine lv_topi (fun y_7 ey_7 => ?_)
  obtain rfl : y_7 = 4 := ey_7.trans (by decide)
  refine va_sld hx hb hX hbl hbA hS (by unfold vp_in; decide) dM_L_law_907 ?_
  refine lv_topi (fun y_8 ey_8 => ?_)
  refine lv_if_eq (tgt := 915) hx hb dM_L_law_908 (by decide) (fun c_9 => ?_) (fun c_9 => ?_)
  · --
    refine lv_iconst (v := 0) hx hb dM_L_law_915 (by decide) ?_
    refine lv_aload_n hx hb dM_L_law_916 rfl (lv_at hl 3 rfl) ?_
    have hFc := va_free (wc := [(h0, .inr (0, [.ref st, v1, v2, v3, v4, v5, v6, v7, v8, v9, v10])), (st, .inr (8, [.int 0, .int 0, .int 0, w3, w4, w5, w6, w7, w8, w9, w10, w11, w12, w13, w14, w15, w16, w17, w18, w19])), (ou, .inl (dC 101, 1, .inr (.inl f0)))]) hD hS hA [0, 1, 2] rfl
    refine va_calli (vx_runSW (As := [.ref h0, .int y_2, .int y_4, .int y_6, .int 0, .ref ou]) (rest := []) ⟨hx, hb, hml, hown, hbg⟩ (c_L_cell l hl9 dC dI h0 y_2 y_4 y_6 0 ou st v1 v2 v3 v4 v5 v6 v7 v8 v9 v10 w3 w4 w5 w6 w7 w8 w9 w10 w11 w12 w13 w14 w15 w16 w17 w18 w19 f0 _ ) (vx_cwSW 6 hbg (gd_S (fun _ h => h) wd_1248 wd_1249 wd_0 (gd_wmW (fun _ h => h) wd_1250)) rfl rfl rfl (by decide +kernel) ⟨Nat.le_of_ble_eq_true rfl, Nat.le_of_ble_eq_true rfl⟩) (nPreS [0, 1, 2] hP hD hK hN hS hA (by decide) rfl) rfl rfl hl.1 rfl (lv_room (Nat.le_of_ble_eq_true rfl)) dM_L_law_917 ⟨Nat.le_of_ble_eq_true rfl, Nat.le_of_ble_eq_true rfl⟩) hS (fun q _ h => hFc q h) hFc (fun r_10 u t H1 locs ht hvm hw hB hz1 hk1 hS => ?_)
    obtain ⟨rfl, hu_12⟩ := hw
    obtain rfl := hu_12.symm
    obtain ⟨hP1, hD1⟩ := hB
    rw [ht] at hP1
    obtain ⟨hP, hD⟩ := va_join (wr := [(m0, .inr (10, [.ref nw, z1, z2, z3, z4, z5, z6, z7, z8, z9, z10, z11, z12, z13, z14, z15, z16])), (nw, .inr (12, [t0, t1, .int 0, t3, t4, t5, t6, t7, t8, t9, t10, .int 0, t12, t13, t14, t15, t16, t17, t18, .int 0, t20, t21]))]) (w1 := [(ou, .inl (dC 101, 1, .inr (.inl f0)))]) hP hD [0, 1, 2] [3, 4] rfl rfl (by decide) (by decide) hk1 hFc hP1 hD1
    generalize H1 = H at hP hS ⊢
    have hP : va_P (dC, dI) classes [(m0, .inr (10, [.ref nw, z1, z2, z3, z4, z5, z6, z7, z8, z9, z10, z11, z12, z13, z14, z15, z16])), (nw, .inr (12, [t0, t1, .int 0, t3, t4, t5, t6, t7, t8, t9, t10, .int 0, t12, t13, t14, t15, t16, t17, t18, .int 0, t20, t21])), (ou, .inl (dC 101, 1, .inr (.inl f0)))] H := hP
    have hD : va_D A [(m0, .inr (10, [.ref nw, z1, z2, z3, z4, z5, z6, z7, z8, z9, z10, z11, z12, z13, z14, z15, z16])), (nw, .inr (12, [t0, t1, .int 0, t3, t4, t5, t6, t7, t8, t9, t10, .int 0, t12, t13, t14, t15, t16, t17, t18, .int 0, t20, t21])), (ou, .inl (dC 101, 1, .inr (.inl f0)))] := hD
    refine W.widen (k := 404) (n := 120035) (Nat.le_of_ble_eq_true rfl) (Nat.le_of_ble_eq_true rfl) ?_
    refine lv_istore (lv' := [(5, .int 1), (0, .ref b), (1, .ref h0), (2, .ref m0), (3, .ref ou), (4, .int 0)]) hx hb dM_L_law_920 hl (by decide) rfl (fun ls hl => ?_)
    refine lv_aload_n hx hb dM_L_law_922 rfl (lv_at hl 3 rfl) ?_
    refine lv_aload_n hx hb dM_L_law_923 rfl (lv_at hl 1 rfl) ?_
    refine lv_iload hx hb dM_L_law_924 (lv_at hl 5 rfl) ?_
    refine lv_iconst (v := 1) hx hb dM_L_law_926 (by decide) ?_
    refine lv_iadd hx hb dM_L_law_927 ?_
    refine lv_topi (fun y_13 ey_13 => ?_)
    obtain rfl : y_13 = 1 := ey_13.trans (by decide)
    refine va_sld hx hb hX hbl hbA hS (by unfold vp_in; decide) dM_L_law_928 ?_
    refine lv_topi (fun y_14 ey_14 => ?_)
    obtain rfl : y_2 = y_14 := ey_2.trans ey_14.symm
    refine lv_aload_n hx hb dM_L_law_929 rfl (lv_at hl 1 rfl) ?_
    refine lv_iload hx hb dM_L_law_930 (lv_at hl 5 rfl) ?_
    refine lv_iconst (v := 2) hx hb dM_L_law_932 (by decide) ?_
    refine lv_iadd hx hb dM_L_law_933 ?_
    refine lv_topi (fun y_15 ey_15 => ?_)
    obtain rfl : y_15 = 2 := ey_15.trans (by decide)
    refine va_sld hx hb hX hbl hbA hS (by unfold vp_in; decide) dM_L_law_934 ?_
    refine lv_topi (fun y_16 ey_16 => ?_)
    obtain rfl : y_4 = y_16 := ey_4.trans ey_16.symm
    refine lv_aload_n hx hb dM_L_law_935 rfl (lv_at hl 1 rfl) ?_
    refine lv_iload hx hb dM_L_law_936 (lv_at hl 5 rfl) ?_
    refine lv_iconst (v := 3) hx hb dM_L_law_938 (by decide) ?_
    refine lv_iadd hx hb dM_L_law_939 ?_
    refine lv_topi (fun y_17 ey_17 => ?_)
    obtain rfl : y_17 = 3 := ey_17.trans (by decide)
    refine va_sld hx hb hX hbl hbA hS (by unfold vp_in; decide) dM_L_law_940 ?_
    refine lv_topi (fun y_18 ey_18 => ?_)
    obtain rfl : y_6 = y_18 := ey_6.trans ey_18.symm
    refine lv_aload_n hx hb dM_L_law_941 rfl (lv_at hl 1 rfl) ?_
    refine lv_iload hx hb dM_L_law_942 (lv_at hl 5 rfl) ?_
    refine lv_iconst (v := 4) hx hb dM_L_law_944 (by decide) ?_
    refine lv_iadd hx hb dM_L_law_945 ?_
    refine lv_topi (fun y_19 ey_19 => ?_)
    obtain rfl : y_19 = 4 := ey_19.trans (by decide)
    refine va_sld hx hb hX hbl hbA hS (by unfold vp_in; decide) dM_L_law_946 ?_
    refine lv_topi (fun y_20 ey_20 => ?_)
    obtain rfl : y_8 = y_20 := ey_8.trans ey_20.symm
    refine lv_if_eq (tgt := 954) hx hb dM_L_law_947 (by decide) (fun _ => ?_) (fun q => absurd c_9 q)
    refine lv_iconst (v := 0) hx hb dM_L_law_954 (by decide) ?_
    have hFc := va_free (wc := [(m0, .inr (10, [.ref nw, z1, z2, z3, z4, z5, z6, z7, z8, z9, z10, z11, z12, z13, z14, z15, z16])), (nw, .inr (12, [t0, t1, .int 0, t3, t4, t5, t6, t7, t8, t9, t10, .int 0, t12, t13, t14, t15, t16, t17, t18, .int 0, t20, t21]))]) hD hS hA [0, 1] rfl
    refine va_calli (va_runV (As := [.int y_2, .int y_4, .int y_6, .int 0]) (rest := []) ⟨hx, hb, hml, hown, hbg⟩ (c_M_cell l dC dI m0 y_2 y_4 y_6 0 nw z1 z2 z3 z4 z5 z6 z7 z8 z9 z10 z11 z12 z13 z14 z15 z16 t0 t1 t3 t4 t5 t6 t7 t8 t9 t10 t12 t13 t14 t15 t16 t17 t18 t20 t21 _ ) (cwV 4 hbg (gd_V (fun _ h => h) wd_2608 wd_2609 wd_2610 wd_12 (gd_wm (fun _ h => h) wd_2611)) rfl rfl rfl (by decide +kernel) ⟨Nat.le_of_ble_eq_true rfl, Nat.le_of_ble_eq_true rfl⟩) (nPreV [0, 1] hP hD hK hN hS hA (by decide) rfl 0 rfl rfl) rfl rfl hl.1 rfl (lv_room (Nat.le_of_ble_eq_true rfl)) dM_L_law_955 ⟨Nat.le_of_ble_eq_true rfl, Nat.le_of_ble_eq_true rfl⟩) hS (fun q _ h => hFc q h) hFc (fun r_21 u t H1 locs ht hvm hw hB hz1 hk1 hS => ?_)
    obtain ⟨rfl, rfl⟩ := hw
    obtain ⟨r0_23, r1_24, r2_25, r3_26, r4_27, r5_28, r6_29, r7_30, r8_31, r9_32, r10_33, r11_34, r12_35, r13_36, r14_37, r15_38, hP1, hD1⟩ := hB
    rw [ht] at hP1
    obtain ⟨hP, hD⟩ := va_join (wr := [(ou, .inl (dC 101, 1, .inr (.inl f0)))]) (w1 := [(m0, .inr (10, [r0_23, r1_24, r2_25, r3_26, r4_27, r5_28, r6_29, r7_30, r8_31, r9_32, r10_33, r11_34, r12_35, r13_36, r14_37, r15_38, .int 1]))]) hP hD [0, 1] [2] rfl rfl (by decide) (by decide) hk1 hFc hP1 hD1
    generalize H1 = H at hP hS ⊢
    have hP : va_P (dC, dI) classes [(ou, .inl (dC 101, 1, .inr (.inl f0))), (m0, .inr (10, [r0_23, r1_24, r2_25, r3_26, r4_27, r5_28, r6_29, r7_30, r8_31, r9_32, r10_33, r11_34, r12_35, r13_36, r14_37, r15_38, .int 1]))] H := hP
    have hD : va_D A [(ou, .inl (dC 101, 1, .inr (.inl f0))), (m0, .inr (10, [r0_23, r1_24, r2_25, r3_26, r4_27, r5_28, r6_29, r7_30, r8_31, r9_32, r10_33, r11_34, r12_35, r13_36, r14_37, r15_38, .int 1]))] := hD
    refine W.widen (k := 404) (n := 120035) (Nat.le_of_ble_eq_true rfl) (Nat.le_of_ble_eq_true rfl) ?_
    refine lv_istore (lv' := [(6, .int 0), (5, .int 1), (0, .ref b), (1, .ref h0), (2, .ref m0), (3, .ref ou), (4, .int 0)]) hx hb dM_L_law_958 hl (by decide) rfl (fun ls hl => ?_)
    refine lv_aload_n hx hb dM_L_law_960 rfl (lv_at hl 4 rfl) ?_
    have hFc := va_free (wc := [(m0, .inr (10, [r0_23, r1_24, r2_25, r3_26, r4_27, r5_28, r6_29, r7_30, r8_31, r9_32, r10_33, r11_34, r12_35, r13_36, r14_37, r15_38, .int 1]))]) hD hS hA [1] rfl
    refine va_calli (va_runV (As := []) (rest := []) ⟨hx, hb, hml, hown, hbg⟩ (c_M_thrown l dC dI m0 r0_23 r1_24 r2_25 r3_26 r4_27 r5_28 r6_29 r7_30 r8_31 r9_32 r10_33 r11_34 r12_35 r13_36 r14_37 r15_38 1 _ ) (cwV 0 hbg (gd_V (fun _ h => h) wd_2190 wd_2191 wd_2192 wd_12 (gd_wm (fun _ h => h) wd_2193)) rfl rfl rfl (by decide +kernel) ⟨Nat.le_of_ble_eq_true rfl, Nat.le_of_ble_eq_true rfl⟩) (nPreV [1] hP hD hK hN hS hA (by decide) rfl 1 rfl rfl) rfl rfl hl.1 rfl (lv_room (Nat.le_of_ble_eq_true rfl)) dM_L_law_961 ⟨Nat.le_of_ble_eq_true rfl, Nat.le_of_ble_eq_true rfl⟩) hS (fun q _ h => hFc q h) hFc (fun r_39 u t H1 locs ht hvm hw hB hz1 hk1 hS => ?_)
    obtain ⟨rfl, rfl⟩ := hw
    obtain ⟨r0_41, r1_42, r2_43, r3_44, r4_45, r5_46, r6_47, r7_48, r8_49, r9_50, r10_51, r11_52, r12_53, r13_54, r14_55, r15_56, hP1, hD1⟩ := hB
    rw [ht] at hP1
    obtain ⟨hP, hD⟩ := va_join (wr := [(ou, .inl (dC 101, 1, .inr (.inl f0)))]) (w1 := [(m0, .inr (10, [r0_41, r1_42, r2_43, r3_44, r4_45, r5_46, r6_47, r7_48, r8_49, r9_50, r10_51, r11_52, r12_53, r13_54, r14_55, r15_56, .int 1]))]) hP hD [1] [0] rfl rfl (by decide) (by decide) hk1 hFc hP1 hD1
    generalize H1 = H at hP hS ⊢
    have hP : va_P (dC, dI) classes [(ou, .inl (dC 101, 1, .inr (.inl f0))), (m0, .inr (10, [r0_41, r1_42, r2_43, r3_44, r4_45, r5_46, r6_47, r7_48, r8_49, r9_50, r10_51, r11_52, r12_53, r13_54, r14_55, r15_56, .int 1]))] H := hP
    have hD : va_D A [(ou, .inl (dC 101, 1, .inr (.inl f0))), (m0, .inr (10, [r0_41, r1_42, r2_43, r3_44, r4_45, r5_46, r6_47, r7_48, r8_49, r9_50, r10_51, r11_52, r12_53, r13_54, r14_55, r15_56, .int 1]))] := hD
    refine W.widen (k := 404) (n := 120035) (Nat.le_of_ble_eq_true rfl) (Nat.le_of_ble_eq_true rfl) ?_
    refine lv_iload hx hb dM_L_law_964 (lv_at hl 1 rfl) ?_
    refine lv_icmp_eq (tgt := 971) hx hb dM_L_law_966 (by decide) (fun _ => ?_) (fun q => absurd (by decide) q)
    refine lv_iload hx hb dM_L_law_971 (lv_at hl 1 rfl) ?_
    refine lv_if_ne (tgt := 988) hx hb dM_L_law_973 (by decide) (fun _ => ?_) (fun q => absurd q (by decide))
    refine lv_goto (tgt := 3410) hx hb dM_L_law_988 (by decide) ?_
    refine W.widen (k := 600002) (n := 7302232) (Nat.le_of_ble_eq_true rfl) (Nat.le_of_ble_eq_true rfl) ?_
    exact hend _ _ _ hS (lv_sub hl [6, 2] rfl)
  · --
    refine lv_iconst (v := 1) hx hb dM_L_law_911 (by decide) ?_
    refine lv_goto (tgt := 916) hx hb dM_L_law_912 (by decide) ?_
    refine lv_aload_n hx hb dM_L_law_916 rfl (lv_at hl 3 rfl) ?_
    have hFc := va_free (wc := [(h0, .inr (0, [.ref st, v1, v2, v3, v4, v5, v6, v7, v8, v9, v10])), (st, .inr (8, [.int 0, .int 0, .int 0, w3, w4, w5, w6, w7, w8, w9, w10, w11, w12, w13, w14, w15, w16, w17, w18, w19])), (ou, .inl (dC 101, 1, .inr (.inl f0)))]) hD hS hA [0, 1, 2] rfl
    refine va_calli (vx_runSW (As := [.ref h0, .int y_2, .int y_4, .int y_6, .int 1, .ref ou]) (rest := []) ⟨hx, hb, hml, hown, hbg⟩ (c_L_cell l hl9 dC dI h0 y_2 y_4 y_6 1 ou st v1 v2 v3 v4 v5 v6 v7 v8 v9 v10 w3 w4 w5 w6 w7 w8 w9 w10 w11 w12 w13 w14 w15 w16 w17 w18 w19 f0 _ ) (vx_cwSW 6 hbg (gd_S (fun _ h => h) wd_1248 wd_1249 wd_0 (gd_wmW (fun _ h => h) wd_1250)) rfl rfl rfl (by decide +kernel) ⟨Nat.le_of_ble_eq_true rfl, Nat.le_of_ble_eq_true rfl⟩) (nPreS [0, 1, 2] hP hD hK hN hS hA (by decide) rfl) rfl rfl hl.1 rfl (lv_room (Nat.le_of_ble_eq_true rfl)) dM_L_law_917 ⟨Nat.le_of_ble_eq_true rfl, Nat.le_of_ble_eq_true rfl⟩) hS (fun q _ h => hFc q h) hFc (fun r_57 u t H1 locs ht hvm hw hB hz1 hk1 hS => ?_)
    obtain ⟨rfl, hu_59⟩ := hw
    obtain rfl := hu_59.symm
    obtain ⟨hP1, hD1⟩ := hB
    rw [ht] at hP1
    obtain ⟨hP, hD⟩ := va_join (wr := [(m0, .inr (10, [.ref nw, z1, z2, z3, z4, z5, z6, z7, z8, z9, z10, z11, z12, z13, z14, z15, z16])), (nw, .inr (12, [t0, t1, .int 0, t3, t4, t5, t6, t7, t8, t9, t10, .int 0, t12, t13, t14, t15, t16, t17, t18, .int 0, t20, t21]))]) (w1 := [(ou, .inl (dC 101, 1, .inr (.inl f0)))]) hP hD [0, 1, 2] [3, 4] rfl rfl (by decide) (by decide) hk1 hFc hP1 hD1
    generalize H1 = H at hP hS ⊢
    have hP : va_P (dC, dI) classes [(m0, .inr (10, [.ref nw, z1, z2, z3, z4, z5, z6, z7, z8, z9, z10, z11, z12, z13, z14, z15, z16])), (nw, .inr (12, [t0, t1, .int 0, t3, t4, t5, t6, t7, t8, t9, t10, .int 0, t12, t13, t14, t15, t16, t17, t18, .int 0, t20, t21])), (ou, .inl (dC 101, 1, .inr (.inl f0)))] H := hP
    have hD : va_D A [(m0, .inr (10, [.ref nw, z1, z2, z3, z4, z5, z6, z7, z8, z9, z10, z11, z12, z13, z14, z15, z16])), (nw, .inr (12, [t0, t1, .int 0, t3, t4, t5, t6, t7, t8, t9, t10, .int 0, t12, t13, t14, t15, t16, t17, t18, .int 0, t20, t21])), (ou, .inl (dC 101, 1, .inr (.inl f0)))] := hD
    refine W.widen (k := 404) (n := 120035) (Nat.le_of_ble_eq_true rfl) (Nat.le_of_ble_eq_true rfl) ?_
    refine lv_istore (lv' := [(5, .int 1), (0, .ref b), (1, .ref h0), (2, .ref m0), (3, .ref ou), (4, .int 0)]) hx hb dM_L_law_920 hl (by decide) rfl (fun ls hl => ?_)
    refine lv_aload_n hx hb dM_L_law_922 rfl (lv_at hl 3 rfl) ?_
    refine lv_aload_n hx hb dM_L_law_923 rfl (lv_at hl 1 rfl) ?_
    refine lv_iload hx hb dM_L_law_924 (lv_at hl 5 rfl) ?_
    refine lv_iconst (v := 1) hx hb dM_L_law_926 (by decide) ?_
    refine lv_iadd hx hb dM_L_law_927 ?_
    refine lv_topi (fun y_60 ey_60 => ?_)
    obtain rfl : y_60 = 1 := ey_60.trans (by decide)
    refine va_sld hx hb hX hbl hbA hS (by unfold vp_in; decide) dM_L_law_928 ?_
    refine lv_topi (fun y_61 ey_61 => ?_)
    obtain rfl : y_2 = y_61 := ey_2.trans ey_61.symm
    refine lv_aload_n hx hb dM_L_law_929 rfl (lv_at hl 1 rfl) ?_
    refine lv_iload hx hb dM_L_law_930 (lv_at hl 5 rfl) ?_
    refine lv_iconst (v := 2) hx hb dM_L_law_932 (by decide) ?_
    refine lv_iadd hx hb dM_L_law_933 ?_
    refine lv_topi (fun y_62 ey_62 => ?_)
    obtain rfl : y_62 = 2 := ey_62.trans (by decide)
    refine va_sld hx hb hX hbl hbA hS (by unfold vp_in; decide) dM_L_law_934 ?_
    refine lv_topi (fun y_63 ey_63 => ?_)
    obtain rfl : y_4 = y_63 := ey_4.trans ey_63.symm
    refine lv_aload_n hx hb dM_L_law_935 rfl (lv_at hl 1 rfl) ?_
    refine lv_iload hx hb dM_L_law_936 (lv_at hl 5 rfl) ?_
    refine lv_iconst (v := 3) hx hb dM_L_law_938 (by decide) ?_
    refine lv_iadd hx hb dM_L_law_939 ?_
    refine lv_topi (fun y_64 ey_64 => ?_)
    obtain rfl : y_64 = 3 := ey_64.trans (by decide)
    refine va_sld hx hb hX hbl hbA hS (by unfold vp_in; decide) dM_L_law_940 ?_
    refine lv_topi (fun y_65 ey_65 => ?_)
    obtain rfl : y_6 = y_65 := ey_6.trans ey_65.symm
    refine lv_aload_n hx hb dM_L_law_941 rfl (lv_at hl 1 rfl) ?_
    refine lv_iload hx hb dM_L_law_942 (lv_at hl 5 rfl) ?_
    refine lv_iconst (v := 4) hx hb dM_L_law_944 (by decide) ?_
    refine lv_iadd hx hb dM_L_law_945 ?_
    refine lv_topi (fun y_66 ey_66 => ?_)
    obtain rfl : y_66 = 4 := ey_66.trans (by decide)
    refine va_sld hx hb hX hbl hbA hS (by unfold vp_in; decide) dM_L_law_946 ?_
    refine lv_topi (fun y_67 ey_67 => ?_)
    obtain rfl : y_8 = y_67 := ey_8.trans ey_67.symm
    refine lv_if_eq (tgt := 954) hx hb dM_L_law_947 (by decide) (fun q => absurd q c_9) (fun _ => ?_)
    refine lv_iconst (v := 1) hx hb dM_L_law_950 (by decide) ?_
    refine lv_goto (tgt := 955) hx hb dM_L_law_951 (by decide) ?_
    have hFc := va_free (wc := [(m0, .inr (10, [.ref nw, z1, z2, z3, z4, z5, z6, z7, z8, z9, z10, z11, z12, z13, z14, z15, z16])), (nw, .inr (12, [t0, t1, .int 0, t3, t4, t5, t6, t7, t8, t9, t10, .int 0, t12, t13, t14, t15, t16, t17, t18, .int 0, t20, t21]))]) hD hS hA [0, 1] rfl
    refine va_calli (va_runV (As := [.int y_2, .int y_4, .int y_6, .int 1]) (rest := []) ⟨hx, hb, hml, hown, hbg⟩ (c_M_cell l dC dI m0 y_2 y_4 y_6 1 nw z1 z2 z3 z4 z5 z6 z7 z8 z9 z10 z11 z12 z13 z14 z15 z16 t0 t1 t3 t4 t5 t6 t7 t8 t9 t10 t12 t13 t14 t15 t16 t17 t18 t20 t21 _ ) (cwV 4 hbg (gd_V (fun _ h => h) wd_2608 wd_2609 wd_2610 wd_12 (gd_wm (fun _ h => h) wd_2611)) rfl rfl rfl (by decide +kernel) ⟨Nat.le_of_ble_eq_true rfl, Nat.le_of_ble_eq_true rfl⟩) (nPreV [0, 1] hP hD hK hN hS hA (by decide) rfl 0 rfl rfl) rfl rfl hl.1 rfl (lv_room (Nat.le_of_ble_eq_true rfl)) dM_L_law_955 ⟨Nat.le_of_ble_eq_true rfl, Nat.le_of_ble_eq_true rfl⟩) hS (fun q _ h => hFc q h) hFc (fun r_68 u t H1 locs ht hvm hw hB hz1 hk1 hS => ?_)
    obtain ⟨rfl, rfl⟩ := hw
    obtain ⟨r0_70, r1_71, r2_72, r3_73, r4_74, r5_75, r6_76, r7_77, r8_78, r9_79, r10_80, r11_81, r12_82, r13_83, r14_84, r15_85, hP1, hD1⟩ := hB
    rw [ht] at hP1
    obtain ⟨hP, hD⟩ := va_join (wr := [(ou, .inl (dC 101, 1, .inr (.inl f0)))]) (w1 := [(m0, .inr (10, [r0_70, r1_71, r2_72, r3_73, r4_74, r5_75, r6_76, r7_77, r8_78, r9_79, r10_80, r11_81, r12_82, r13_83, r14_84, r15_85, .int 1]))]) hP hD [0, 1] [2] rfl rfl (by decide) (by decide) hk1 hFc hP1 hD1
    generalize H1 = H at hP hS ⊢
    have hP : va_P (dC, dI) classes [(ou, .inl (dC 101, 1, .inr (.inl f0))), (m0, .inr (10, [r0_70, r1_71, r2_72, r3_73, r4_74, r5_75, r6_76, r7_77, r8_78, r9_79, r10_80, r11_81, r12_82, r13_83, r14_84, r15_85, .int 1]))] H := hP
    have hD : va_D A [(ou, .inl (dC 101, 1, .inr (.inl f0))), (m0, .inr (10, [r0_70, r1_71, r2_72, r3_73, r4_74, r5_75, r6_76, r7_77, r8_78, r9_79, r10_80, r11_81, r12_82, r13_83, r14_84, r15_85, .int 1]))] := hD
    refine W.widen (k := 404) (n := 120035) (Nat.le_of_ble_eq_true rfl) (Nat.le_of_ble_eq_true rfl) ?_
    refine lv_istore (lv' := [(6, .int 0), (5, .int 1), (0, .ref b), (1, .ref h0), (2, .ref m0), (3, .ref ou), (4, .int 0)]) hx hb dM_L_law_958 hl (by decide) rfl (fun ls hl => ?_)
    refine lv_aload_n hx hb dM_L_law_960 rfl (lv_at hl 4 rfl) ?_
    have hFc := va_free (wc := [(m0, .inr (10, [r0_70, r1_71, r2_72, r3_73, r4_74, r5_75, r6_76, r7_77, r8_78, r9_79, r10_80, r11_81, r12_82, r13_83, r14_84, r15_85, .int 1]))]) hD hS hA [1] rfl
    refine va_calli (va_runV (As := []) (rest := []) ⟨hx, hb, hml, hown, hbg⟩ (c_M_thrown l dC dI m0 r0_70 r1_71 r2_72 r3_73 r4_74 r5_75 r6_76 r7_77 r8_78 r9_79 r10_80 r11_81 r12_82 r13_83 r14_84 r15_85 1 _ ) (cwV 0 hbg (gd_V (fun _ h => h) wd_2190 wd_2191 wd_2192 wd_12 (gd_wm (fun _ h => h) wd_2193)) rfl rfl rfl (by decide +kernel) ⟨Nat.le_of_ble_eq_true rfl, Nat.le_of_ble_eq_true rfl⟩) (nPreV [1] hP hD hK hN hS hA (by decide) rfl 1 rfl rfl) rfl rfl hl.1 rfl (lv_room (Nat.le_of_ble_eq_true rfl)) dM_L_law_961 ⟨Nat.le_of_ble_eq_true rfl, Nat.le_of_ble_eq_true rfl⟩) hS (fun q _ h => hFc q h) hFc (fun r_86 u t H1 locs ht hvm hw hB hz1 hk1 hS => ?_)
    obtain ⟨rfl, rfl⟩ := hw
    obtain ⟨r0_88, r1_89, r2_90, r3_91, r4_92, r5_93, r6_94, r7_95, r8_96, r9_97, r10_98, r11_99, r12_100, r13_101, r14_102, r15_103, hP1, hD1⟩ := hB
    rw [ht] at hP1
    obtain ⟨hP, hD⟩ := va_join (wr := [(ou, .inl (dC 101, 1, .inr (.inl f0)))]) (w1 := [(m0, .inr (10, [r0_88, r1_89, r2_90, r3_91, r4_92, r5_93, r6_94, r7_95, r8_96, r9_97, r10_98, r11_99, r12_100, r13_101, r14_102, r15_103, .int 1]))]) hP hD [1] [0] rfl rfl (by decide) (by decide) hk1 hFc hP1 hD1
    generalize H1 = H at hP hS ⊢
    have hP : va_P (dC, dI) classes [(ou, .inl (dC 101, 1, .inr (.inl f0))), (m0, .inr (10, [r0_88, r1_89, r2_90, r3_91, r4_92, r5_93, r6_94, r7_95, r8_96, r9_97, r10_98, r11_99, r12_100, r13_101, r14_102, r15_103, .int 1]))] H := hP
    have hD : va_D A [(ou, .inl (dC 101, 1, .inr (.inl f0))), (m0, .inr (10, [r0_88, r1_89, r2_90, r3_91, r4_92, r5_93, r6_94, r7_95, r8_96, r9_97, r10_98, r11_99, r12_100, r13_101, r14_102, r15_103, .int 1]))] := hD
    refine W.widen (k := 404) (n := 120035) (Nat.le_of_ble_eq_true rfl) (Nat.le_of_ble_eq_true rfl) ?_
    refine lv_iload hx hb dM_L_law_964 (lv_at hl 1 rfl) ?_
    refine lv_icmp_eq (tgt := 971) hx hb dM_L_law_966 (by decide) (fun _ => ?_) (fun q => absurd (by decide) q)
    refine lv_iload hx hb dM_L_law_971 (lv_at hl 1 rfl) ?_
    refine lv_if_ne (tgt := 988) hx hb dM_L_law_973 (by decide) (fun _ => ?_) (fun q => absurd q (by decide))
    refine lv_goto (tgt := 3410) hx hb dM_L_law_988 (by decide) ?_
    refine W.widen (k := 600002) (n := 7302232) (Nat.le_of_ble_eq_true rfl) (Nat.le_of_ble_eq_true rfl) ?_
    exact hend _ _ _ hS (lv_sub hl [6, 2] rfl)
set_option maxHeartbeats 4000000 in
set_option maxRecDepth 100000 in
theorem lawc_9 {p : Program} {e : Env} {s : State} {m : MethodId} {below : List Frame} {meth : Method} {c : Code} {Z : State → Prop} (l : Launch) (hl9 : l.stackTraces = false) (dC : Nat → ClassId) (dI : Nat → Nat → Nat) {A : Nat → Prop} {b L : Nat} {xs : Nat → Int32} (hL : L = 8) (hx : p.tables.exec = Jvm.exec) (hb : c.code = cM_L_law) (hml : c.maxLocals = 8) (hown : s.vm.findClass "NoteDocumentLaw" = some m.cls) (hbg : ∀ w ∈ BIG, w.before #[Value.ref b] s = true) (hK : nK (dC, dI) s) (hN : nS A s s.heap) (hA : ∀ q : Nat, s.heap.size ≤ q → A q) (hX : va_X b L xs s s.heap) (hbl : b < s.heap.size) (hbA : ¬ A b) {H : Heap} {locs : List Loc} {ls : Array Slot} {h0 : Nat} {m0 : Nat} {ou : Nat} {st : Nat} {v1 : Value} {v2 : Value} {v3 : Value} {v4 : Value} {v5 : Value} {v6 : Value} {v7 : Value} {v8 : Value} {v9 : Value} {v10 : Value} {w3 : Value} {w4 : Value} {w5 : Value} {w6 : Value} {w7 : Value} {w8 : Value} {w9 : Value} {w10 : Value} {w11 : Value} {w12 : Value} {w13 : Value} {w14 : Value} {w15 : Value} {w16 : Value} {w17 : Value} {w18 : Value} {w19 : Value} {f0 : Nat → Int64} {nw : Nat} {z1 : Value} {z2 : Value} {z3 : Value} {z4 : Value} {z5 : Value} {z6 : Value} {z7 : Value} {z8 : Value} {z9 : Value} {z10 : Value} {z11 : Value} {z12 : Value} {z13 : Value} {z14 : Value} {z15 : Value} {z16 : Value} {t0 : Value} {t1 : Value} {t3 : Value} {t4 : Value} {t5 : Value} {t6 : Value} {t7 : Value} {t8 : Value} {t9 : Value} {t10 : Value} {t12 : Value} {t13 : Value} {t14 : Value} {t15 : Value} {t16 : Value} {t17 : Value} {t18 : Value} {t20 : Value} {t21 : Value} (hP : va_P (dC, dI) classes [(h0, .inr (0, [.ref st, v1, v2, v3, v4, v5, v6, v7, v8, v9, v10])), (st, .inr (8, [.int 0, .int 0, .int 0, w3, w4, w5, w6, w7, w8, w9, w10, w11, w12, w13, w14, w15, w16, w17, w18, w19])), (ou, .inl (dC 101, 1, .inr (.inl f0))), (m0, .inr (10, [.ref nw, z1, z2, z3, z4, z5, z6, z7, z8, z9, z10, z11, z12, z13, z14, z15, z16])), (nw, .inr (12, [t0, t1, .int 0, t3, t4, t5, t6, t7, t8, t9, t10, .int 0, t12, t13, t14, t15, t16, t17, t18, .int 0, t20, t21]))] H) (hD : va_D A [(h0, .inr (0, [.ref st, v1, v2, v3, v4, v5, v6, v7, v8, v9, v10])), (st, .inr (8, [.int 0, .int 0, .int 0, w3, w4, w5, w6, w7, w8, w9, w10, w11, w12, w13, w14, w15, w16, w17, w18, w19])), (ou, .inl (dC 101, 1, .inr (.inl f0))), (m0, .inr (10, [.ref nw, z1, z2, z3, z4, z5, z6, z7, z8, z9, z10, z11, z12, z13, z14, z15, z16])), (nw, .inr (12, [t0, t1, .int 0, t3, t4, t5, t6, t7, t8, t9, t10, .int 0, t12, t13, t14, t15, t16, t17, t18, .int 0, t20, t21]))]) (hS : va_S A s.heap H locs) (hl : lv_has ls 8 [(0, .ref b), (1, .ref h0), (2, .ref m0), (3, .ref ou), (4, .int 0)]) (hend : ∀ (H : Heap) (locs : List Loc) (ls : Array Slot), va_S A s.heap H locs → lv_has ls 8 [(4, .int 0), (0, .ref b)] → W p l e room_1 s m #[Value.ref b] below meth c H locs 600002 7302232 Z (F0 m 3410 ls [])) : W p l e room_1 s m #[Value.ref b] below meth c H locs 403 120029 Z (F0 m 991 ls []) := by
  subst hL
  refine lv_aload_n hx hb dM_L_law_991 rfl (lv_at hl 1 rfl) ?_
  refine lv_aload_n hx hb dM_L_law_992 rfl (lv_at hl 0 rfl) ?_
  refine lv_iload hx hb dM_L_law_993 (lv_at hl 4 rfl) ?_
  refine lv_iconst (v := 1) hx hb dM_L_law_995 (by decide) ?_
  refine lv_iadd hx hb dM_L_law_996 ?_
  refine lv_topi (fun y_1 ey_1 => ?_)
  obtain rfl : y_1 = 1 := ey_1.trans (by decide)
  refine va_sld hx hb hX hbl hbA hS (by unfold vp_in; decide) dM_L_law_997 ?_
  refine lv_topi (fun y_2 ey_2 => ?_)
  refine lv_aload_n hx hb dM_L_law_998 rfl (lv_at hl 0 rfl) ?_
  refine lv_iload hx hb dM_L_law_999 (lv_at hl 4 rfl) ?_
  refine lv_iconst (v := 2) hx hb dM_L_law_1001 (by decide) ?_
  refine lv_iadd hx hb dM_L_law_1002 ?_
  refine lv_topi (fun y_3 ey_3 => ?_)
  obtain rfl : y_3 = 2 := ey_3.trans (by decide)
  refine va_sld hx hb hX hbl hbA hS (by unfold vp_in; decide) dM_L_law_1003 ?_
  refine lv_topi (fun y_4 ey_4 => ?_)
  refine lv_aload_n hx hb dM_L_law_1004 rfl (lv_at hl 0 rfl) ?_
  refine lv_iload hx hb dM_L_law_1005 (lv_at hl 4 rfl) ?_
  refine lv_iconst (v := 3) hx hb dM_L_law_1007 (by decide) ?_
  refine lv_iadd hx hb dM_L_law_1008 ?_
  refine lv_topi (fun y_5 ey_5 => ?_)
  obtain rfl : y_5 = 3 := ey_5.trans (by decide)
  refine va_sld hx hb hX hbl hbA hS (by unfold vp_in; decide) dM_L_law_1009 ?_
  refine lv_topi (fun y_6 ey_6 => ?_)
  refine lv_aload_n hx hb dM_L_law_1010 rfl (lv_at hl 0 rfl) ?_
  refine lv_iload hx hb dM_L_law_1011 (lv_at hl 4 rfl) ?_
  refine lv_iconst (v := 4) hx hb dM_L_law_1013 (by decide) ?_
  refine lv_iadd hx hb dM_L_law_1014 ?_
  refine lv_topi (fun y_7 ey_7 => ?_)
  obtain rfl : y_7 = 4 := ey_7.trans (by decide)
  refine va_sld hx hb hX hbl hbA hS (by unfold vp_in; decide) dM_L_law_1015 ?_
  refine lv_topi (fun y_8 ey_8 => ?_)
  refine lv_aload_n hx hb dM_L_law_1016 rfl (lv_at hl 0 rfl) ?_
  refine lv_iload hx hb dM_L_law_1017 (lv_at hl 4 rfl) ?_
  refine lv_iconst (v := 5) hx hb dM_L_law_1019 (by decide) ?_
  refine lv_iadd hx hb dM_L_law_1020 ?_
  refine lv_topi (fun y_9 ey_9 => ?_)
  obtain rfl : y_9 = 5 := ey_9.trans (by decide)
  refine va_sld hx hb hX hbl hbA hS (by unfold vp_in; decide) dM_L_law_1021 ?_
  refine lv_topi (fun y_10 ey_10 => ?_)
  refine lv_aload_n hx hb dM_L_law_1022 rfl (lv_at hl 3 rfl) ?_
  have hFc := va_free (wc := [(h0, .inr (0, [.ref st, v1, v2, v3, v4, v5, v6, v7, v8, v9, v10])), (st, .inr (8, [.int 0, .int 0, .int 0, w3, w4, w5, w6, w7, w8, w9, w10, w11, w12, w13, w14, w15, w16, w17, w18, w19])), (ou, .inl (dC 101, 1, .inr (.inl f0)))]) hD hS hA [0, 1, 2] rfl
  refine va_calli (vx_runSW (As := [.ref h0, .int y_2, .int y_4, .int y_6, .int y_8, .int y_10, .ref ou]) (rest := []) ⟨hx, hb, hml, hown, hbg⟩ (c_L_range l hl9 dC dI h0 y_2 y_4 y_6 y_8 y_10 ou st v1 v2 v3 v4 v5 v6 v7 v8 v9 v10 w3 w4 w5 w6 w7 w8 w9 w10 w11 w12 w13 w14 w15 w16 w17 w18 w19 f0 _ ) (vx_cwSW 7 hbg (gd_S (fun _ h => h) wd_1259 wd_1260 wd_0 (gd_wmW (fun _ h => h) wd_1261)) rfl rfl rfl (by decide +kernel) ⟨Nat.le_of_ble_eq_true rfl, Nat.le_of_ble_eq_true rfl⟩) (nPreS [0, 1, 2] hP hD hK hN hS hA (by decide) rfl) rfl rfl hl.1 rfl (lv_room (Nat.le_of_ble_eq_true rfl)) dM_L_law_1023 ⟨Nat.le_of_ble_eq_true rfl, Nat.le_of_ble_eq_true rfl⟩) hS (fun q _ h => hFc q h) hFc (fun r_11 u t H1 locs ht hvm hw hB hz1 hk1 hS => ?_)
  obtain ⟨rfl, hu_13⟩ := hw
  obtain rfl := hu_13.symm
  obtain ⟨hP1, hD1⟩ := hB
  rw [ht] at hP1
  obtain ⟨hP, hD⟩ := va_join (wr := [(m0, .inr (10, [.ref nw, z1, z2, z3, z4, z5, z6, z7, z8, z9, z10, z11, z12, z13, z14, z15, z16])), (nw, .inr (12, [t0, t1, .int 0, t3, t4, t5, t6, t7, t8, t9, t10, .int 0, t12, t13, t14, t15, t16, t17, t18, .int 0, t20, t21]))]) (w1 := [(ou, .inl (dC 101, 1, .inr (.inl f0)))]) hP hD [0, 1, 2] [3, 4] rfl rfl (by decide) (by decide) hk1 hFc hP1 hD1
  generalize H1 = H at hP hS ⊢
  have hP : va_P (dC, dI) classes [(m0, .inr (10, [.ref nw, z1, z2, z3, z4, z5, z6, z7, z8, z9, z10, z11, z12, z13, z14, z15, z16])), (nw, .inr (12, [t0, t1, .int 0, t3, t4, t5, t6, t7, t8, t9, t10, .int 0, t12, t13, t14, t15, t16, t17, t18, .int 0, t20, t21])), (ou, .inl (dC 101, 1, .inr (.inl f0)))] H := hP
  have hD : va_D A [(m0, .inr (10, [.ref nw, z1, z2, z3, z4, z5, z6, z7, z8, z9, z10, z11, z12, z13, z14, z15, z16])), (nw, .inr (12, [t0, t1, .int 0, t3, t4, t5, t6, t7, t8, t9, t10, .int 0, t12, t13, t14, t15, t16, t17, t18, .int 0, t20, t21])), (ou, .inl (dC 101, 1, .inr (.inl f0)))] := hD
  refine W.widen (k := 404) (n := 120035) (Nat.le_of_ble_eq_true rfl) (Nat.le_of_ble_eq_true rfl) ?_
  refine lv_istore (lv' := [(5, .int 1), (0, .ref b), (1, .ref h0), (2, .ref m0), (3, .ref ou), (4, .int 0)]) hx hb dM_L_law_1026 hl (by decide) rfl (fun ls hl => ?_)
  refine lv_aload_n hx hb dM_L_law_1028 rfl (lv_at hl 3 rfl) ?_
  refine lv_aload_n hx hb dM_L_law_1029 rfl (lv_at hl 1 rfl) ?_
  refine lv_iload hx hb dM_L_law_1030 (lv_at hl 5 rfl) ?_
  refine lv_iconst (v := 1) hx hb dM_L_law_1032 (by decide) ?_
  refine lv_iadd hx hb dM_L_law_1033 ?_
  refine lv_topi (fun y_14 ey_14 => ?_)
  obtain rfl : y_14 = 1 := ey_14.trans (by decide)
  refine va_sld hx hb hX hbl hbA hS (by unfold vp_in; decide) dM_L_law_1034 ?_
  refine lv_topi (fun y_15 ey_15 => ?_)
  obtain rfl : y_2 = y_15 := ey_2.trans ey_15.symm
  refine lv_aload_n hx hb dM_L_law_1035 rfl (lv_at hl 1 rfl) ?_
  refine lv_iload hx hb dM_L_law_1036 (lv_at hl 5 rfl) ?_
  refine lv_iconst (v := 2) hx hb dM_L_law_1038 (by decide) ?_
  refine lv_iadd hx hb dM_L_law_1039 ?_
  refine lv_topi (fun y_16 ey_16 => ?_)
  obtain rfl : y_16 = 2 := ey_16.trans (by decide)
  refine va_sld hx hb hX hbl hbA hS (by unfold vp_in; decide) dM_L_law_1040 ?_
  refine lv_topi (fun y_17 ey_17 => ?_)
  obtain rfl : y_4 = y_17 := ey_4.trans ey_17.symm
  refine lv_aload_n hx hb dM_L_law_1041 rfl (lv_at hl 1 rfl) ?_
  refine lv_iload hx hb dM_L_law_1042 (lv_at hl 5 rfl) ?_
  refine lv_iconst (v := 3) hx hb dM_L_law_1044 (by decide) ?_
  refine lv_iadd hx hb dM_L_law_1045 ?_
  refine lv_topi (fun y_18 ey_18 => ?_)
  obtain rfl : y_18 = 3 := ey_18.trans (by decide)
  refine va_sld hx hb hX hbl hbA hS (by unfold vp_in; decide) dM_L_law_1046 ?_
  refine lv_topi (fun y_19 ey_19 => ?_)
  obtain rfl : y_6 = y_19 := ey_6.trans ey_19.symm
  refine lv_aload_n hx hb dM_L_law_1047 rfl (lv_at hl 1 rfl) ?_
  refine lv_iload hx hb dM_L_law_1048 (lv_at hl 5 rfl) ?_
  refine lv_iconst (v := 4) hx hb dM_L_law_1050 (by decide) ?_
  refine lv_iadd hx hb dM_L_law_1051 ?_
  refine lv_topi (fun y_20 ey_20 => ?_)
  obtain rfl : y_20 = 4 := ey_20.trans (by decide)
  refine va_sld hx hb hX hbl hbA hS (by unfold vp_in; decide) dM_L_law_1052 ?_
  refine lv_topi (fun y_21 ey_21 => ?_)
  obtain rfl : y_8 = y_21 := ey_8.trans ey_21.symm
  refine lv_aload_n hx hb dM_L_law_1053 rfl (lv_at hl 1 rfl) ?_
  refine lv_iload hx hb dM_L_law_1054 (lv_at hl 5 rfl) ?_
  refine lv_iconst (v := 5) hx hb dM_L_law_1056 (by decide) ?_
  refine lv_iadd hx hb dM_L_law_1057 ?_
  refine lv_topi (fun y_22 ey_22 => ?_)
  obtain rfl : y_22 = 5 := ey_22.trans (by decide)
  refine va_sld hx hb hX hbl hbA hS (by unfold vp_in; decide) dM_L_law_1058 ?_
  refine lv_topi (fun y_23 ey_23 => ?_)
  obtain rfl : y_10 = y_23 := ey_10.trans ey_23.symm
  have hFc := va_free (wc := [(m0, .inr (10, [.ref nw, z1, z2, z3, z4, z5, z6, z7, z8, z9, z10, z11, z12, z13, z14, z15, z16])), (nw, .inr (12, [t0, t1, .int 0, t3, t4, t5, t6, t7, t8, t9, t10, .int 0, t12, t13, t14, t15, t16, t17, t18, .int 0, t20, t21]))]) hD hS hA [0, 1] rfl
  refine va_calli (va_runV (As := [.int y_2, .int y_4, .int y_6, .int y_8, .int y_10]) (rest := []) ⟨hx, hb, hml, hown, hbg⟩ (c_M_range l dC dI m0 y_2 y_4 y_6 y_8 y_10 nw z1 z2 z3 z4 z5 z6 z7 z8 z9 z10 z11 z12 z13 z14 z15 z16 t0 t1 t3 t4 t5 t6 t7 t8 t9 t10 t12 t13 t14 t15 t16 t17 t18 t20 t21 _ ) (cwV 5 hbg (gd_V (fun _ h => h) wd_2616 wd_2617 wd_2618 wd_12 (gd_wm (fun _ h => h) wd_2619)) rfl rfl rfl (by decide +kernel) ⟨Nat.le_of_ble_eq_true rfl, Nat.le_of_ble_eq_true rfl⟩) (nPreV [0, 1] hP hD hK hN hS hA (by decide) rfl 0 rfl rfl) rfl rfl hl.1 rfl (lv_room (Nat.le_of_ble_eq_true rfl)) dM_L_law_1059 ⟨Nat.le_of_ble_eq_true rfl, Nat.le_of_ble_eq_true rfl⟩) hS (fun q _ h => hFc q h) hFc (fun r_24 u t H1 locs ht hvm hw hB hz1 hk1 hS => ?_)
  obtain ⟨rfl, rfl⟩ := hw
  obtain ⟨r0_26, r1_27, r2_28, r3_29, r4_30, r5_31, r6_32, r7_33, r8_34, r9_35, r10_36, r11_37, r12_38, r13_39, r14_40, r15_41, hP1, hD1⟩ := hB
  rw [ht] at hP1
  obtain ⟨hP, hD⟩ := va_join (wr := [(ou, .inl (dC 101, 1, .inr (.inl f0)))]) (w1 := [(m0, .inr (10, [r0_26, r1_27, r2_28, r3_29, r4_30, r5_31, r6_32, r7_33, r8_34, r9_35, r10_36, r11_37, r12_38, r13_39, r14_40, r15_41, .int 1]))]) hP hD [0, 1] [2] rfl rfl (by decide) (by decide) hk1 hFc hP1 hD1
  generalize H1 = H at hP hS ⊢
  have hP : va_P (dC, dI) classes [(ou, .inl (dC 101, 1, .inr (.inl f0))), (m0, .inr (10, [r0_26, r1_27, r2_28, r3_29, r4_30, r5_31, r6_32, r7_33, r8_34, r9_35, r10_36, r11_37, r12_38, r13_39, r14_40, r15_41, .int 1]))] H := hP
  have hD : va_D A [(ou, .inl (dC 101, 1, .inr (.inl f0))), (m0, .inr (10, [r0_26, r1_27, r2_28, r3_29, r4_30, r5_31, r6_32, r7_33, r8_34, r9_35, r10_36, r11_37, r12_38, r13_39, r14_40, r15_41, .int 1]))] := hD
  refine W.widen (k := 404) (n := 120035) (Nat.le_of_ble_eq_true rfl) (Nat.le_of_ble_eq_true rfl) ?_
  refine lv_istore (lv' := [(6, .int 0), (5, .int 1), (0, .ref b), (1, .ref h0), (2, .ref m0), (3, .ref ou), (4, .int 0)]) hx hb dM_L_law_1062 hl (by decide) rfl (fun ls hl => ?_)
  refine lv_aload_n hx hb dM_L_law_1064 rfl (lv_at hl 4 rfl) ?_
  have hFc := va_free (wc := [(m0, .inr (10, [r0_26, r1_27, r2_28, r3_29, r4_30, r5_31, r6_32, r7_33, r8_34, r9_35, r10_36, r11_37, r12_38, r13_39, r14_40, r15_41, .int 1]))]) hD hS hA [1] rfl
  refine va_calli (va_runV (As := []) (rest := []) ⟨hx, hb, hml, hown, hbg⟩ (c_M_thrown l dC dI m0 r0_26 r1_27 r2_28 r3_29 r4_30 r5_31 r6_32 r7_33 r8_34 r9_35 r10_36 r11_37 r12_38 r13_39 r14_40 r15_41 1 _ ) (cwV 0 hbg (gd_V (fun _ h => h) wd_2190 wd_2191 wd_2192 wd_12 (gd_wm (fun _ h => h) wd_2193)) rfl rfl rfl (by decide +kernel) ⟨Nat.le_of_ble_eq_true rfl, Nat.le_of_ble_eq_true rfl⟩) (nPreV [1] hP hD hK hN hS hA (by decide) rfl 1 rfl rfl) rfl rfl hl.1 rfl (lv_room (Nat.le_of_ble_eq_true rfl)) dM_L_law_1065 ⟨Nat.le_of_ble_eq_true rfl, Nat.le_of_ble_eq_true rfl⟩) hS (fun q _ h => hFc q h) hFc (fun r_42 u t H1 locs ht hvm hw hB hz1 hk1 hS => ?_)
  obtain ⟨rfl, rfl⟩ := hw
  obtain ⟨r0_44, r1_45, r2_46, r3_47, r4_48, r5_49, r6_50, r7_51, r8_52, r9_53, r10_54, r11_55, r12_56, r13_57, r14_58, r15_59, hP1, hD1⟩ := hB
  rw [ht] at hP1
  obtain ⟨hP, hD⟩ := va_join (wr := [(ou, .inl (dC 101, 1, .inr (.inl f0)))]) (w1 := [(m0, .inr (10, [r0_44, r1_45, r2_46, r3_47, r4_48, r5_49, r6_50, r7_51, r8_52, r9_53, r10_54, r11_55, r12_56, r13_57, r14_58, r15_59, .int 1]))]) hP hD [1] [0] rfl rfl (by decide) (by decide) hk1 hFc hP1 hD1
  generalize H1 = H at hP hS ⊢
  have hP : va_P (dC, dI) classes [(ou, .inl (dC 101, 1, .inr (.inl f0))), (m0, .inr (10, [r0_44, r1_45, r2_46, r3_47, r4_48, r5_49, r6_50, r7_51, r8_52, r9_53, r10_54, r11_55, r12_56, r13_57, r14_58, r15_59, .int 1]))] H := hP
  have hD : va_D A [(ou, .inl (dC 101, 1, .inr (.inl f0))), (m0, .inr (10, [r0_44, r1_45, r2_46, r3_47, r4_48, r5_49, r6_50, r7_51, r8_52, r9_53, r10_54, r11_55, r12_56, r13_57, r14_58, r15_59, .int 1]))] := hD
  refine W.widen (k := 404) (n := 120035) (Nat.le_of_ble_eq_true rfl) (Nat.le_of_ble_eq_true rfl) ?_
  refine lv_iload hx hb dM_L_law_1068 (lv_at hl 1 rfl) ?_
  refine lv_icmp_eq (tgt := 1075) hx hb dM_L_law_1070 (by decide) (fun _ => ?_) (fun q => absurd (by decide) q)
  refine lv_iload hx hb dM_L_law_1075 (lv_at hl 1 rfl) ?_
  refine lv_if_ne (tgt := 1092) hx hb dM_L_law_1077 (by decide) (fun _ => ?_) (fun q => absurd q (by decide))
  refine lv_goto (tgt := 3410) hx hb dM_L_law_1092 (by decide) ?_
  refine W.widen (k := 600002) (n := 7302232) (Nat.le_of_ble_eq_true rfl) (Nat.le_of_ble_eq_true rfl) ?_
  exact hend _ _ _ hS (lv_sub hl [6, 2] rfl)
set_option maxHeartbeats 4000000 in
set_option maxRecDepth 100000 in
theorem lawc_10 {p : Program} {e : Env} {s : State} {m : MethodId} {below : List Frame} {meth : Method} {c : Code} {Z : State → Prop} (l : Launch) (hl9 : l.stackTraces = false) (dC : Nat → ClassId) (dI : Nat → Nat → Nat) {A : Nat → Prop} {b L : Nat} {xs : Nat → Int32} (hL : L = 8) (hx : p.tables.exec = Jvm.exec) (hb : c.code = cM_L_law) (hml : c.maxLocals = 8) (hown : s.vm.findClass "NoteDocumentLaw" = some m.cls) (hbg : ∀ w ∈ BIG, w.before #[Value.ref b] s = true) (hK : nK (dC, dI) s) (hN : nS A s s.heap) (hA : ∀ q : Nat, s.heap.size ≤ q → A q) (hX : va_X b L xs s s.heap) (hbl : b < s.heap.size) (hbA : ¬ A b) {H : Heap} {locs : List Loc} {ls : Array Slot} {h0 : Nat} {m0 : Nat} {ou : Nat} {st : Nat} {no : Nat} {v2 : Value} {v3 : Value} {v4 : Value} {v5 : Value} {v6 : Value} {v7 : Value} {v8 : Value} {v9 : Value} {v10 : Value} {an_kind : Nat} {an_of : Nat} {an_first : Nat} {an_second : Nat} {an_third : Nat} {an_weight : Nat} {an_number : Nat} {gn_kind : Nat → Int32} {gn_of : Nat → Int32} {gn_first : Nat → Int32} {gn_second : Nat → Int32} {gn_third : Nat → Int32} {gn_weight : Nat → Int32} {gn_number : Nat → Int64} {a_columns : Nat} {a_rows : Nat} {a_content : Nat} {a_held : Nat} {a_other : Nat} {a_named : Nat} {a_body : Nat} {a_parts : Nat} {a_partCount : Nat} {a_refRow : Nat} {a_refColumn : Nat} {a_refToRow : Nat} {a_torn : Nat} {a_record : Nat} {f0 : Nat → Int64} {nw : Nat} {z1 : Value} {z2 : Value} {z3 : Value} {z4 : Value} {z5 : Value} {bm_kinds : Nat} {bm_signs : Nat} {bm_figures : Nat} {bm_ones : Nat} {bm_others : Nat} {bm_thirds : Nat} {bm_weights : Nat} {z13 : Value} {z14 : Value} {z15 : Value} {z16 : Value} {fm_kinds : Nat → Int32} {fm_signs : Nat → Int32} {fm_figures : Nat → Int64} {fm_ones : Nat → Int32} {fm_others : Nat → Int32} {fm_thirds : Nat → Int32} {fm_weights : Nat → Int32} {t0 : Value} {t1 : Value} {t3 : Value} {t4 : Value} {t5 : Value} {t6 : Value} {t7 : Value} {t8 : Value} {t9 : Value} {t10 : Value} {t12 : Value} {t13 : Value} {t14 : Value} {t15 : Value} {t16 : Value} {t17 : Value} {t18 : Value} {t20 : Value} {b_torn : Nat} {f_torn : Nat → Int32} (hP : va_P (dC, dI) classes [(h0, .inr (0, [.ref st, .ref no, v2, v3, v4, v5, v6, v7, v8, v9, v10])), (no, .inr (6, [.ref st, .ref an_kind, .ref an_of, .ref an_first, .ref an_second, .ref an_third, .ref an_weight, .ref an_number])), (an_kind, .inl (dC 100, 150, .inl gn_kind)), (an_of, .inl (dC 100, 150, .inl gn_of)), (an_first, .inl (dC 100, 150, .inl gn_first)), (an_second, .inl (dC 100, 150, .inl gn_second)), (an_third, .inl (dC 100, 150, .inl gn_third)), (an_weight, .inl (dC 100, 150, .inl gn_weight)), (an_number, .inl (dC 101, 150, .inr (.inl gn_number))), (st, .inr (8, [.int 0, .int 0, .int 0, .ref a_columns, .ref a_rows, .ref a_content, .ref a_held, .ref a_other, .ref a_named, .ref a_body, .ref a_parts, .ref a_partCount, .ref a_refRow, .ref a_refColumn, .ref a_refToRow, .ref a_torn, .ref a_record, .int 0, .int 0, .int 0])), (ou, .inl (dC 101, 1, .inr (.inl f0))), (m0, .inr (10, [.ref nw, z1, z2, z3, z4, z5, .ref bm_kinds, .ref bm_signs, .ref bm_figures, .ref bm_ones, .ref bm_others, .ref bm_thirds, .ref bm_weights, z13, z14, z15, z16])), (bm_kinds, .inl (dC 100, 150, .inl fm_kinds)), (bm_signs, .inl (dC 100, 150, .inl fm_signs)), (bm_figures, .inl (dC 101, 150, .inr (.inl fm_figures))), (bm_ones, .inl (dC 100, 150, .inl fm_ones)), (bm_others, .inl (dC 100, 150, .inl fm_others)), (bm_thirds, .inl (dC 100, 150, .inl fm_thirds)), (bm_weights, .inl (dC 100, 150, .inl fm_weights)), (nw, .inr (12, [t0, t1, .int 0, t3, t4, t5, t6, t7, t8, t9, t10, .int 0, t12, t13, t14, t15, t16, t17, t18, .int 0, t20, .ref b_torn])), (b_torn, .inl (dC 102, 150, .inl f_torn))] H) (hD : va_D A [(h0, .inr (0, [.ref st, .ref no, v2, v3, v4, v5, v6, v7, v8, v9, v10])), (no, .inr (6, [.ref st, .ref an_kind, .ref an_of, .ref an_first, .ref an_second, .ref an_third, .ref an_weight, .ref an_number])), (an_kind, .inl (dC 100, 150, .inl gn_kind)), (an_of, .inl (dC 100, 150, .inl gn_of)), (an_first, .inl (dC 100, 150, .inl gn_first)), (an_second, .inl (dC 100, 150, .inl gn_second)), (an_third, .inl (dC 100, 150, .inl gn_third)), (an_weight, .inl (dC 100, 150, .inl gn_weight)), (an_number, .inl (dC 101, 150, .inr (.inl gn_number))), (st, .inr (8, [.int 0, .int 0, .int 0, .ref a_columns, .ref a_rows, .ref a_content, .ref a_held, .ref a_other, .ref a_named, .ref a_body, .ref a_parts, .ref a_partCount, .ref a_refRow, .ref a_refColumn, .ref a_refToRow, .ref a_torn, .ref a_record, .int 0, .int 0, .int 0])), (ou, .inl (dC 101, 1, .inr (.inl f0))), (m0, .inr (10, [.ref nw, z1, z2, z3, z4, z5, .ref bm_kinds, .ref bm_signs, .ref bm_figures, .ref bm_ones, .ref bm_others, .ref bm_thirds, .ref bm_weights, z13, z14, z15, z16])), (bm_kinds, .inl (dC 100, 150, .inl fm_kinds)), (bm_signs, .inl (dC 100, 150, .inl fm_signs)), (bm_figures, .inl (dC 101, 150, .inr (.inl fm_figures))), (bm_ones, .inl (dC 100, 150, .inl fm_ones)), (bm_others, .inl (dC 100, 150, .inl fm_others)), (bm_thirds, .inl (dC 100, 150, .inl fm_thirds)), (bm_weights, .inl (dC 100, 150, .inl fm_weights)), (nw, .inr (12, [t0, t1, .int 0, t3, t4, t5, t6, t7, t8, t9, t10, .int 0, t12, t13, t14, t15, t16, t17, t18, .int 0, t20, .ref b_torn])), (b_torn, .inl (dC 102, 150, .inl f_torn))]) (hS : va_S A s.heap H locs) (hl : lv_has ls 8 [(0, .ref b), (1, .ref h0), (2, .ref m0), (3, .ref ou), (4, .int 0)]) (hend : ∀ (H : Heap) (locs : List Loc) (ls : Array Slot), va_S A s.heap H locs → lv_has ls 8 [(4, .int 0), (0, .ref b)] → W p l e room_1 s m #[Value.ref b] below meth c H locs 600002 7302232 Z (F0 m 3410 ls [])) : W p l e room_1 s m #[Value.ref b] below meth c H locs 403 120029 Z (F0 m 1095 ls []) := by
  subst hL
  refine lv_aload_n hx hb dM_L_law_1095 rfl (lv_at hl 1 rfl) ?_
  refine lv_aload_n hx hb dM_L_law_1096 rfl (lv_at hl 0 rfl) ?_
  refine lv_iload hx hb dM_L_law_1097 (lv_at hl 4 rfl) ?_
  refine lv_iconst (v := 1) hx hb dM_L_law_1099 (by decide) ?_
  refine lv_iadd hx hb dM_L_law_1100 ?_
  refine lv_topi (fun y_1 ey_1 => ?_)
  obtain rfl : y_1 = 1 := ey_1.trans (by decide)
  refine va_sld hx hb hX hbl hbA hS (by unfold vp_in; decide) dM_L_law_1101 ?_
  refine lv_topi (fun y_2 ey_2 => ?_)
  refine lv_aload_n hx hb dM_L_law_1102 rfl (lv_at hl 0 rfl) ?_
  refine lv_iload hx hb dM_L_law_1103 (lv_at hl 4 rfl) ?_
  refine lv_iconst (v := 2) hx hb dM_L_law_1105 (by decide) ?_
  refine lv_iadd hx hb dM_L_law_1106 ?_
  refine lv_topi (fun y_3 ey_3 => ?_)
  obtain rfl : y_3 = 2 := ey_3.trans (by decide)
  refine va_sld hx hb hX hbl hbA hS (by unfold vp_in; decide) dM_L_law_1107 ?_
  refine lv_topi (fun y_4 ey_4 => ?_)
  refine lv_aload_n hx hb dM_L_law_1108 rfl (lv_at hl 3 rfl) ?_
  have hFc := va_free (wc := [(h0, .inr (0, [.ref st, .ref no, v2, v3, v4, v5, v6, v7, v8, v9, v10])), (no, .inr (6, [.ref st, .ref an_kind, .ref an_of, .ref an_first, .ref an_second, .ref an_third, .ref an_weight, .ref an_number])), (an_kind, .inl (dC 100, 150, .inl gn_kind)), (an_of, .inl (dC 100, 150, .inl gn_of)), (an_first, .inl (dC 100, 150, .inl gn_first)), (an_second, .inl (dC 100, 150, .inl gn_second)), (an_third, .inl (dC 100, 150, .inl gn_third)), (an_weight, .inl (dC 100, 150, .inl gn_weight)), (an_number, .inl (dC 101, 150, .inr (.inl gn_number))), (st, .inr (8, [.int 0, .int 0, .int 0, .ref a_columns, .ref a_rows, .ref a_content, .ref a_held, .ref a_other, .ref a_named, .ref a_body, .ref a_parts, .ref a_partCount, .ref a_refRow, .ref a_refColumn, .ref a_refToRow, .ref a_torn, .ref a_record, .int 0, .int 0, .int 0])), (ou, .inl (dC 101, 1, .inr (.inl f0)))]) hD hS hA [0, 1, 2, 3, 4, 5, 6, 7, 8, 9, 10] rfl
  refine va_calli (vx_runSW (As := [.ref h0, .int y_2, .int y_4, .ref ou]) (rest := []) ⟨hx, hb, hml, hown, hbg⟩ (c_L_leaf l hl9 dC dI h0 y_2 y_4 ou st no v2 v3 v4 v5 v6 v7 v8 v9 v10 an_kind an_of an_first an_second an_third an_weight an_number gn_kind gn_of gn_first gn_second gn_third gn_weight gn_number a_columns a_rows a_content a_held a_other a_named a_body a_parts a_partCount a_refRow a_refColumn a_refToRow a_torn a_record f0 _ ) (vx_cwSW 4 hbg (gd_S (fun _ h => h) wd_1267 wd_1268 wd_0 (gd_wmW (fun _ h => h) wd_1269)) rfl rfl rfl (by decide +kernel) ⟨Nat.le_of_ble_eq_true rfl, Nat.le_of_ble_eq_true rfl⟩) (nPreS [0, 1, 2, 3, 4, 5, 6, 7, 8, 9, 10] hP hD hK hN hS hA (by decide) rfl) rfl rfl hl.1 rfl (lv_room (Nat.le_of_ble_eq_true rfl)) dM_L_law_1109 ⟨Nat.le_of_ble_eq_true rfl, Nat.le_of_ble_eq_true rfl⟩) hS (fun q _ h => hFc q h) hFc (fun r_5 u t H1 locs ht hvm hw hB hz1 hk1 hS => ?_)
  rcases hw with ⟨c_6, rfl, rfl⟩ | ⟨c_7, rfl, hu_8⟩
  · --
    obtain ⟨hP1, hD1⟩ := hB
    rw [ht] at hP1
    obtain ⟨hP, hD⟩ := va_join (wr := [(m0, .inr (10, [.ref nw, z1, z2, z3, z4, z5, .ref bm_kinds, .ref bm_signs, .ref bm_figures, .ref bm_ones, .ref bm_others, .ref bm_thirds, .ref bm_weights, z13, z14, z15, z16])), (bm_kinds, .inl (dC 100, 150, .inl fm_kinds)), (bm_signs, .inl (dC 100, 150, .inl fm_signs)), (bm_figures, .inl (dC 101, 150, .inr (.inl fm_figures))), (bm_ones, .inl (dC 100, 150, .inl fm_ones)), (bm_others, .inl (dC 100, 150, .inl fm_others)), (bm_thirds, .inl (dC 100, 150, .inl fm_thirds)), (bm_weights, .inl (dC 100, 150, .inl fm_weights)), (nw, .inr (12, [t0, t1, .int 0, t3, t4, t5, t6, t7, t8, t9, t10, .int 0, t12, t13, t14, t15, t16, t17, t18, .int 0, t20, .ref b_torn])), (b_torn, .inl (dC 102, 150, .inl f_torn))]) (w1 := [(ou, .inl (dC 101, 1, .inr (.inl (vp_updL f0 (0 : Int32).toNatClampNeg 0))))]) hP hD [0, 1, 2, 3, 4, 5, 6, 7, 8, 9, 10] [11, 12, 13, 14, 15, 16, 17, 18, 19, 20] rfl rfl (by decide) (by decide) hk1 hFc hP1 hD1
    generalize H1 = H at hP hS ⊢
    have hP : va_P (dC, dI) classes [(m0, .inr (10, [.ref nw, z1, z2, z3, z4, z5, .ref bm_kinds, .ref bm_signs, .ref bm_figures, .ref bm_ones, .ref bm_others, .ref bm_thirds, .ref bm_weights, z13, z14, z15, z16])), (bm_kinds, .inl (dC 100, 150, .inl fm_kinds)), (bm_signs, .inl (dC 100, 150, .inl fm_signs)), (bm_figures, .inl (dC 101, 150, .inr (.inl fm_figures))), (bm_ones, .inl (dC 100, 150, .inl fm_ones)), (bm_others, .inl (dC 100, 150, .inl fm_others)), (bm_thirds, .inl (dC 100, 150, .inl fm_thirds)), (bm_weights, .inl (dC 100, 150, .inl fm_weights)), (nw, .inr (12, [t0, t1, .int 0, t3, t4, t5, t6, t7, t8, t9, t10, .int 0, t12, t13, t14, t15, t16, t17, t18, .int 0, t20, .ref b_torn])), (b_torn, .inl (dC 102, 150, .inl f_torn)), (ou, .inl (dC 101, 1, .inr (.inl (vp_updL f0 (0 : Int32).toNatClampNeg 0))))] H := hP
    have hD : va_D A [(m0, .inr (10, [.ref nw, z1, z2, z3, z4, z5, .ref bm_kinds, .ref bm_signs, .ref bm_figures, .ref bm_ones, .ref bm_others, .ref bm_thirds, .ref bm_weights, z13, z14, z15, z16])), (bm_kinds, .inl (dC 100, 150, .inl fm_kinds)), (bm_signs, .inl (dC 100, 150, .inl fm_signs)), (bm_figures, .inl (dC 101, 150, .inr (.inl fm_figures))), (bm_ones, .inl (dC 100, 150, .inl fm_ones)), (bm_others, .inl (dC 100, 150, .inl fm_others)), (bm_thirds, .inl (dC 100, 150, .inl fm_thirds)), (bm_weights, .inl (dC 100, 150, .inl fm_weights)), (nw, .inr (12, [t0, t1, .int 0, t3, t4, t5, t6, t7, t8, t9, t10, .int 0, t12, t13, t14, t15, t16, t17, t18, .int 0, t20, .ref b_torn])), (b_torn, .inl (dC 102, 150, .inl f_torn)), (ou, .inl (dC 101, 1, .inr (.inl (vp_updL f0 (0 : Int32).toNatClampNeg 0))))] := hD
    refine W.widen (k := 404) (n := 120035) (Nat.le_of_ble_eq_true rfl) (Nat.le_of_ble_eq_true rfl) ?_
    refine lv_istore (lv' := [(5, .int 0), (0, .ref b), (1, .ref h0), (2, .ref m0), (3, .ref ou), (4, .int 0)]) hx hb dM_L_law_1112 hl (by decide) rfl (fun ls hl => ?_)
    refine lv_aload_n hx hb dM_L_law_1114 rfl (lv_at hl 3 rfl) ?_
    refine lv_aload_n hx hb dM_L_law_1115 rfl (lv_at hl 1 rfl) ?_
    refine lv_iload hx hb dM_L_law_1116 (lv_at hl 5 rfl) ?_
    refine lv_iconst (v := 1) hx hb dM_L_law_1118 (by decide) ?_
    refine lv_iadd hx hb dM_L_law_1119 ?_
    refine lv_topi (fun y_9 ey_9 => ?_)
    obtain rfl : y_9 = 1 := ey_9.trans (by decide)
    refine va_sld hx hb hX hbl hbA hS (by unfold vp_in; decide) dM_L_law_1120 ?_
    refine lv_topi (fun y_10 ey_10 => ?_)
    obtain rfl : y_2 = y_10 := ey_2.trans ey_10.symm
    refine lv_aload_n hx hb dM_L_law_1121 rfl (lv_at hl 1 rfl) ?_
    refine lv_iload hx hb dM_L_law_1122 (lv_at hl 5 rfl) ?_
    refine lv_iconst (v := 2) hx hb dM_L_law_1124 (by decide) ?_
    refine lv_iadd hx hb dM_L_law_1125 ?_
    refine lv_topi (fun y_11 ey_11 => ?_)
    obtain rfl : y_11 = 2 := ey_11.trans (by decide)
    refine va_sld hx hb hX hbl hbA hS (by unfold vp_in; decide) dM_L_law_1126 ?_
    refine lv_topi (fun y_12 ey_12 => ?_)
    obtain rfl : y_4 = y_12 := ey_4.trans ey_12.symm
    have hFc := va_free (wc := [(m0, .inr (10, [.ref nw, z1, z2, z3, z4, z5, .ref bm_kinds, .ref bm_signs, .ref bm_figures, .ref bm_ones, .ref bm_others, .ref bm_thirds, .ref bm_weights, z13, z14, z15, z16])), (bm_kinds, .inl (dC 100, 150, .inl fm_kinds)), (bm_signs, .inl (dC 100, 150, .inl fm_signs)), (bm_figures, .inl (dC 101, 150, .inr (.inl fm_figures))), (bm_ones, .inl (dC 100, 150, .inl fm_ones)), (bm_others, .inl (dC 100, 150, .inl fm_others)), (bm_thirds, .inl (dC 100, 150, .inl fm_thirds)), (bm_weights, .inl (dC 100, 150, .inl fm_weights)), (nw, .inr (12, [t0, t1, .int 0, t3, t4, t5, t6, t7, t8, t9, t10, .int 0, t12, t13, t14, t15, t16, t17, t18, .int 0, t20, .ref b_torn])), (b_torn, .inl (dC 102, 150, .inl f_torn))]) hD hS hA [0, 1, 2, 3, 4, 5, 6, 7, 8, 9] rfl
    refine va_calli (va_runV (As := [.int y_2, .int y_4]) (rest := []) ⟨hx, hb, hml, hown, hbg⟩ (c_M_leaf l dC dI m0 y_2 y_4 nw z1 z2 z3 z4 z5 bm_kinds bm_signs bm_figures bm_ones bm_others bm_thirds bm_weights z13 z14 z15 z16 fm_kinds fm_signs fm_figures fm_ones fm_others fm_thirds fm_weights t0 t1 t3 t4 t5 t6 t7 t8 t9 t10 t12 t13 t14 t15 t16 t17 t18 t20 b_torn f_torn _ ) (cwV 2 hbg (gd_V (fun _ h => h) wd_2620 wd_2621 wd_2622 wd_12 (gd_wm (fun _ h => h) wd_2623)) rfl rfl rfl (by decide +kernel) ⟨Nat.le_of_ble_eq_true rfl, Nat.le_of_ble_eq_true rfl⟩) (nPreV [0, 1, 2, 3, 4, 5, 6, 7, 8, 9] hP hD hK hN hS hA (by decide) rfl 0 rfl rfl) rfl rfl hl.1 rfl (lv_room (Nat.le_of_ble_eq_true rfl)) dM_L_law_1127 ⟨Nat.le_of_ble_eq_true rfl, Nat.le_of_ble_eq_true rfl⟩) hS (fun q _ h => hFc q h) hFc (fun r_13 u t H1 locs ht hvm hw hB hz1 hk1 hS => ?_)
    rcases hw with ⟨c_14, rfl, rfl⟩ | ⟨c_15, rfl, rfl⟩
    · --
      obtain ⟨r0_16, r1_17, r2_18, r3_19, r4_20, r5_21, r6_22, r7_23, r8_24, r9_25, r10_26, r11_27, r12_28, r13_29, r14_30, r15_31, hP1, hD1⟩ := hB
      rw [ht] at hP1
      obtain ⟨hP, hD⟩ := va_join (wr := [(ou, .inl (dC 101, 1, .inr (.inl (vp_updL f0 (0 : Int32).toNatClampNeg 0))))]) (w1 := [(m0, .inr (10, [r0_16, r1_17, r2_18, r3_19, r4_20, r5_21, r6_22, r7_23, r8_24, r9_25, r10_26, r11_27, r12_28, r13_29, r14_30, r15_31, .int 0]))]) hP hD [0, 1, 2, 3, 4, 5, 6, 7, 8, 9] [10] rfl rfl (by decide) (by decide) hk1 hFc hP1 hD1
      generalize H1 = H at hP hS ⊢
      have hP : va_P (dC, dI) classes [(ou, .inl (dC 101, 1, .inr (.inl (vp_updL f0 (0 : Int32).toNatClampNeg 0)))), (m0, .inr (10, [r0_16, r1_17, r2_18, r3_19, r4_20, r5_21, r6_22, r7_23, r8_24, r9_25, r10_26, r11_27, r12_28, r13_29, r14_30, r15_31, .int 0]))] H := hP
      have hD : va_D A [(ou, .inl (dC 101, 1, .inr (.inl (vp_updL f0 (0 : Int32).toNatClampNeg 0)))), (m0, .inr (10, [r0_16, r1_17, r2_18, r3_19, r4_20, r5_21, r6_22, r7_23, r8_24, r9_25, r10_26, r11_27, r12_28, r13_29, r14_30, r15_31, .int 0]))] := hD
      refine W.widen (k := 404) (n := 120035) (Nat.le_of_ble_eq_true rfl) (Nat.le_of_ble_eq_true rfl) ?_
      refine lv_istore (lv' := [(6, .int 0), (5, .int 0), (0, .ref b), (1, .ref h0), (2, .ref m0), (3, .ref ou), (4, .int 0)]) hx hb dM_L_law_1130 hl (by decide) rfl (fun ls hl => ?_)
      refine lv_aload_n hx hb dM_L_law_1132 rfl (lv_at hl 4 rfl) ?_
      have hFc := va_free (wc := [(m0, .inr (10, [r0_16, r1_17, r2_18, r3_19, r4_20, r5_21, r6_22, r7_23, r8_24, r9_25, r10_26, r11_27, r12_28, r13_29, r14_30, r15_31, .int 0]))]) hD hS hA [1] rfl
      refine va_calli (va_runV (As := []) (rest := []) ⟨hx, hb, hml, hown, hbg⟩ (c_M_thrown l dC dI m0 r0_16 r1_17 r2_18 r3_19 r4_20 r5_21 r6_22 r7_23 r8_24 r9_25 r10_26 r11_27 r12_28 r13_29 r14_30 r15_31 0 _ ) (cwV 0 hbg (gd_V (fun _ h => h) wd_2190 wd_2191 wd_2192 wd_12 (gd_wm (fun _ h => h) wd_2193)) rfl rfl rfl (by decide +kernel) ⟨Nat.le_of_ble_eq_true rfl, Nat.le_of_ble_eq_true rfl⟩) (nPreV [1] hP hD hK hN hS hA (by decide) rfl 1 rfl rfl) rfl rfl hl.1 rfl (lv_room (Nat.le_of_ble_eq_true rfl)) dM_L_law_1133 ⟨Nat.le_of_ble_eq_true rfl, Nat.le_of_ble_eq_true rfl⟩) hS (fun q _ h => hFc q h) hFc (fun r_32 u t H1 locs ht hvm hw hB hz1 hk1 hS => ?_)
      obtain ⟨rfl, rfl⟩ := hw
      obtain ⟨r0_34, r1_35, r2_36, r3_37, r4_38, r5_39, r6_40, r7_41, r8_42, r9_43, r10_44, r11_45, r12_46, r13_47, r14_48, r15_49, hP1, hD1⟩ := hB
      rw [ht] at hP1
      obtain ⟨hP, hD⟩ := va_join (wr := [(ou, .inl (dC 101, 1, .inr (.inl (vp_updL f0 (0 : Int32).toNatClampNeg 0))))]) (w1 := [(m0, .inr (10, [r0_34, r1_35, r2_36, r3_37, r4_38, r5_39, r6_40, r7_41, r8_42, r9_43, r10_44, r11_45, r12_46, r13_47, r14_48, r15_49, .int 0]))]) hP hD [1] [0] rfl rfl (by decide) (by decide) hk1 hFc hP1 hD1
      generalize H1 = H at hP hS ⊢
      have hP : va_P (dC, dI) classes [(ou, .inl (dC 101, 1, .inr (.inl (vp_updL f0 (0 : Int32).toNatClampNeg 0)))), (m0, .inr (10, [r0_34, r1_35, r2_36, r3_37, r4_38, r5_39, r6_40, r7_41, r8_42, r9_43, r10_44, r11_45, r12_46, r13_47, r14_48, r15_49, .int 0]))] H := hP
      have hD : va_D A [(ou, .inl (dC 101, 1, .inr (.inl (vp_updL f0 (0 : Int32).toNatClampNeg 0)))), (m0, .inr (10, [r0_34, r1_35, r2_36, r3_37, r4_38, r5_39, r6_40, r7_41, r8_42, r9_43, r10_44, r11_45, r12_46, r13_47, r14_48, r15_49, .int 0]))] := hD
      refine W.widen (k := 404) (n := 120035) (Nat.le_of_ble_eq_true rfl) (Nat.le_of_ble_eq_true rfl) ?_
      refine lv_iload hx hb dM_L_law_1136 (lv_at hl 1 rfl) ?_
      refine lv_icmp_eq (tgt := 1143) hx hb dM_L_law_1138 (by decide) (fun _ => ?_) (fun q => absurd (by decide) q)
      refine lv_iload hx hb dM_L_law_1143 (lv_at hl 1 rfl) ?_
      refine lv_if_ne (tgt := 1160) hx hb dM_L_law_1145 (by decide) (fun q => absurd (by decide) q) (fun _ => ?_)
      refine lv_aload_n hx hb dM_L_law_1148 rfl (lv_at hl 5 rfl) ?_
      refine lv_iconst (v := 0) hx hb dM_L_law_1149 (by decide) ?_
      refine va_lald hx hb hK.1 hP 0 1 rfl rfl (by unfold vp_in; decide) dM_L_law_1150 ?_
      rw [pk_uLs]
      refine lv_iload hx hb dM_L_law_1151 (lv_at hl 0 rfl) ?_
      refine lv_i2l (v := 0) hx hb dM_L_law_1153 (by decide) ?_
      refine W.lcmp hx hb dM_L_law_1154 ?_
      refine lv_topi (fun y_50 ey_50 => ?_)
      obtain rfl : y_50 = 0 := ey_50.trans (by decide)
      refine lv_if_eq (tgt := 1160) hx hb dM_L_law_1155 (by decide) (fun _ => ?_) (fun q => absurd (by decide) q)
      refine lv_goto (tgt := 3410) hx hb dM_L_law_1160 (by decide) ?_
      refine W.widen (k := 600002) (n := 7302232) (Nat.le_of_ble_eq_true rfl) (Nat.le_of_ble_eq_true rfl) ?_
      exact hend _ _ _ hS (lv_sub hl [6, 2] rfl)
    · --
      exact absurd c_6 c_15
  · --
    obtain rfl := hu_8.symm
    obtain ⟨hP1, hD1⟩ := hB
    rw [ht] at hP1
    obtain ⟨hP, hD⟩ := va_join (wr := [(m0, .inr (10, [.ref nw, z1, z2, z3, z4, z5, .ref bm_kinds, .ref bm_signs, .ref bm_figures, .ref bm_ones, .ref bm_others, .ref bm_thirds, .ref bm_weights, z13, z14, z15, z16])), (bm_kinds, .inl (dC 100, 150, .inl fm_kinds)), (bm_signs, .inl (dC 100, 150, .inl fm_signs)), (bm_figures, .inl (dC 101, 150, .inr (.inl fm_figures))), (bm_ones, .inl (dC 100, 150, .inl fm_ones)), (bm_others, .inl (dC 100, 150, .inl fm_others)), (bm_thirds, .inl (dC 100, 150, .inl fm_thirds)), (bm_weights, .inl (dC 100, 150, .inl fm_weights)), (nw, .inr (12, [t0, t1, .int 0, t3, t4, t5, t6, t7, t8, t9, t10, .int 0, t12, t13, t14, t15, t16, t17, t18, .int 0, t20, .ref b_torn])), (b_torn, .inl (dC 102, 150, .inl f_torn))]) (w1 := [(ou, .inl (dC 101, 1, .inr (.inl f0)))]) hP hD [0, 1, 2, 3, 4, 5, 6, 7, 8, 9, 10] [11, 12, 13, 14, 15, 16, 17, 18, 19, 20] rfl rfl (by decide) (by decide) hk1 hFc hP1 hD1
    generalize H1 = H at hP hS ⊢
    have hP : va_P (dC, dI) classes [(m0, .inr (10, [.ref nw, z1, z2, z3, z4, z5, .ref bm_kinds, .ref bm_signs, .ref bm_figures, .ref bm_ones, .ref bm_others, .ref bm_thirds, .ref bm_weights, z13, z14, z15, z16])), (bm_kinds, .inl (dC 100, 150, .inl fm_kinds)), (bm_signs, .inl (dC 100, 150, .inl fm_signs)), (bm_figures, .inl (dC 101, 150, .inr (.inl fm_figures))), (bm_ones, .inl (dC 100, 150, .inl fm_ones)), (bm_others, .inl (dC 100, 150, .inl fm_others)), (bm_thirds, .inl (dC 100, 150, .inl fm_thirds)), (bm_weights, .inl (dC 100, 150, .inl fm_weights)), (nw, .inr (12, [t0, t1, .int 0, t3, t4, t5, t6, t7, t8, t9, t10, .int 0, t12, t13, t14, t15, t16, t17, t18, .int 0, t20, .ref b_torn])), (b_torn, .inl (dC 102, 150, .inl f_torn)), (ou, .inl (dC 101, 1, .inr (.inl f0)))] H := hP
    have hD : va_D A [(m0, .inr (10, [.ref nw, z1, z2, z3, z4, z5, .ref bm_kinds, .ref bm_signs, .ref bm_figures, .ref bm_ones, .ref bm_others, .ref bm_thirds, .ref bm_weights, z13, z14, z15, z16])), (bm_kinds, .inl (dC 100, 150, .inl fm_kinds)), (bm_signs, .inl (dC 100, 150, .inl fm_signs)), (bm_figures, .inl (dC 101, 150, .inr (.inl fm_figures))), (bm_ones, .inl (dC 100, 150, .inl fm_ones)), (bm_others, .inl (dC 100, 150, .inl fm_others)), (bm_thirds, .inl (dC 100, 150, .inl fm_thirds)), (bm_weights, .inl (dC 100, 150, .inl fm_weights)), (nw, .inr (12, [t0, t1, .int 0, t3, t4, t5, t6, t7, t8, t9, t10, .int 0, t12, t13, t14, t15, t16, t17, t18, .int 0, t20, .ref b_torn])), (b_torn, .inl (dC 102, 150, .inl f_torn)), (ou, .inl (dC 101, 1, .inr (.inl f0)))] := hD
    refine W.widen (k := 404) (n := 120035) (Nat.le_of_ble_eq_true rfl) (Nat.le_of_ble_eq_true rfl) ?_
    refine lv_istore (lv' := [(5, .int 1), (0, .ref b), (1, .ref h0), (2, .ref m0), (3, .ref ou), (4, .int 0)]) hx hb dM_L_law_1112 hl (by decide) rfl (fun ls hl => ?_)
    refine lv_aload_n hx hb dM_L_law_1114 rfl (lv_at hl 3 rfl) ?_
    refine lv_aload_n hx hb dM_L_law_1115 rfl (lv_at hl 1 rfl) ?_
    refine lv_iload hx hb dM_L_law_1116 (lv_at hl 5 rfl) ?_
    refine lv_iconst (v := 1) hx hb dM_L_law_1118 (by decide) ?_
    refine lv_iadd hx hb dM_L_law_1119 ?_
    refine lv_topi (fun y_51 ey_51 => ?_)
    obtain rfl : y_51 = 1 := ey_51.trans (by decide)
    refine va_sld hx hb hX hbl hbA hS (by unfold vp_in; decide) dM_L_law_1120 ?_
    refine lv_topi (fun y_52 ey_52 => ?_)
    obtain rfl : y_2 = y_52 := ey_2.trans ey_52.symm
    refine lv_aload_n hx hb dM_L_law_1121 rfl (lv_at hl 1 rfl) ?_
    refine lv_iload hx hb dM_L_law_1122 (lv_at hl 5 rfl) ?_
    refine lv_iconst (v := 2) hx hb dM_L_law_1124 (by decide) ?_
    refine lv_iadd hx hb dM_L_law_1125 ?_
    refine lv_topi (fun y_53 ey_53 => ?_)
    obtain rfl : y_53 = 2 := ey_53.trans (by decide)
    refine va_sld hx hb hX hbl hbA hS (by unfold vp_in; decide) dM_L_law_1126 ?_
    refine lv_topi (fun y_54 ey_54 => ?_)
    obtain rfl : y_4 = y_54 := ey_4.trans ey_54.symm
    have hFc := va_free (wc := [(m0, .inr (10, [.ref nw, z1, z2, z3, z4, z5, .ref bm_kinds, .ref bm_signs, .ref bm_figures, .ref bm_ones, .ref bm_others, .ref bm_thirds, .ref bm_weights, z13, z14, z15, z16])), (bm_kinds, .inl (dC 100, 150, .inl fm_kinds)), (bm_signs, .inl (dC 100, 150, .inl fm_signs)), (bm_figures, .inl (dC 101, 150, .inr (.inl fm_figures))), (bm_ones, .inl (dC 100, 150, .inl fm_ones)), (bm_others, .inl (dC 100, 150, .inl fm_others)), (bm_thirds, .inl (dC 100, 150, .inl fm_thirds)), (bm_weights, .inl (dC 100, 150, .inl fm_weights)), (nw, .inr (12, [t0, t1, .int 0, t3, t4, t5, t6, t7, t8, t9, t10, .int 0, t12, t13, t14, t15, t16, t17, t18, .int 0, t20, .ref b_torn])), (b_torn, .inl (dC 102, 150, .inl f_torn))]) hD hS hA [0, 1, 2, 3, 4, 5, 6, 7, 8, 9] rfl
    refine va_calli (va_runV (As := [.int y_2, .int y_4]) (rest := []) ⟨hx, hb, hml, hown, hbg⟩ (c_M_leaf l dC dI m0 y_2 y_4 nw z1 z2 z3 z4 z5 bm_kinds bm_signs bm_figures bm_ones bm_others bm_thirds bm_weights z13 z14 z15 z16 fm_kinds fm_signs fm_figures fm_ones fm_others fm_thirds fm_weights t0 t1 t3 t4 t5 t6 t7 t8 t9 t10 t12 t13 t14 t15 t16 t17 t18 t20 b_torn f_torn _ ) (cwV 2 hbg (gd_V (fun _ h => h) wd_2620 wd_2621 wd_2622 wd_12 (gd_wm (fun _ h => h) wd_2623)) rfl rfl rfl (by decide +kernel) ⟨Nat.le_of_ble_eq_true rfl, Nat.le_of_ble_eq_true rfl⟩) (nPreV [0, 1, 2, 3, 4, 5, 6, 7, 8, 9] hP hD hK hN hS hA (by decide) rfl 0 rfl rfl) rfl rfl hl.1 rfl (lv_room (Nat.le_of_ble_eq_true rfl)) dM_L_law_1127 ⟨Nat.le_of_ble_eq_true rfl, Nat.le_of_ble_eq_true rfl⟩) hS (fun q _ h => hFc q h) hFc (fun r_55 u t H1 locs ht hvm hw hB hz1 hk1 hS => ?_)
    rcases hw with ⟨c_56, rfl, rfl⟩ | ⟨c_57, rfl, rfl⟩
    · --
      exact absurd c_56 c_7
    · --
      obtain ⟨r0_58, r1_59, r2_60, r3_61, r4_62, r5_63, r6_64, r7_65, r8_66, r9_67, r10_68, r11_69, r12_70, r13_71, r14_72, r15_73, hP1, hD1⟩ := hB
      rw [ht] at hP1
      obtain ⟨hP, hD⟩ := va_join (wr := [(ou, .inl (dC 101, 1, .inr (.inl f0)))]) (w1 := [(m0, .inr (10, [r0_58, r1_59, r2_60, r3_61, r4_62, r5_63, r6_64, r7_65, r8_66, r9_67, r10_68, r11_69, r12_70, r13_71, r14_72, r15_73, .int 1]))]) hP hD [0, 1, 2, 3, 4, 5, 6, 7, 8, 9] [10] rfl rfl (by decide) (by decide) hk1 hFc hP1 hD1
      generalize H1 = H at hP hS ⊢
      have hP : va_P (dC, dI) classes [(ou, .inl (dC 101, 1, .inr (.inl f0))), (m0, .inr (10, [r0_58, r1_59, r2_60, r3_61, r4_62, r5_63, r6_64, r7_65, r8_66, r9_67, r10_68, r11_69, r12_70, r13_71, r14_72, r15_73, .int 1]))] H := hP
      have hD : va_D A [(ou, .inl (dC 101, 1, .inr (.inl f0))), (m0, .inr (10, [r0_58, r1_59, r2_60, r3_61, r4_62, r5_63, r6_64, r7_65, r8_66, r9_67, r10_68, r11_69, r12_70, r13_71, r14_72, r15_73, .int 1]))] := hD
      refine W.widen (k := 404) (n := 120035) (Nat.le_of_ble_eq_true rfl) (Nat.le_of_ble_eq_true rfl) ?_
      refine lv_istore (lv' := [(6, .int 0), (5, .int 1), (0, .ref b), (1, .ref h0), (2, .ref m0), (3, .ref ou), (4, .int 0)]) hx hb dM_L_law_1130 hl (by decide) rfl (fun ls hl => ?_)
      refine lv_aload_n hx hb dM_L_law_1132 rfl (lv_at hl 4 rfl) ?_
      have hFc := va_free (wc := [(m0, .inr (10, [r0_58, r1_59, r2_60, r3_61, r4_62, r5_63, r6_64, r7_65, r8_66, r9_67, r10_68, r11_69, r12_70, r13_71, r14_72, r15_73, .int 1]))]) hD hS hA [1] rfl
      refine va_calli (va_runV (As := []) (rest := []) ⟨hx, hb, hml, hown, hbg⟩ (c_M_thrown l dC dI m0 r0_58 r1_59 r2_60 r3_61 r4_62 r5_63 r6_64 r7_65 r8_66 r9_67 r10_68 r11_69 r12_70 r13_71 r14_72 r15_73 1 _ ) (cwV 0 hbg (gd_V (fun _ h => h) wd_2190 wd_2191 wd_2192 wd_12 (gd_wm (fun _ h => h) wd_2193)) rfl rfl rfl (by decide +kernel) ⟨Nat.le_of_ble_eq_true rfl, Nat.le_of_ble_eq_true rfl⟩) (nPreV [1] hP hD hK hN hS hA (by decide) rfl 1 rfl rfl) rfl rfl hl.1 rfl (lv_room (Nat.le_of_ble_eq_true rfl)) dM_L_law_1133 ⟨Nat.le_of_ble_eq_true rfl, Nat.le_of_ble_eq_true rfl⟩) hS (fun q _ h => hFc q h) hFc (fun r_74 u t H1 locs ht hvm hw hB hz1 hk1 hS => ?_)
      obtain ⟨rfl, rfl⟩ := hw
      obtain ⟨r0_76, r1_77, r2_78, r3_79, r4_80, r5_81, r6_82, r7_83, r8_84, r9_85, r10_86, r11_87, r12_88, r13_89, r14_90, r15_91, hP1, hD1⟩ := hB
      rw [ht] at hP1
      obtain ⟨hP, hD⟩ := va_join (wr := [(ou, .inl (dC 101, 1, .inr (.inl f0)))]) (w1 := [(m0, .inr (10, [r0_76, r1_77, r2_78, r3_79, r4_80, r5_81, r6_82, r7_83, r8_84, r9_85, r10_86, r11_87, r12_88, r13_89, r14_90, r15_91, .int 1]))]) hP hD [1] [0] rfl rfl (by decide) (by decide) hk1 hFc hP1 hD1
      generalize H1 = H at hP hS ⊢
      have hP : va_P (dC, dI) classes [(ou, .inl (dC 101, 1, .inr (.inl f0))), (m0, .inr (10, [r0_76, r1_77, r2_78, r3_79, r4_80, r5_81, r6_82, r7_83, r8_84, r9_85, r10_86, r11_87, r12_88, r13_89, r14_90, r15_91, .int 1]))] H := hP
      have hD : va_D A [(ou, .inl (dC 101, 1, .inr (.inl f0))), (m0, .inr (10, [r0_76, r1_77, r2_78, r3_79, r4_80, r5_81, r6_82, r7_83, r8_84, r9_85, r10_86, r11_87, r12_88, r13_89, r14_90, r15_91, .int 1]))] := hD
      refine W.widen (k := 404) (n := 120035) (Nat.le_of_ble_eq_true rfl) (Nat.le_of_ble_eq_true rfl) ?_
      refine lv_iload hx hb dM_L_law_1136 (lv_at hl 1 rfl) ?_
      refine lv_icmp_eq (tgt := 1143) hx hb dM_L_law_1138 (by decide) (fun _ => ?_) (fun q => absurd (by decide) q)
      refine lv_iload hx hb dM_L_law_1143 (lv_at hl 1 rfl) ?_
      refine lv_if_ne (tgt := 1160) hx hb dM_L_law_1145 (by decide) (fun _ => ?_) (fun q => absurd q (by decide))
      refine lv_goto (tgt := 3410) hx hb dM_L_law_1160 (by decide) ?_
      refine W.widen (k := 600002) (n := 7302232) (Nat.le_of_ble_eq_true rfl) (Nat.le_of_ble_eq_true rfl) ?_
      exact hend _ _ _ hS (lv_sub hl [6, 2] rfl)
set_option maxHeartbeats 4000000 in
set_option maxRecDepth 100000 in
theorem lawc_11 {p : Program} {e : Env} {s : State} {m : MethodId} {below : List Frame} {meth : Method} {c : Code} {Z : State → Prop} (l : Launch) (hl9 : l.stackTraces = false) (dC : Nat → ClassId) (dI : Nat → Nat → Nat) {A : Nat → Prop} {b L : Nat} {xs : Nat → Int32} (hL : L = 8) (hx : p.tables.exec = Jvm.exec) (hb : c.code = cM_L_law) (hml : c.maxLocals = 8) (hown : s.vm.findClass "NoteDocumentLaw" = some m.cls) (hbg : ∀ w ∈ BIG, w.before #[Value.ref b] s = true) (hK : nK (dC, dI) s) (hN : nS A s s.heap) (hA : ∀ q : Nat, s.heap.size ≤ q → A q) (hX : va_X b L xs s s.heap) (hbl : b < s.heap.size) (hbA : ¬ A b) {H : Heap} {locs : List Loc} {ls : Array Slot} {h0 : Nat} {m0 : Nat} {ou : Nat} {st : Nat} {v1 : Value} {v2 : Value} {v3 : Value} {v4 : Value} {v5 : Value} {v6 : Value} {v7 : Value} {v8 : Value} {v9 : Value} {v10 : Value} {w3 : Value} {w4 : Value} {w5 : Value} {w6 : Value} {w7 : Value} {w8 : Value} {w9 : Value} {w10 : Value} {w11 : Value} {w12 : Value} {w13 : Value} {w14 : Value} {w15 : Value} {w16 : Value} {w17 : Value} {w18 : Value} {w19 : Value} {f0 : Nat → Int64} {nw : Nat} {z1 : Value} {z2 : Value} {z3 : Value} {z4 : Value} {z5 : Value} {z6 : Value} {z7 : Value} {z8 : Value} {z9 : Value} {z10 : Value} {z11 : Value} {z12 : Value} {z13 : Value} {z14 : Value} {z15 : Value} {z16 : Value} {t0 : Value} {t1 : Value} {t3 : Value} {t4 : Value} {t5 : Value} {t6 : Value} {t7 : Value} {t8 : Value} {t9 : Value} {t10 : Value} {t12 : Value} {t13 : Value} {t14 : Value} {t15 : Value} {t16 : Value} {t17 : Value} {t18 : Value} {t20 : Value} {t21 : Value} (hP : va_P (dC, dI) classes [(h0, .inr (0, [.ref st, v1, v2, v3, v4, v5, v6, v7, v8, v9, v10])), (st, .inr (8, [.int 0, .int 0, .int 0, w3, w4, w5, w6, w7, w8, w9, w10, w11, w12, w13, w14, w15, w16, w17, w18, w19])), (ou, .inl (dC 101, 1, .inr (.inl f0))), (m0, .inr (10, [.ref nw, z1, z2, z3, z4, z5, z6, z7, z8, z9, z10, z11, z12, z13, z14, z15, z16])), (nw, .inr (12, [t0, t1, .int 0, t3, t4, t5, t6, t7, t8, t9, t10, .int 0, t12, t13, t14, t15, t16, t17, t18, .int 0, t20, t21]))] H) (hD : va_D A [(h0, .inr (0, [.ref st, v1, v2, v3, v4, v5, v6, v7, v8, v9, v10])), (st, .inr (8, [.int 0, .int 0, .int 0, w3, w4, w5, w6, w7, w8, w9, w10, w11, w12, w13, w14, w15, w16, w17, w18, w19])), (ou, .inl (dC 101, 1, .inr (.inl f0))), (m0, .inr (10, [.ref nw, z1, z2, z3, z4, z5, z6, z7, z8, z9, z10, z11, z12, z13, z14, z15, z16])), (nw, .inr (12, [t0, t1, .int 0, t3, t4, t5, t6, t7, t8, t9, t10, .int 0, t12, t13, t14, t15, t16, t17, t18, .int 0, t20, t21]))]) (hS : va_S A s.heap H locs) (hl : lv_has ls 8 [(0, .ref b), (1, .ref h0), (2, .ref m0), (3, .ref ou), (4, .int 0)]) (hend : ∀ (H : Heap) (locs : List Loc) (ls : Array Slot), va_S A s.heap H locs → lv_has ls 8 [(4, .int 0), (0, .ref b)] → W p l e room_1 s m #[Value.ref b] below meth c H locs 600002 7302232 Z (F0 m 3410 ls [])) : W p l e room_1 s m #[Value.ref b] below meth c H locs 403 120029 Z (F0 m 1163 ls []) := by
  subst hL
  refine lv_aload_n hx hb dM_L_law_1163 rfl (lv_at hl 1 rfl) ?_
  refine lv_aload_n hx hb dM_L_law_1164 rfl (lv_at hl 0 rfl) ?_
  refine lv_iload hx hb dM_L_law_1165 (lv_at hl 4 rfl) ?_
  refine lv_iconst (v := 1) hx hb dM_L_law_1167 (by decide) ?_
  refine lv_iadd hx hb dM_L_law_1168 ?_
  refine lv_topi (fun y_1 ey_1 => ?_)
  obtain rfl : y_1 = 1 := ey_1.trans (by decide)
  refine va_sld hx hb hX hbl hbA hS (by unfold vp_in; decide) dM_L_law_1169 ?_
  refine lv_topi (fun y_2 ey_2 => ?_)
  refine lv_aload_n hx hb dM_L_law_1170 rfl (lv_at hl 0 rfl) ?_
  refine lv_iload hx hb dM_L_law_1171 (lv_at hl 4 rfl) ?_
  refine lv_iconst (v := 2) hx hb dM_L_law_1173 (by decide) ?_
  refine lv_iadd hx hb dM_L_law_1174 ?_
  refine lv_topi (fun y_3 ey_3 => ?_)
  obtain rfl : y_3 = 2 := ey_3.trans (by decide)
  refine va_sld hx hb hX hbl hbA hS (by unfold vp_in; decide) dM_L_law_1175 ?_
  refine lv_topi (fun y_4 ey_4 => ?_)
  refine lv_aload_n hx hb dM_L_law_1176 rfl (lv_at hl 0 rfl) ?_
  refine lv_iload hx hb dM_L_law_1177 (lv_at hl 4 rfl) ?_
  refine lv_iconst (v := 3) hx hb dM_L_law_1179 (by decide) ?_
  refine lv_iadd hx hb dM_L_law_1180 ?_
  refine lv_topi (fun y_5 ey_5 => ?_)
  obtain rfl : y_5 = 3 := ey_5.trans (by decide)
  refine va_sld hx hb hX hbl hbA hS (by unfold vp_in; decide) dM_L_law_1181 ?_
  refine lv_topi (fun y_6 ey_6 => ?_)
  refine lv_aload_n hx hb dM_L_law_1182 rfl (lv_at hl 0 rfl) ?_
  refine lv_iload hx hb dM_L_law_1183 (lv_at hl 4 rfl) ?_
  refine lv_iconst (v := 4) hx hb dM_L_law_1185 (by decide) ?_
  refine lv_iadd hx hb dM_L_law_1186 ?_
  refine lv_topi (fun y_7 ey_7 => ?_)
  obtain rfl : y_7 = 4 := ey_7.trans (by decide)
  refine va_sld hx hb hX hbl hbA hS (by unfold vp_in; decide) dM_L_law_1187 ?_
  refine lv_topi (fun y_8 ey_8 => ?_)
  refine lv_aload_n hx hb dM_L_law_1188 rfl (lv_at hl 3 rfl) ?_
  have hFc := va_free (wc := [(h0, .inr (0, [.ref st, v1, v2, v3, v4, v5, v6, v7, v8, v9, v10])), (st, .inr (8, [.int 0, .int 0, .int 0, w3, w4, w5, w6, w7, w8, w9, w10, w11, w12, w13, w14, w15, w16, w17, w18, w19])), (ou, .inl (dC 101, 1, .inr (.inl f0)))]) hD hS hA [0, 1, 2] rfl
  refine va_calli (vx_runSW (As := [.ref h0, .int y_2, .int y_4, .int y_6, .int y_8, .ref ou]) (rest := []) ⟨hx, hb, hml, hown, hbg⟩ (c_L_node l hl9 dC dI h0 y_2 y_4 y_6 y_8 ou st v1 v2 v3 v4 v5 v6 v7 v8 v9 v10 w3 w4 w5 w6 w7 w8 w9 w10 w11 w12 w13 w14 w15 w16 w17 w18 w19 f0 _ ) (vx_cwSW 6 hbg (gd_S (fun _ h => h) wd_1279 wd_1280 wd_0 (gd_wmW (fun _ h => h) wd_1281)) rfl rfl rfl (by decide +kernel) ⟨Nat.le_of_ble_eq_true rfl, Nat.le_of_ble_eq_true rfl⟩) (nPreS [0, 1, 2] hP hD hK hN hS hA (by decide) rfl) rfl rfl hl.1 rfl (lv_room (Nat.le_of_ble_eq_true rfl)) dM_L_law_1189 ⟨Nat.le_of_ble_eq_true rfl, Nat.le_of_ble_eq_true rfl⟩) hS (fun q _ h => hFc q h) hFc (fun r_9 u t H1 locs ht hvm hw hB hz1 hk1 hS => ?_)
  rcases hw with ⟨c_10, rfl, hu_11⟩ | ⟨c_12, rfl, hu_13⟩
  · --
    obtain rfl := hu_11.symm
    obtain ⟨hP1, hD1⟩ := hB
    rw [ht] at hP1
    obtain ⟨hP, hD⟩ := va_join (wr := [(m0, .inr (10, [.ref nw, z1, z2, z3, z4, z5, z6, z7, z8, z9, z10, z11, z12, z13, z14, z15, z16])), (nw, .inr (12, [t0, t1, .int 0, t3, t4, t5, t6, t7, t8, t9, t10, .int 0, t12, t13, t14, t15, t16, t17, t18, .int 0, t20, t21]))]) (w1 := [(ou, .inl (dC 101, 1, .inr (.inl f0)))]) hP hD [0, 1, 2] [3, 4] rfl rfl (by decide) (by decide) hk1 hFc hP1 hD1
    generalize H1 = H at hP hS ⊢
    have hP : va_P (dC, dI) classes [(m0, .inr (10, [.ref nw, z1, z2, z3, z4, z5, z6, z7, z8, z9, z10, z11, z12, z13, z14, z15, z16])), (nw, .inr (12, [t0, t1, .int 0, t3, t4, t5, t6, t7, t8, t9, t10, .int 0, t12, t13, t14, t15, t16, t17, t18, .int 0, t20, t21])), (ou, .inl (dC 101, 1, .inr (.inl f0)))] H := hP
    have hD : va_D A [(m0, .inr (10, [.ref nw, z1, z2, z3, z4, z5, z6, z7, z8, z9, z10, z11, z12, z13, z14, z15, z16])), (nw, .inr (12, [t0, t1, .int 0, t3, t4, t5, t6, t7, t8, t9, t10, .int 0, t12, t13, t14, t15, t16, t17, t18, .int 0, t20, t21])), (ou, .inl (dC 101, 1, .inr (.inl f0)))] := hD
    refine W.widen (k := 404) (n := 120035) (Nat.le_of_ble_eq_true rfl) (Nat.le_of_ble_eq_true rfl) ?_
    refine lv_istore (lv' := [(5, .int 1), (0, .ref b), (1, .ref h0), (2, .ref m0), (3, .ref ou), (4, .int 0)]) hx hb dM_L_law_1192 hl (by decide) rfl (fun ls hl => ?_)
    refine lv_aload_n hx hb dM_L_law_1194 rfl (lv_at hl 3 rfl) ?_
    refine lv_aload_n hx hb dM_L_law_1195 rfl (lv_at hl 1 rfl) ?_
    refine lv_iload hx hb dM_L_law_1196 (lv_at hl 5 rfl) ?_
    refine lv_iconst (v := 1) hx hb dM_L_law_1198 (by decide) ?_
    refine lv_iadd hx hb dM_L_law_1199 ?_
    refine lv_topi (fun y_14 ey_14 => ?_)
    obtain rfl : y_14 = 1 := ey_14.trans (by decide)
    refine va_sld hx hb hX hbl hbA hS (by unfold vp_in; decide) dM_L_law_1200 ?_
    refine lv_topi (fun y_15 ey_15 => ?_)
    obtain rfl : y_2 = y_15 := ey_2.trans ey_15.symm
    refine lv_aload_n hx hb dM_L_law_1201 rfl (lv_at hl 1 rfl) ?_
    refine lv_iload hx hb dM_L_law_1202 (lv_at hl 5 rfl) ?_
    refine lv_iconst (v := 2) hx hb dM_L_law_1204 (by decide) ?_
    refine lv_iadd hx hb dM_L_law_1205 ?_
    refine lv_topi (fun y_16 ey_16 => ?_)
    obtain rfl : y_16 = 2 := ey_16.trans (by decide)
    refine va_sld hx hb hX hbl hbA hS (by unfold vp_in; decide) dM_L_law_1206 ?_
    refine lv_topi (fun y_17 ey_17 => ?_)
    obtain rfl : y_4 = y_17 := ey_4.trans ey_17.symm
    refine lv_aload_n hx hb dM_L_law_1207 rfl (lv_at hl 1 rfl) ?_
    refine lv_iload hx hb dM_L_law_1208 (lv_at hl 5 rfl) ?_
    refine lv_iconst (v := 3) hx hb dM_L_law_1210 (by decide) ?_
    refine lv_iadd hx hb dM_L_law_1211 ?_
    refine lv_topi (fun y_18 ey_18 => ?_)
    obtain rfl : y_18 = 3 := ey_18.trans (by decide)
    refine va_sld hx hb hX hbl hbA hS (by unfold vp_in; decide) dM_L_law_1212 ?_
    refine lv_topi (fun y_19 ey_19 => ?_)
    obtain rfl : y_6 = y_19 := ey_6.trans ey_19.symm
    refine lv_aload_n hx hb dM_L_law_1213 rfl (lv_at hl 1 rfl) ?_
    refine lv_iload hx hb dM_L_law_1214 (lv_at hl 5 rfl) ?_
    refine lv_iconst (v := 4) hx hb dM_L_law_1216 (by decide) ?_
    refine lv_iadd hx hb dM_L_law_1217 ?_
    refine lv_topi (fun y_20 ey_20 => ?_)
    obtain rfl : y_20 = 4 := ey_20.trans (by decide)
    refine va_sld hx hb hX hbl hbA hS (by unfold vp_in; decide) dM_L_law_1218 ?_
    refine lv_topi (fun y_21 ey_21 => ?_)
    obtain rfl : y_8 = y_21 := ey_8.trans ey_21.symm
    have hFc := va_free (wc := [(m0, .inr (10, [.ref nw, z1, z2, z3, z4, z5, z6, z7, z8, z9, z10, z11, z12, z13, z14, z15, z16])), (nw, .inr (12, [t0, t1, .int 0, t3, t4, t5, t6, t7, t8, t9, t10, .int 0, t12, t13, t14, t15, t16, t17, t18, .int 0, t20, t21]))]) hD hS hA [0, 1] rfl
    refine va_calli (va_runV (As := [.int y_2, .int y_4, .int y_6, .int y_8]) (rest := []) ⟨hx, hb, hml, hown, hbg⟩ (c_M_node l dC dI m0 y_2 y_4 y_6 y_8 nw z1 z2 z3 z4 z5 z6 z7 z8 z9 z10 z11 z12 z13 z14 z15 z16 t0 t1 t3 t4 t5 t6 t7 t8 t9 t10 t12 t13 t14 t15 t16 t17 t18 t20 t21 _ ) (cwV 4 hbg (gd_V (fun _ h => h) wd_2626 wd_2627 wd_2628 wd_12 (gd_wm (fun _ h => h) wd_2629)) rfl rfl rfl (by decide +kernel) ⟨Nat.le_of_ble_eq_true rfl, Nat.le_of_ble_eq_true rfl⟩) (nPreV [0, 1] hP hD hK hN hS hA (by decide) rfl 0 rfl rfl) rfl rfl hl.1 rfl (lv_room (Nat.le_of_ble_eq_true rfl)) dM_L_law_1219 ⟨Nat.le_of_ble_eq_true rfl, Nat.le_of_ble_eq_true rfl⟩) hS (fun q _ h => hFc q h) hFc (fun r_22 u t H1 locs ht hvm hw hB hz1 hk1 hS => ?_)
    rcases hw with ⟨c_23, rfl, rfl⟩ | ⟨c_24, rfl, rfl⟩
    · --
      exact absurd c_23 c_10
    · --
      obtain ⟨r0_25, r1_26, r2_27, r3_28, r4_29, r5_30, r6_31, r7_32, r8_33, r9_34, r10_35, r11_36, r12_37, r13_38, r14_39, r15_40, hP1, hD1⟩ := hB
      rw [ht] at hP1
      obtain ⟨hP, hD⟩ := va_join (wr := [(ou, .inl (dC 101, 1, .inr (.inl f0)))]) (w1 := [(m0, .inr (10, [r0_25, r1_26, r2_27, r3_28, r4_29, r5_30, r6_31, r7_32, r8_33, r9_34, r10_35, r11_36, r12_37, r13_38, r14_39, r15_40, .int 1]))]) hP hD [0, 1] [2] rfl rfl (by decide) (by decide) hk1 hFc hP1 hD1
      generalize H1 = H at hP hS ⊢
      have hP : va_P (dC, dI) classes [(ou, .inl (dC 101, 1, .inr (.inl f0))), (m0, .inr (10, [r0_25, r1_26, r2_27, r3_28, r4_29, r5_30, r6_31, r7_32, r8_33, r9_34, r10_35, r11_36, r12_37, r13_38, r14_39, r15_40, .int 1]))] H := hP
      have hD : va_D A [(ou, .inl (dC 101, 1, .inr (.inl f0))), (m0, .inr (10, [r0_25, r1_26, r2_27, r3_28, r4_29, r5_30, r6_31, r7_32, r8_33, r9_34, r10_35, r11_36, r12_37, r13_38, r14_39, r15_40, .int 1]))] := hD
      refine W.widen (k := 404) (n := 120035) (Nat.le_of_ble_eq_true rfl) (Nat.le_of_ble_eq_true rfl) ?_
      refine lv_istore (lv' := [(6, .int 0), (5, .int 1), (0, .ref b), (1, .ref h0), (2, .ref m0), (3, .ref ou), (4, .int 0)]) hx hb dM_L_law_1222 hl (by decide) rfl (fun ls hl => ?_)
      refine lv_aload_n hx hb dM_L_law_1224 rfl (lv_at hl 4 rfl) ?_
      have hFc := va_free (wc := [(m0, .inr (10, [r0_25, r1_26, r2_27, r3_28, r4_29, r5_30, r6_31, r7_32, r8_33, r9_34, r10_35, r11_36, r12_37, r13_38, r14_39, r15_40, .int 1]))]) hD hS hA [1] rfl
      refine va_calli (va_runV (As := []) (rest := []) ⟨hx, hb, hml, hown, hbg⟩ (c_M_thrown l dC dI m0 r0_25 r1_26 r2_27 r3_28 r4_29 r5_30 r6_31 r7_32 r8_33 r9_34 r10_35 r11_36 r12_37 r13_38 r14_39 r15_40 1 _ ) (cwV 0 hbg (gd_V (fun _ h => h) wd_2190 wd_2191 wd_2192 wd_12 (gd_wm (fun _ h => h) wd_2193)) rfl rfl rfl (by decide +kernel) ⟨Nat.le_of_ble_eq_true rfl, Nat.le_of_ble_eq_true rfl⟩) (nPreV [1] hP hD hK hN hS hA (by decide) rfl 1 rfl rfl) rfl rfl hl.1 rfl (lv_room (Nat.le_of_ble_eq_true rfl)) dM_L_law_1225 ⟨Nat.le_of_ble_eq_true rfl, Nat.le_of_ble_eq_true rfl⟩) hS (fun q _ h => hFc q h) hFc (fun r_41 u t H1 locs ht hvm hw hB hz1 hk1 hS => ?_)
      obtain ⟨rfl, rfl⟩ := hw
      obtain ⟨r0_43, r1_44, r2_45, r3_46, r4_47, r5_48, r6_49, r7_50, r8_51, r9_52, r10_53, r11_54, r12_55, r13_56, r14_57, r15_58, hP1, hD1⟩ := hB
      rw [ht] at hP1
      obtain ⟨hP, hD⟩ := va_join (wr := [(ou, .inl (dC 101, 1, .inr (.inl f0)))]) (w1 := [(m0, .inr (10, [r0_43, r1_44, r2_45, r3_46, r4_47, r5_48, r6_49, r7_50, r8_51, r9_52, r10_53, r11_54, r12_55, r13_56, r14_57, r15_58, .int 1]))]) hP hD [1] [0] rfl rfl (by decide) (by decide) hk1 hFc hP1 hD1
      generalize H1 = H at hP hS ⊢
      have hP : va_P (dC, dI) classes [(ou, .inl (dC 101, 1, .inr (.inl f0))), (m0, .inr (10, [r0_43, r1_44, r2_45, r3_46, r4_47, r5_48, r6_49, r7_50, r8_51, r9_52, r10_53, r11_54, r12_55, r13_56, r14_57, r15_58, .int 1]))] H := hP
      have hD : va_D A [(ou, .inl (dC 101, 1, .inr (.inl f0))), (m0, .inr (10, [r0_43, r1_44, r2_45, r3_46, r4_47, r5_48, r6_49, r7_50, r8_51, r9_52, r10_53, r11_54, r12_55, r13_56, r14_57, r15_58, .int 1]))] := hD
      refine W.widen (k := 404) (n := 120035) (Nat.le_of_ble_eq_true rfl) (Nat.le_of_ble_eq_true rfl) ?_
      refine lv_iload hx hb dM_L_law_1228 (lv_at hl 1 rfl) ?_
      refine lv_icmp_eq (tgt := 1235) hx hb dM_L_law_1230 (by decide) (fun _ => ?_) (fun q => absurd (by decide) q)
      refine lv_iload hx hb dM_L_law_1235 (lv_at hl 1 rfl) ?_
      refine lv_if_ne (tgt := 1252) hx hb dM_L_law_1237 (by decide) (fun _ => ?_) (fun q => absurd q (by decide))
      refine lv_goto (tgt := 3410) hx hb dM_L_law_1252 (by decide) ?_
      refine W.widen (k := 600002) (n := 7302232) (Nat.le_of_ble_eq_true rfl) (Nat.le_of_ble_eq_true rfl) ?_
      exact hend _ _ _ hS (lv_sub hl [6, 2] rfl)
  · --
    obtain rfl := hu_13.symm
    obtain ⟨hP1, hD1⟩ := hB
    rw [ht] at hP1
    obtain ⟨hP, hD⟩ := va_join (wr := [(m0, .inr (10, [.ref nw, z1, z2, z3, z4, z5, z6, z7, z8, z9, z10, z11, z12, z13, z14, z15, z16])), (nw, .inr (12, [t0, t1, .int 0, t3, t4, t5, t6, t7, t8, t9, t10, .int 0, t12, t13, t14, t15, t16, t17, t18, .int 0, t20, t21]))]) (w1 := [(ou, .inl (dC 101, 1, .inr (.inl f0)))]) hP hD [0, 1, 2] [3, 4] rfl rfl (by decide) (by decide) hk1 hFc hP1 hD1
    generalize H1 = H at hP hS ⊢
    have hP : va_P (dC, dI) classes [(m0, .inr (10, [.ref nw, z1, z2, z3, z4, z5, z6, z7, z8, z9, z10, z11, z12, z13, z14, z15, z16])), (nw, .inr (12, [t0, t1, .int 0, t3, t4, t5, t6, t7, t8, t9, t10, .int 0, t12, t13, t14, t15, t16, t17, t18, .int 0, t20, t21])), (ou, .inl (dC 101, 1, .inr (.inl f0)))] H := hP
    have hD : va_D A [(m0, .inr (10, [.ref nw, z1, z2, z3, z4, z5, z6, z7, z8, z9, z10, z11, z12, z13, z14, z15, z16])), (nw, .inr (12, [t0, t1, .int 0, t3, t4, t5, t6, t7, t8, t9, t10, .int 0, t12, t13, t14, t15, t16, t17, t18, .int 0, t20, t21])), (ou, .inl (dC 101, 1, .inr (.inl f0)))] := hD
    refine W.widen (k := 404) (n := 120035) (Nat.le_of_ble_eq_true rfl) (Nat.le_of_ble_eq_true rfl) ?_
    refine lv_istore (lv' := [(5, .int 2), (0, .ref b), (1, .ref h0), (2, .ref m0), (3, .ref ou), (4, .int 0)]) hx hb dM_L_law_1192 hl (by decide) rfl (fun ls hl => ?_)
    refine lv_aload_n hx hb dM_L_law_1194 rfl (lv_at hl 3 rfl) ?_
    refine lv_aload_n hx hb dM_L_law_1195 rfl (lv_at hl 1 rfl) ?_
    refine lv_iload hx hb dM_L_law_1196 (lv_at hl 5 rfl) ?_
    refine lv_iconst (v := 1) hx hb dM_L_law_1198 (by decide) ?_
    refine lv_iadd hx hb dM_L_law_1199 ?_
    refine lv_topi (fun y_59 ey_59 => ?_)
    obtain rfl : y_59 = 1 := ey_59.trans (by decide)
    refine va_sld hx hb hX hbl hbA hS (by unfold vp_in; decide) dM_L_law_1200 ?_
    refine lv_topi (fun y_60 ey_60 => ?_)
    obtain rfl : y_2 = y_60 := ey_2.trans ey_60.symm
    refine lv_aload_n hx hb dM_L_law_1201 rfl (lv_at hl 1 rfl) ?_
    refine lv_iload hx hb dM_L_law_1202 (lv_at hl 5 rfl) ?_
    refine lv_iconst (v := 2) hx hb dM_L_law_1204 (by decide) ?_
    refine lv_iadd hx hb dM_L_law_1205 ?_
    refine lv_topi (fun y_61 ey_61 => ?_)
    obtain rfl : y_61 = 2 := ey_61.trans (by decide)
    refine va_sld hx hb hX hbl hbA hS (by unfold vp_in; decide) dM_L_law_1206 ?_
    refine lv_topi (fun y_62 ey_62 => ?_)
    obtain rfl : y_4 = y_62 := ey_4.trans ey_62.symm
    refine lv_aload_n hx hb dM_L_law_1207 rfl (lv_at hl 1 rfl) ?_
    refine lv_iload hx hb dM_L_law_1208 (lv_at hl 5 rfl) ?_
    refine lv_iconst (v := 3) hx hb dM_L_law_1210 (by decide) ?_
    refine lv_iadd hx hb dM_L_law_1211 ?_
    refine lv_topi (fun y_63 ey_63 => ?_)
    obtain rfl : y_63 = 3 := ey_63.trans (by decide)
    refine va_sld hx hb hX hbl hbA hS (by unfold vp_in; decide) dM_L_law_1212 ?_
    refine lv_topi (fun y_64 ey_64 => ?_)
    obtain rfl : y_6 = y_64 := ey_6.trans ey_64.symm
    refine lv_aload_n hx hb dM_L_law_1213 rfl (lv_at hl 1 rfl) ?_
    refine lv_iload hx hb dM_L_law_1214 (lv_at hl 5 rfl) ?_
    refine lv_iconst (v := 4) hx hb dM_L_law_1216 (by decide) ?_
    refine lv_iadd hx hb dM_L_law_1217 ?_
    refine lv_topi (fun y_65 ey_65 => ?_)
    obtain rfl : y_65 = 4 := ey_65.trans (by decide)
    refine va_sld hx hb hX hbl hbA hS (by unfold vp_in; decide) dM_L_law_1218 ?_
    refine lv_topi (fun y_66 ey_66 => ?_)
    obtain rfl : y_8 = y_66 := ey_8.trans ey_66.symm
    have hFc := va_free (wc := [(m0, .inr (10, [.ref nw, z1, z2, z3, z4, z5, z6, z7, z8, z9, z10, z11, z12, z13, z14, z15, z16])), (nw, .inr (12, [t0, t1, .int 0, t3, t4, t5, t6, t7, t8, t9, t10, .int 0, t12, t13, t14, t15, t16, t17, t18, .int 0, t20, t21]))]) hD hS hA [0, 1] rfl
    refine va_calli (va_runV (As := [.int y_2, .int y_4, .int y_6, .int y_8]) (rest := []) ⟨hx, hb, hml, hown, hbg⟩ (c_M_node l dC dI m0 y_2 y_4 y_6 y_8 nw z1 z2 z3 z4 z5 z6 z7 z8 z9 z10 z11 z12 z13 z14 z15 z16 t0 t1 t3 t4 t5 t6 t7 t8 t9 t10 t12 t13 t14 t15 t16 t17 t18 t20 t21 _ ) (cwV 4 hbg (gd_V (fun _ h => h) wd_2626 wd_2627 wd_2628 wd_12 (gd_wm (fun _ h => h) wd_2629)) rfl rfl rfl (by decide +kernel) ⟨Nat.le_of_ble_eq_true rfl, Nat.le_of_ble_eq_true rfl⟩) (nPreV [0, 1] hP hD hK hN hS hA (by decide) rfl 0 rfl rfl) rfl rfl hl.1 rfl (lv_room (Nat.le_of_ble_eq_true rfl)) dM_L_law_1219 ⟨Nat.le_of_ble_eq_true rfl, Nat.le_of_ble_eq_true rfl⟩) hS (fun q _ h => hFc q h) hFc (fun r_67 u t H1 locs ht hvm hw hB hz1 hk1 hS => ?_)
    rcases hw with ⟨c_68, rfl, rfl⟩ | ⟨c_69, rfl, rfl⟩
    · --
      obtain ⟨r0_70, r1_71, r2_72, r3_73, r4_74, r5_75, r6_76, r7_77, r8_78, r9_79, r10_80, r11_81, r12_82, r13_83, r14_84, r15_85, hP1, hD1⟩ := hB
      rw [ht] at hP1
      obtain ⟨hP, hD⟩ := va_join (wr := [(ou, .inl (dC 101, 1, .inr (.inl f0)))]) (w1 := [(m0, .inr (10, [r0_70, r1_71, r2_72, r3_73, r4_74, r5_75, r6_76, r7_77, r8_78, r9_79, r10_80, r11_81, r12_82, r13_83, r14_84, r15_85, .int 2]))]) hP hD [0, 1] [2] rfl rfl (by decide) (by decide) hk1 hFc hP1 hD1
      generalize H1 = H at hP hS ⊢
      have hP : va_P (dC, dI) classes [(ou, .inl (dC 101, 1, .inr (.inl f0))), (m0, .inr (10, [r0_70, r1_71, r2_72, r3_73, r4_74, r5_75, r6_76, r7_77, r8_78, r9_79, r10_80, r11_81, r12_82, r13_83, r14_84, r15_85, .int 2]))] H := hP
      have hD : va_D A [(ou, .inl (dC 101, 1, .inr (.inl f0))), (m0, .inr (10, [r0_70, r1_71, r2_72, r3_73, r4_74, r5_75, r6_76, r7_77, r8_78, r9_79, r10_80, r11_81, r12_82, r13_83, r14_84, r15_85, .int 2]))] := hD
      refine W.widen (k := 404) (n := 120035) (Nat.le_of_ble_eq_true rfl) (Nat.le_of_ble_eq_true rfl) ?_
      refine lv_istore (lv' := [(6, .int 0), (5, .int 2), (0, .ref b), (1, .ref h0), (2, .ref m0), (3, .ref ou), (4, .int 0)]) hx hb dM_L_law_1222 hl (by decide) rfl (fun ls hl => ?_)
      refine lv_aload_n hx hb dM_L_law_1224 rfl (lv_at hl 4 rfl) ?_
      have hFc := va_free (wc := [(m0, .inr (10, [r0_70, r1_71, r2_72, r3_73, r4_74, r5_75, r6_76, r7_77, r8_78, r9_79, r10_80, r11_81, r12_82, r13_83, r14_84, r15_85, .int 2]))]) hD hS hA [1] rfl
      refine va_calli (va_runV (As := []) (rest := []) ⟨hx, hb, hml, hown, hbg⟩ (c_M_thrown l dC dI m0 r0_70 r1_71 r2_72 r3_73 r4_74 r5_75 r6_76 r7_77 r8_78 r9_79 r10_80 r11_81 r12_82 r13_83 r14_84 r15_85 2 _ ) (cwV 0 hbg (gd_V (fun _ h => h) wd_2190 wd_2191 wd_2192 wd_12 (gd_wm (fun _ h => h) wd_2193)) rfl rfl rfl (by decide +kernel) ⟨Nat.le_of_ble_eq_true rfl, Nat.le_of_ble_eq_true rfl⟩) (nPreV [1] hP hD hK hN hS hA (by decide) rfl 1 rfl rfl) rfl rfl hl.1 rfl (lv_room (Nat.le_of_ble_eq_true rfl)) dM_L_law_1225 ⟨Nat.le_of_ble_eq_true rfl, Nat.le_of_ble_eq_true rfl⟩) hS (fun q _ h => hFc q h) hFc (fun r_86 u t H1 locs ht hvm hw hB hz1 hk1 hS => ?_)
      obtain ⟨rfl, rfl⟩ := hw
      obtain ⟨r0_88, r1_89, r2_90, r3_91, r4_92, r5_93, r6_94, r7_95, r8_96, r9_97, r10_98, r11_99, r12_100, r13_101, r14_102, r15_103, hP1, hD1⟩ := hB
      rw [ht] at hP1
      obtain ⟨hP, hD⟩ := va_join (wr := [(ou, .inl (dC 101, 1, .inr (.inl f0)))]) (w1 := [(m0, .inr (10, [r0_88, r1_89, r2_90, r3_91, r4_92, r5_93, r6_94, r7_95, r8_96, r9_97, r10_98, r11_99, r12_100, r13_101, r14_102, r15_103, .int 2]))]) hP hD [1] [0] rfl rfl (by decide) (by decide) hk1 hFc hP1 hD1
      generalize H1 = H at hP hS ⊢
      have hP : va_P (dC, dI) classes [(ou, .inl (dC 101, 1, .inr (.inl f0))), (m0, .inr (10, [r0_88, r1_89, r2_90, r3_91, r4_92, r5_93, r6_94, r7_95, r8_96, r9_97, r10_98, r11_99, r12_100, r13_101, r14_102, r15_103, .int 2]))] H := hP
      have hD : va_D A [(ou, .inl (dC 101, 1, .inr (.inl f0))), (m0, .inr (10, [r0_88, r1_89, r2_90, r3_91, r4_92, r5_93, r6_94, r7_95, r8_96, r9_97, r10_98, r11_99, r12_100, r13_101, r14_102, r15_103, .int 2]))] := hD
      refine W.widen (k := 404) (n := 120035) (Nat.le_of_ble_eq_true rfl) (Nat.le_of_ble_eq_true rfl) ?_
      refine lv_iload hx hb dM_L_law_1228 (lv_at hl 1 rfl) ?_
      refine lv_icmp_eq (tgt := 1235) hx hb dM_L_law_1230 (by decide) (fun _ => ?_) (fun q => absurd (by decide) q)
      refine lv_iload hx hb dM_L_law_1235 (lv_at hl 1 rfl) ?_
      refine lv_if_ne (tgt := 1252) hx hb dM_L_law_1237 (by decide) (fun _ => ?_) (fun q => absurd q (by decide))
      refine lv_goto (tgt := 3410) hx hb dM_L_law_1252 (by decide) ?_
      refine W.widen (k := 600002) (n := 7302232) (Nat.le_of_ble_eq_true rfl) (Nat.le_of_ble_eq_true rfl) ?_
      exact hend _ _ _ hS (lv_sub hl [6, 2] rfl)
    · --
      exact absurd c_12 c_69
set_option maxHeartbeats 4000000 in
set_option maxRecDepth 100000 in
theorem lawc_12 {p : Program} {e : Env} {s : State} {m : MethodId} {below : List Frame} {meth : Method} {c : Code} {Z : State → Prop} (l : Launch) (hl9 : l.stackTraces = false) (dC : Nat → ClassId) (dI : Nat → Nat → Nat) {A : Nat → Prop} {b L : Nat} {xs : Nat → Int32} (hL : L = 8) (hx : p.tables.exec = Jvm.exec) (hb : c.code = cM_L_law) (hml : c.maxLocals = 8) (hown : s.vm.findClass "NoteDocumentLaw" = some m.cls) (hbg : ∀ w ∈ BIG, w.before #[Value.ref b] s = true) (hK : nK (dC, dI) s) (hN : nS A s s.heap) (hA : ∀ q : Nat, s.heap.size ≤ q → A q) (hX : va_X b L xs s s.heap) (hbl : b < s.heap.size) (hbA : ¬ A b) {H : Heap} {locs : List Loc} {ls : Array Slot} {h0 : Nat} {m0 : Nat} {ou : Nat} {st : Nat} {v1 : Value} {v2 : Value} {v3 : Value} {v4 : Value} {v5 : Value} {v6 : Value} {v7 : Value} {v8 : Value} {v9 : Value} {v10 : Value} {w3 : Value} {w4 : Value} {w5 : Value} {w6 : Value} {w7 : Value} {w8 : Value} {w9 : Value} {w10 : Value} {w11 : Value} {w12 : Value} {w13 : Value} {w14 : Value} {w15 : Value} {w16 : Value} {w17 : Value} {w18 : Value} {w19 : Value} {f0 : Nat → Int64} {nw : Nat} {z1 : Value} {z2 : Value} {z3 : Value} {z4 : Value} {z5 : Value} {z6 : Value} {z7 : Value} {z8 : Value} {z9 : Value} {z10 : Value} {z11 : Value} {z12 : Value} {z13 : Value} {z14 : Value} {z15 : Value} {z16 : Value} {t0 : Value} {t1 : Value} {t3 : Value} {t4 : Value} {t5 : Value} {t6 : Value} {t7 : Value} {t8 : Value} {t9 : Value} {t10 : Value} {t12 : Value} {t13 : Value} {t14 : Value} {t15 : Value} {t16 : Value} {t17 : Value} {t18 : Value} {t20 : Value} {t21 : Value} (hP : va_P (dC, dI) classes [(h0, .inr (0, [.ref st, v1, v2, v3, v4, v5, v6, v7, v8, v9, v10])), (st, .inr (8, [.int 0, .int 0, .int 0, w3, w4, w5, w6, w7, w8, w9, w10, w11, w12, w13, w14, w15, w16, w17, w18, w19])), (ou, .inl (dC 101, 1, .inr (.inl f0))), (m0, .inr (10, [.ref nw, z1, z2, z3, z4, z5, z6, z7, z8, z9, z10, z11, z12, z13, z14, z15, z16])), (nw, .inr (12, [t0, t1, .int 0, t3, t4, t5, t6, t7, t8, t9, t10, .int 0, t12, t13, t14, t15, t16, t17, t18, .int 0, t20, t21]))] H) (hD : va_D A [(h0, .inr (0, [.ref st, v1, v2, v3, v4, v5, v6, v7, v8, v9, v10])), (st, .inr (8, [.int 0, .int 0, .int 0, w3, w4, w5, w6, w7, w8, w9, w10, w11, w12, w13, w14, w15, w16, w17, w18, w19])), (ou, .inl (dC 101, 1, .inr (.inl f0))), (m0, .inr (10, [.ref nw, z1, z2, z3, z4, z5, z6, z7, z8, z9, z10, z11, z12, z13, z14, z15, z16])), (nw, .inr (12, [t0, t1, .int 0, t3, t4, t5, t6, t7, t8, t9, t10, .int 0, t12, t13, t14, t15, t16, t17, t18, .int 0, t20, t21]))]) (hS : va_S A s.heap H locs) (hl : lv_has ls 8 [(0, .ref b), (1, .ref h0), (2, .ref m0), (3, .ref ou), (4, .int 0)]) (hend : ∀ (H : Heap) (locs : List Loc) (ls : Array Slot), va_S A s.heap H locs → lv_has ls 8 [(4, .int 0), (0, .ref b)] → W p l e room_1 s m #[Value.ref b] below meth c H locs 600002 7302232 Z (F0 m 3410 ls [])) : W p l e room_1 s m #[Value.ref b] below meth c H locs 403 120029 Z (F0 m 1255 ls []) := by
  subst hL
  refine lv_aload_n hx hb dM_L_law_1255 rfl (lv_at hl 1 rfl) ?_
  refine lv_aload_n hx hb dM_L_law_1256 rfl (lv_at hl 0 rfl) ?_
  refine lv_iload hx hb dM_L_law_1257 (lv_at hl 4 rfl) ?_
  refine lv_iconst (v := 1) hx hb dM_L_law_1259 (by decide) ?_
  refine lv_iadd hx hb dM_L_law_1260 ?_
  refine lv_topi (fun y_1 ey_1 => ?_)
  obtain rfl : y_1 = 1 := ey_1.trans (by decide)
  refine va_sld hx hb hX hbl hbA hS (by unfold vp_in; decide) dM_L_law_1261 ?_
  refine lv_topi (fun y_2 ey_2 => ?_)
  refine lv_aload_n hx hb dM_L_law_1262 rfl (lv_at hl 0 rfl) ?_
  refine lv_iload hx hb dM_L_law_1263 (lv_at hl 4 rfl) ?_
  refine lv_iconst (v := 2) hx hb dM_L_law_1265 (by decide) ?_
  refine lv_iadd hx hb dM_L_law_1266 ?_
  refine lv_topi (fun y_3 ey_3 => ?_)
  obtain rfl : y_3 = 2 := ey_3.trans (by decide)
  refine va_sld hx hb hX hbl hbA hS (by unfold vp_in; decide) dM_L_law_1267 ?_
  refine lv_topi (fun y_4 ey_4 => ?_)
  refine lv_aload_n hx hb dM_L_law_1268 rfl (lv_at hl 0 rfl) ?_
  refine lv_iload hx hb dM_L_law_1269 (lv_at hl 4 rfl) ?_
  refine lv_iconst (v := 3) hx hb dM_L_law_1271 (by decide) ?_
  refine lv_iadd hx hb dM_L_law_1272 ?_
  refine lv_topi (fun y_5 ey_5 => ?_)
  obtain rfl : y_5 = 3 := ey_5.trans (by decide)
  refine va_sld hx hb hX hbl hbA hS (by unfold vp_in; decide) dM_L_law_1273 ?_
  refine lv_topi (fun y_6 ey_6 => ?_)
  refine lv_aload_n hx hb dM_L_law_1274 rfl (lv_at hl 3 rfl) ?_
  have hFc := va_free (wc := [(h0, .inr (0, [.ref st, v1, v2, v3, v4, v5, v6, v7, v8, v9, v10])), (st, .inr (8, [.int 0, .int 0, .int 0, w3, w4, w5, w6, w7, w8, w9, w10, w11, w12, w13, w14, w15, w16, w17, w18, w19])), (ou, .inl (dC 101, 1, .inr (.inl f0)))]) hD hS hA [0, 1, 2] rfl
  refine va_calli (vx_runSW (As := [.ref h0, .int y_2, .int y_4, .int y_6, .ref ou]) (rest := []) ⟨hx, hb, hml, hown, hbg⟩ (c_L_when l hl9 dC dI h0 y_2 y_4 y_6 ou st v1 v2 v3 v4 v5 v6 v7 v8 v9 v10 w3 w4 w5 w6 w7 w8 w9 w10 w11 w12 w13 w14 w15 w16 w17 w18 w19 f0 _ ) (vx_cwSW 5 hbg (gd_S (fun _ h => h) wd_1296 wd_1297 wd_0 (gd_wmW (fun _ h => h) wd_1298)) rfl rfl rfl (by decide +kernel) ⟨Nat.le_of_ble_eq_true rfl, Nat.le_of_ble_eq_true rfl⟩) (nPreS [0, 1, 2] hP hD hK hN hS hA (by decide) rfl) rfl rfl hl.1 rfl (lv_room (Nat.le_of_ble_eq_true rfl)) dM_L_law_1275 ⟨Nat.le_of_ble_eq_true rfl, Nat.le_of_ble_eq_true rfl⟩) hS (fun q _ h => hFc q h) hFc (fun r_7 u t H1 locs ht hvm hw hB hz1 hk1 hS => ?_)
  obtain ⟨rfl, hu_9⟩ := hw
  obtain rfl := hu_9.symm
  obtain ⟨hP1, hD1⟩ := hB
  rw [ht] at hP1
  obtain ⟨hP, hD⟩ := va_join (wr := [(m0, .inr (10, [.ref nw, z1, z2, z3, z4, z5, z6, z7, z8, z9, z10, z11, z12, z13, z14, z15, z16])), (nw, .inr (12, [t0, t1, .int 0, t3, t4, t5, t6, t7, t8, t9, t10, .int 0, t12, t13, t14, t15, t16, t17, t18, .int 0, t20, t21]))]) (w1 := [(ou, .inl (dC 101, 1, .inr (.inl f0)))]) hP hD [0, 1, 2] [3, 4] rfl rfl (by decide) (by decide) hk1 hFc hP1 hD1
  generalize H1 = H at hP hS ⊢
  have hP : va_P (dC, dI) classes [(m0, .inr (10, [.ref nw, z1, z2, z3, z4, z5, z6, z7, z8, z9, z10, z11, z12, z13, z14, z15, z16])), (nw, .inr (12, [t0, t1, .int 0, t3, t4, t5, t6, t7, t8, t9, t10, .int 0, t12, t13, t14, t15, t16, t17, t18, .int 0, t20, t21])), (ou, .inl (dC 101, 1, .inr (.inl f0)))] H := hP
  have hD : va_D A [(m0, .inr (10, [.ref nw, z1, z2, z3, z4, z5, z6, z7, z8, z9, z10, z11, z12, z13, z14, z15, z16])), (nw, .inr (12, [t0, t1, .int 0, t3, t4, t5, t6, t7, t8, t9, t10, .int 0, t12, t13, t14, t15, t16, t17, t18, .int 0, t20, t21])), (ou, .inl (dC 101, 1, .inr (.inl f0)))] := hD
  refine W.widen (k := 404) (n := 120035) (Nat.le_of_ble_eq_true rfl) (Nat.le_of_ble_eq_true rfl) ?_
  refine lv_istore (lv' := [(5, .int 1), (0, .ref b), (1, .ref h0), (2, .ref m0), (3, .ref ou), (4, .int 0)]) hx hb dM_L_law_1278 hl (by decide) rfl (fun ls hl => ?_)
  refine lv_aload_n hx hb dM_L_law_1280 rfl (lv_at hl 3 rfl) ?_
  refine lv_aload_n hx hb dM_L_law_1281 rfl (lv_at hl 1 rfl) ?_
  refine lv_iload hx hb dM_L_law_1282 (lv_at hl 5 rfl) ?_
  refine lv_iconst (v := 1) hx hb dM_L_law_1284 (by decide) ?_
  refine lv_iadd hx hb dM_L_law_1285 ?_
  refine lv_topi (fun y_10 ey_10 => ?_)
  obtain rfl : y_10 = 1 := ey_10.trans (by decide)
  refine va_sld hx hb hX hbl hbA hS (by unfold vp_in; decide) dM_L_law_1286 ?_
  refine lv_topi (fun y_11 ey_11 => ?_)
  obtain rfl : y_2 = y_11 := ey_2.trans ey_11.symm
  refine lv_aload_n hx hb dM_L_law_1287 rfl (lv_at hl 1 rfl) ?_
  refine lv_iload hx hb dM_L_law_1288 (lv_at hl 5 rfl) ?_
  refine lv_iconst (v := 2) hx hb dM_L_law_1290 (by decide) ?_
  refine lv_iadd hx hb dM_L_law_1291 ?_
  refine lv_topi (fun y_12 ey_12 => ?_)
  obtain rfl : y_12 = 2 := ey_12.trans (by decide)
  refine va_sld hx hb hX hbl hbA hS (by unfold vp_in; decide) dM_L_law_1292 ?_
  refine lv_topi (fun y_13 ey_13 => ?_)
  obtain rfl : y_4 = y_13 := ey_4.trans ey_13.symm
  refine lv_aload_n hx hb dM_L_law_1293 rfl (lv_at hl 1 rfl) ?_
  refine lv_iload hx hb dM_L_law_1294 (lv_at hl 5 rfl) ?_
  refine lv_iconst (v := 3) hx hb dM_L_law_1296 (by decide) ?_
  refine lv_iadd hx hb dM_L_law_1297 ?_
  refine lv_topi (fun y_14 ey_14 => ?_)
  obtain rfl : y_14 = 3 := ey_14.trans (by decide)
  refine va_sld hx hb hX hbl hbA hS (by unfold vp_in; decide) dM_L_law_1298 ?_
  refine lv_topi (fun y_15 ey_15 => ?_)
  obtain rfl : y_6 = y_15 := ey_6.trans ey_15.symm
  have hFc := va_free (wc := [(m0, .inr (10, [.ref nw, z1, z2, z3, z4, z5, z6, z7, z8, z9, z10, z11, z12, z13, z14, z15, z16])), (nw, .inr (12, [t0, t1, .int 0, t3, t4, t5, t6, t7, t8, t9, t10, .int 0, t12, t13, t14, t15, t16, t17, t18, .int 0, t20, t21]))]) hD hS hA [0, 1] rfl
  refine va_calli (va_runV (As := [.int y_2, .int y_4, .int y_6]) (rest := []) ⟨hx, hb, hml, hown, hbg⟩ (c_M_when l dC dI m0 y_2 y_4 y_6 nw z1 z2 z3 z4 z5 z6 z7 z8 z9 z10 z11 z12 z13 z14 z15 z16 t0 t1 t3 t4 t5 t6 t7 t8 t9 t10 t12 t13 t14 t15 t16 t17 t18 t20 t21 _ ) (cwV 3 hbg (gd_V (fun _ h => h) wd_2636 wd_2637 wd_2638 wd_12 (gd_wm (fun _ h => h) wd_2639)) rfl rfl rfl (by decide +kernel) ⟨Nat.le_of_ble_eq_true rfl, Nat.le_of_ble_eq_true rfl⟩) (nPreV [0, 1] hP hD hK hN hS hA (by decide) rfl 0 rfl rfl) rfl rfl hl.1 rfl (lv_room (Nat.le_of_ble_eq_true rfl)) dM_L_law_1299 ⟨Nat.le_of_ble_eq_true rfl, Nat.le_of_ble_eq_true rfl⟩) hS (fun q _ h => hFc q h) hFc (fun r_16 u t H1 locs ht hvm hw hB hz1 hk1 hS => ?_)
  obtain ⟨rfl, rfl⟩ := hw
  obtain ⟨r0_18, r1_19, r2_20, r3_21, r4_22, r5_23, r6_24, r7_25, r8_26, r9_27, r10_28, r11_29, r12_30, r13_31, r14_32, r15_33, hP1, hD1⟩ := hB
  rw [ht] at hP1
  obtain ⟨hP, hD⟩ := va_join (wr := [(ou, .inl (dC 101, 1, .inr (.inl f0)))]) (w1 := [(m0, .inr (10, [r0_18, r1_19, r2_20, r3_21, r4_22, r5_23, r6_24, r7_25, r8_26, r9_27, r10_28, r11_29, r12_30, r13_31, r14_32, r15_33, .int 1]))]) hP hD [0, 1] [2] rfl rfl (by decide) (by decide) hk1 hFc hP1 hD1
  generalize H1 = H at hP hS ⊢
  have hP : va_P (dC, dI) classes [(ou, .inl (dC 101, 1, .inr (.inl f0))), (m0, .inr (10, [r0_18, r1_19, r2_20, r3_21, r4_22, r5_23, r6_24, r7_25, r8_26, r9_27, r10_28, r11_29, r12_30, r13_31, r14_32, r15_33, .int 1]))] H := hP
  have hD : va_D A [(ou, .inl (dC 101, 1, .inr (.inl f0))), (m0, .inr (10, [r0_18, r1_19, r2_20, r3_21, r4_22, r5_23, r6_24, r7_25, r8_26, r9_27, r10_28, r11_29, r12_30, r13_31, r14_32, r15_33, .int 1]))] := hD
  refine W.widen (k := 404) (n := 120035) (Nat.le_of_ble_eq_true rfl) (Nat.le_of_ble_eq_true rfl) ?_
  refine lv_istore (lv' := [(6, .int 0), (5, .int 1), (0, .ref b), (1, .ref h0), (2, .ref m0), (3, .ref ou), (4, .int 0)]) hx hb dM_L_law_1302 hl (by decide) rfl (fun ls hl => ?_)
  refine lv_aload_n hx hb dM_L_law_1304 rfl (lv_at hl 4 rfl) ?_
  have hFc := va_free (wc := [(m0, .inr (10, [r0_18, r1_19, r2_20, r3_21, r4_22, r5_23, r6_24, r7_25, r8_26, r9_27, r10_28, r11_29, r12_30, r13_31, r14_32, r15_33, .int 1]))]) hD hS hA [1] rfl
  refine va_calli (va_runV (As := []) (rest := []) ⟨hx, hb, hml, hown, hbg⟩ (c_M_thrown l dC dI m0 r0_18 r1_19 r2_20 r3_21 r4_22 r5_23 r6_24 r7_25 r8_26 r9_27 r10_28 r11_29 r12_30 r13_31 r14_32 r15_33 1 _ ) (cwV 0 hbg (gd_V (fun _ h => h) wd_2190 wd_2191 wd_2192 wd_12 (gd_wm (fun _ h => h) wd_2193)) rfl rfl rfl (by decide +kernel) ⟨Nat.le_of_ble_eq_true rfl, Nat.le_of_ble_eq_true rfl⟩) (nPreV [1] hP hD hK hN hS hA (by decide) rfl 1 rfl rfl) rfl rfl hl.1 rfl (lv_room (Nat.le_of_ble_eq_true rfl)) dM_L_law_1305 ⟨Nat.le_of_ble_eq_true rfl, Nat.le_of_ble_eq_true rfl⟩) hS (fun q _ h => hFc q h) hFc (fun r_34 u t H1 locs ht hvm hw hB hz1 hk1 hS => ?_)
  obtain ⟨rfl, rfl⟩ := hw
  obtain ⟨r0_36, r1_37, r2_38, r3_39, r4_40, r5_41, r6_42, r7_43, r8_44, r9_45, r10_46, r11_47, r12_48, r13_49, r14_50, r15_51, hP1, hD1⟩ := hB
  rw [ht] at hP1
  obtain ⟨hP, hD⟩ := va_join (wr := [(ou, .inl (dC 101, 1, .inr (.inl f0)))]) (w1 := [(m0, .inr (10, [r0_36, r1_37, r2_38, r3_39, r4_40, r5_41, r6_42, r7_43, r8_44, r9_45, r10_46, r11_47, r12_48, r13_49, r14_50, r15_51, .int 1]))]) hP hD [1] [0] rfl rfl (by decide) (by decide) hk1 hFc hP1 hD1
  generalize H1 = H at hP hS ⊢
  have hP : va_P (dC, dI) classes [(ou, .inl (dC 101, 1, .inr (.inl f0))), (m0, .inr (10, [r0_36, r1_37, r2_38, r3_39, r4_40, r5_41, r6_42, r7_43, r8_44, r9_45, r10_46, r11_47, r12_48, r13_49, r14_50, r15_51, .int 1]))] H := hP
  have hD : va_D A [(ou, .inl (dC 101, 1, .inr (.inl f0))), (m0, .inr (10, [r0_36, r1_37, r2_38, r3_39, r4_40, r5_41, r6_42, r7_43, r8_44, r9_45, r10_46, r11_47, r12_48, r13_49, r14_50, r15_51, .int 1]))] := hD
  refine W.widen (k := 404) (n := 120035) (Nat.le_of_ble_eq_true rfl) (Nat.le_of_ble_eq_true rfl) ?_
  refine lv_iload hx hb dM_L_law_1308 (lv_at hl 1 rfl) ?_
  refine lv_icmp_eq (tgt := 1315) hx hb dM_L_law_1310 (by decide) (fun _ => ?_) (fun q => absurd (by decide) q)
  refine lv_iload hx hb dM_L_law_1315 (lv_at hl 1 rfl) ?_
  refine lv_if_ne (tgt := 1332) hx hb dM_L_law_1317 (by decide) (fun _ => ?_) (fun q => absurd q (by decide))
  refine lv_goto (tgt := 3410) hx hb dM_L_law_1332 (by decide) ?_
  refine W.widen (k := 600002) (n := 7302232) (Nat.le_of_ble_eq_true rfl) (Nat.le_of_ble_eq_true rfl) ?_
  exact hend _ _ _ hS (lv_sub hl [6, 2] rfl)
set_option maxHeartbeats 4000000 in
set_option maxRecDepth 100000 in
theorem lawc_13 {p : Program} {e : Env} {s : State} {m : MethodId} {below : List Frame} {meth : Method} {c : Code} {Z : State → Prop} (l : Launch) (hl9 : l.stackTraces = false) (dC : Nat → ClassId) (dI : Nat → Nat → Nat) {A : Nat → Prop} {b L : Nat} {xs : Nat → Int32} (hL : L = 8) (hx : p.tables.exec = Jvm.exec) (hb : c.code = cM_L_law) (hml : c.maxLocals = 8) (hown : s.vm.findClass "NoteDocumentLaw" = some m.cls) (hbg : ∀ w ∈ BIG, w.before #[Value.ref b] s = true) (hK : nK (dC, dI) s) (hN : nS A s s.heap) (hA : ∀ q : Nat, s.heap.size ≤ q → A q) (hX : va_X b L xs s s.heap) (hbl : b < s.heap.size) (hbA : ¬ A b) {H : Heap} {locs : List Loc} {ls : Array Slot} {h0 : Nat} {m0 : Nat} {ou : Nat} {st : Nat} {v1 : Value} {v2 : Value} {v3 : Value} {v4 : Value} {v5 : Value} {v6 : Value} {v7 : Value} {v8 : Value} {v9 : Value} {v10 : Value} {w3 : Value} {w4 : Value} {w5 : Value} {w6 : Value} {w7 : Value} {w8 : Value} {w9 : Value} {w10 : Value} {w11 : Value} {w12 : Value} {w13 : Value} {w14 : Value} {w15 : Value} {w16 : Value} {w17 : Value} {w18 : Value} {w19 : Value} {nw : Nat} {z1 : Value} {z2 : Value} {z3 : Value} {z4 : Value} {z5 : Value} {z6 : Value} {z7 : Value} {z8 : Value} {z9 : Value} {z10 : Value} {z11 : Value} {z12 : Value} {z13 : Value} {z14 : Value} {z15 : Value} {z16 : Value} {t0 : Value} {t1 : Value} {t3 : Value} {t4 : Value} {t5 : Value} {t6 : Value} {t7 : Value} {t8 : Value} {t9 : Value} {t10 : Value} {t12 : Value} {t13 : Value} {t14 : Value} {t15 : Value} {t16 : Value} {t17 : Value} {t18 : Value} {t20 : Value} {t21 : Value} (hP : va_P (dC, dI) classes [(h0, .inr (0, [.ref st, v1, v2, v3, v4, v5, v6, v7, v8, v9, v10])), (st, .inr (8, [.int 0, .int 0, .int 0, w3, w4, w5, w6, w7, w8, w9, w10, w11, w12, w13, w14, w15, w16, w17, w18, w19])), (m0, .inr (10, [.ref nw, z1, z2, z3, z4, z5, z6, z7, z8, z9, z10, z11, z12, z13, z14, z15, z16])), (nw, .inr (12, [t0, t1, .int 0, t3, t4, t5, t6, t7, t8, t9, t10, .int 0, t12, t13, t14, t15, t16, t17, t18, .int 0, t20, t21]))] H) (hD : va_D A [(h0, .inr (0, [.ref st, v1, v2, v3, v4, v5, v6, v7, v8, v9, v10])), (st, .inr (8, [.int 0, .int 0, .int 0, w3, w4, w5, w6, w7, w8, w9, w10, w11, w12, w13, w14, w15, w16, w17, w18, w19])), (m0, .inr (10, [.ref nw, z1, z2, z3, z4, z5, z6, z7, z8, z9, z10, z11, z12, z13, z14, z15, z16])), (nw, .inr (12, [t0, t1, .int 0, t3, t4, t5, t6, t7, t8, t9, t10, .int 0, t12, t13, t14, t15, t16, t17, t18, .int 0, t20, t21]))]) (hS : va_S A s.heap H locs) (hl : lv_has ls 8 [(0, .ref b), (1, .ref h0), (2, .ref m0), (3, .ref ou), (4, .int 0)]) (hend : ∀ (H : Heap) (locs : List Loc) (ls : Array Slot), va_S A s.heap H locs → lv_has ls 8 [(4, .int 0), (0, .ref b)] → W p l e room_1 s m #[Value.ref b] below meth c H locs 600002 7302232 Z (F0 m 3410 ls [])) : W p l e room_1 s m #[Value.ref b] below meth c H locs 403 120029 Z (F0 m 1335 ls []) := by
  subst hL
  refine lv_aload_n hx hb dM_L_law_1335 rfl (lv_at hl 1 rfl) ?_
  have hFc := va_free (wc := [(h0, .inr (0, [.ref st, v1, v2, v3, v4, v5, v6, v7, v8, v9, v10])), (st, .inr (8, [.int 0, .int 0, .int 0, w3, w4, w5, w6, w7, w8, w9, w10, w11, w12, w13, w14, w15, w16, w17, w18, w19]))]) hD hS hA [0, 1] rfl
  refine va_calli (va_runV (As := []) (rest := []) ⟨hx, hb, hml, hown, hbg⟩ (c_D_torn l dC dI h0 st v1 v2 v3 v4 v5 v6 v7 v8 v9 v10 w3 w4 w5 w6 w7 w8 w9 w10 w11 w12 w13 w14 w15 w16 w17 w18 w19 _ ) (cwV 0 hbg (gd_V (fun _ h => h) wd_494 wd_495 wd_496 wd_1 (gd_wm (fun _ h => h) wd_497)) rfl rfl rfl (by decide +kernel) ⟨Nat.le_of_ble_eq_true rfl, Nat.le_of_ble_eq_true rfl⟩) (nPreV [0, 1] hP hD hK hN hS hA (by decide) rfl 0 rfl rfl) rfl rfl hl.1 rfl (lv_room (Nat.le_of_ble_eq_true rfl)) dM_L_law_1336 ⟨Nat.le_of_ble_eq_true rfl, Nat.le_of_ble_eq_true rfl⟩) hS (fun q _ h => hFc q h) hFc (fun r_1 u t H1 locs ht hvm hw hB hz1 hk1 hS => ?_)
  obtain rfl := hw
  obtain ⟨hP, hD⟩ := va_join (wr := [(m0, .inr (10, [.ref nw, z1, z2, z3, z4, z5, z6, z7, z8, z9, z10, z11, z12, z13, z14, z15, z16])), (nw, .inr (12, [t0, t1, .int 0, t3, t4, t5, t6, t7, t8, t9, t10, .int 0, t12, t13, t14, t15, t16, t17, t18, .int 0, t20, t21]))]) (w1 := []) hP hD [0, 1] [2, 3] rfl rfl (by decide) (by decide) hk1 hFc nP0 nD0
  generalize H1 = H at hP hS ⊢
  have hP : va_P (dC, dI) classes [(m0, .inr (10, [.ref nw, z1, z2, z3, z4, z5, z6, z7, z8, z9, z10, z11, z12, z13, z14, z15, z16])), (nw, .inr (12, [t0, t1, .int 0, t3, t4, t5, t6, t7, t8, t9, t10, .int 0, t12, t13, t14, t15, t16, t17, t18, .int 0, t20, t21]))] H := hP
  have hD : va_D A [(m0, .inr (10, [.ref nw, z1, z2, z3, z4, z5, z6, z7, z8, z9, z10, z11, z12, z13, z14, z15, z16])), (nw, .inr (12, [t0, t1, .int 0, t3, t4, t5, t6, t7, t8, t9, t10, .int 0, t12, t13, t14, t15, t16, t17, t18, .int 0, t20, t21]))] := hD
  refine W.widen (k := 403) (n := 120029) (Nat.le_of_ble_eq_true rfl) (Nat.le_of_ble_eq_true rfl) ?_
  refine lv_aload_n hx hb dM_L_law_1339 rfl (lv_at hl 2 rfl) ?_
  have hFc := va_free (wc := [(m0, .inr (10, [.ref nw, z1, z2, z3, z4, z5, z6, z7, z8, z9, z10, z11, z12, z13, z14, z15, z16])), (nw, .inr (12, [t0, t1, .int 0, t3, t4, t5, t6, t7, t8, t9, t10, .int 0, t12, t13, t14, t15, t16, t17, t18, .int 0, t20, t21]))]) hD hS hA [0, 1] rfl
  refine va_calli (va_runV (As := []) (rest := [.int 0]) ⟨hx, hb, hml, hown, hbg⟩ (c_M_torn l dC dI m0 nw z1 z2 z3 z4 z5 z6 z7 z8 z9 z10 z11 z12 z13 z14 z15 z16 t0 t1 t3 t4 t5 t6 t7 t8 t9 t10 t12 t13 t14 t15 t16 t17 t18 t20 t21 _ ) (cwV 0 hbg (gd_V (fun _ h => h) wd_2640 wd_2641 wd_2642 wd_12 (gd_wm (fun _ h => h) wd_2643)) rfl rfl rfl (by decide +kernel) ⟨Nat.le_of_ble_eq_true rfl, Nat.le_of_ble_eq_true rfl⟩) (nPreV [0, 1] hP hD hK hN hS hA (by decide) rfl 0 rfl rfl) rfl rfl hl.1 rfl (lv_room (Nat.le_of_ble_eq_true rfl)) dM_L_law_1340 ⟨Nat.le_of_ble_eq_true rfl, Nat.le_of_ble_eq_true rfl⟩) hS (fun q _ h => hFc q h) hFc (fun r_3 u t H1 locs ht hvm hw hB hz1 hk1 hS => ?_)
  obtain ⟨rfl, rfl⟩ := hw
  obtain ⟨r0_5, r1_6, r2_7, r3_8, r4_9, r5_10, r6_11, r7_12, r8_13, r9_14, r10_15, r11_16, r12_17, r13_18, r14_19, r15_20, hP1, hD1⟩ := hB
  rw [ht] at hP1
  obtain ⟨hP, hD⟩ := va_join (wr := []) (w1 := [(m0, .inr (10, [r0_5, r1_6, r2_7, r3_8, r4_9, r5_10, r6_11, r7_12, r8_13, r9_14, r10_15, r11_16, r12_17, r13_18, r14_19, r15_20, .int 0]))]) hP hD [0, 1] [] rfl rfl (by decide) (by decide) hk1 hFc hP1 hD1
  generalize H1 = H at hP hS ⊢
  have hP : va_P (dC, dI) classes [(m0, .inr (10, [r0_5, r1_6, r2_7, r3_8, r4_9, r5_10, r6_11, r7_12, r8_13, r9_14, r10_15, r11_16, r12_17, r13_18, r14_19, r15_20, .int 0]))] H := hP
  have hD : va_D A [(m0, .inr (10, [r0_5, r1_6, r2_7, r3_8, r4_9, r5_10, r6_11, r7_12, r8_13, r9_14, r10_15, r11_16, r12_17, r13_18, r14_19, r15_20, .int 0]))] := hD
  refine W.widen (k := 403) (n := 120029) (Nat.le_of_ble_eq_true rfl) (Nat.le_of_ble_eq_true rfl) ?_
  refine lv_icmp_eq (tgt := 3410) hx hb dM_L_law_1343 (by decide) (fun _ => ?_) (fun q => absurd (by decide) q)
  refine W.widen (k := 600002) (n := 7302232) (Nat.le_of_ble_eq_true rfl) (Nat.le_of_ble_eq_true rfl) ?_
  exact hend _ _ _ hS (lv_sub hl [4, 0] rfl)
set_option maxHeartbeats 4000000 in
set_option maxRecDepth 100000 in
theorem lawc_14 {p : Program} {e : Env} {s : State} {m : MethodId} {below : List Frame} {meth : Method} {c : Code} {Z : State → Prop} (l : Launch) (hl9 : l.stackTraces = false) (dC : Nat → ClassId) (dI : Nat → Nat → Nat) {A : Nat → Prop} {b L : Nat} {xs : Nat → Int32} (hL : L = 8) (hx : p.tables.exec = Jvm.exec) (hb : c.code = cM_L_law) (hml : c.maxLocals = 8) (hown : s.vm.findClass "NoteDocumentLaw" = some m.cls) (hbg : ∀ w ∈ BIG, w.before #[Value.ref b] s = true) (hK : nK (dC, dI) s) (hN : nS A s s.heap) (hA : ∀ q : Nat, s.heap.size ≤ q → A q) (hX : va_X b L xs s s.heap) (hbl : b < s.heap.size) (hbA : ¬ A b) {H : Heap} {locs : List Loc} {ls : Array Slot} {h0 : Nat} {m0 : Nat} {ou : Nat} {st : Nat} {no : Nat} {ch : Nat} {he : Nat} {de : Nat} {fi : Nat} {v6 : Value} {kp : Nat} {a_columns : Nat} {a_rows : Nat} {a_content : Nat} {a_held : Nat} {a_other : Nat} {a_named : Nat} {a_body : Nat} {a_parts : Nat} {a_partCount : Nat} {a_refRow : Nat} {a_refColumn : Nat} {a_refToRow : Nat} {a_torn : Nat} {a_record : Nat} {g_columns : Nat → Int32} {g_rows : Nat → Int32} {g_content : Nat → Int64} {g_held : Nat → Int64} {g_other : Nat → Int64} {g_named : Nat → Int32} {g_body : Nat → Int32} {g_parts : Nat → Int32} {g_partCount : Nat → Int32} {g_refRow : Nat → Int32} {g_refColumn : Nat → Int32} {g_refToRow : Nat → Int32} {g_torn : Nat → Int32} {g_record : Nat → Int32} {gk : Nat → Option Nat} {k0 : Nat} {ak_columns : Nat} {ak_rows : Nat} {ak_content : Nat} {ak_held : Nat} {ak_other : Nat} {ak_named : Nat} {ak_body : Nat} {ak_parts : Nat} {ak_partCount : Nat} {ak_refRow : Nat} {ak_refColumn : Nat} {ak_refToRow : Nat} {ak_torn : Nat} {ak_record : Nat} {gk_columns : Nat → Int32} {gk_rows : Nat → Int32} {gk_content : Nat → Int64} {gk_held : Nat → Int64} {gk_other : Nat → Int64} {gk_named : Nat → Int32} {gk_body : Nat → Int32} {gk_parts : Nat → Int32} {gk_partCount : Nat → Int32} {gk_refRow : Nat → Int32} {gk_refColumn : Nat → Int32} {gk_refToRow : Nat → Int32} {gk_torn : Nat → Int32} {gk_record : Nat → Int32} {x2 : Value} {x4 : Value} {x6 : Value} {x7 : Value} {x8 : Value} {x9 : Value} {x10 : Value} {x11 : Value} {x12 : Value} {x13 : Value} {x14 : Value} {x15 : Value} {x16 : Value} {x17 : Value} {x18 : Value} {nw : Nat} {kq : Nat} {z4 : Value} {z5 : Value} {z6 : Value} {z7 : Value} {z8 : Value} {z9 : Value} {z10 : Value} {z11 : Value} {z12 : Value} {en : Nat} {z14 : Value} {z15 : Value} {z16 : Value} {b_rows : Nat} {b_columns : Nat} {b_types : Nat} {b_numbers : Nat} {b_formulas : Nat} {b_held : Nat} {b_holds : Nat} {b_found : Nat} {b_names : Nat} {b_bodies : Nat} {b_parts : Nat} {b_noteParts : Nat} {b_over : Nat} {b_overs : Nat} {b_places : Nat} {b_torn : Nat} {f_rows : Nat → Int32} {f_columns : Nat → Int32} {f_types : Nat → Int32} {f_numbers : Nat → Int64} {f_formulas : Nat → Int32} {f_held : Nat → Int32} {f_holds : Nat → Int64} {f_found : Nat → Option Nat} {f_names : Nat → Int32} {f_bodies : Nat → Int32} {f_parts : Nat → Int32} {f_noteParts : Nat → Int32} {f_over : Nat → Int32} {f_overs : Nat → Int64} {f_places : Nat → Int32} {f_torn : Nat → Int32} {fq : Nat → Option Nat} {k9 : Nat} {bk_rows : Nat} {bk_columns : Nat} {bk_types : Nat} {bk_numbers : Nat} {bk_formulas : Nat} {bk_held : Nat} {bk_holds : Nat} {bk_found : Nat} {bk_names : Nat} {bk_bodies : Nat} {bk_parts : Nat} {bk_noteParts : Nat} {bk_over : Nat} {bk_overs : Nat} {bk_places : Nat} {bk_torn : Nat} {fk_rows : Nat → Int32} {fk_columns : Nat → Int32} {fk_types : Nat → Int32} {fk_numbers : Nat → Int64} {fk_formulas : Nat → Int32} {fk_held : Nat → Int32} {fk_holds : Nat → Int64} {fk_found : Nat → Option Nat} {fk_names : Nat → Int32} {fk_bodies : Nat → Int32} {fk_parts : Nat → Int32} {fk_noteParts : Nat → Int32} {fk_over : Nat → Int32} {fk_overs : Nat → Int64} {fk_places : Nat → Int32} {fk_torn : Nat → Int32} {e0 : Value} {e1 : Value} {e2 : Value} {e3 : Value} {e4 : Value} {cg : Int32} {e6 : Value} {e7 : Value} {e8 : Value} {e9 : Value} {e10 : Value} {e11 : Value} {e12 : Value} {e13 : Value} {e14 : Value} {e15 : Value} {e16 : Value} {e17 : Value} {e18 : Value} {e19 : Value} {e20 : Value} {e21 : Value} {e22 : Value} {e23 : Value} {e24 : Value} {e25 : Value} {e26 : Value} (hP : va_P (dC, dI) classes [(h0, .inr (0, [.ref st, .ref no, .ref ch, .ref he, .ref de, .ref fi, v6, .ref kp, .int 0, .int 0, .int 0])), (st, .inr (8, [.int 0, .int 0, .int 0, .ref a_columns, .ref a_rows, .ref a_content, .ref a_held, .ref a_other, .ref a_named, .ref a_body, .ref a_parts, .ref a_partCount, .ref a_refRow, .ref a_refColumn, .ref a_refToRow, .ref a_torn, .ref a_record, .int 0, .int 0, .int 0])), (a_columns, .inl (dC 100, 4, .inl g_columns)), (a_rows, .inl (dC 100, 4, .inl g_rows)), (a_content, .inl (dC 101, 200, .inr (.inl g_content))), (a_held, .inl (dC 101, 200, .inr (.inl g_held))), (a_other, .inl (dC 101, 600, .inr (.inl g_other))), (a_named, .inl (dC 100, 6, .inl g_named)), (a_body, .inl (dC 100, 4, .inl g_body)), (a_parts, .inl (dC 100, 24, .inl g_parts)), (a_partCount, .inl (dC 100, 3, .inl g_partCount)), (a_refRow, .inl (dC 100, 150, .inl g_refRow)), (a_refColumn, .inl (dC 100, 150, .inl g_refColumn)), (a_refToRow, .inl (dC 100, 150, .inl g_refToRow)), (a_torn, .inl (dC 102, 150, .inl g_torn)), (a_record, .inl (dC 100, 885, .inl g_record)), (kp, .inl (dC 103, 5, .inr (.inr (.inr (.inr gk))))), (k0, .inr (8, [.int 0, .int 0, .int 0, .ref ak_columns, .ref ak_rows, .ref ak_content, .ref ak_held, .ref ak_other, .ref ak_named, .ref ak_body, .ref ak_parts, .ref ak_partCount, .ref ak_refRow, .ref ak_refColumn, .ref ak_refToRow, .ref ak_torn, .ref ak_record, .int 0, .int 0, .int 0])), (ak_columns, .inl (dC 100, 4, .inl gk_columns)), (ak_rows, .inl (dC 100, 4, .inl gk_rows)), (ak_content, .inl (dC 101, 200, .inr (.inl gk_content))), (ak_held, .inl (dC 101, 200, .inr (.inl gk_held))), (ak_other, .inl (dC 101, 600, .inr (.inl gk_other))), (ak_named, .inl (dC 100, 6, .inl gk_named)), (ak_body, .inl (dC 100, 4, .inl gk_body)), (ak_parts, .inl (dC 100, 24, .inl gk_parts)), (ak_partCount, .inl (dC 100, 3, .inl gk_partCount)), (ak_refRow, .inl (dC 100, 150, .inl gk_refRow)), (ak_refColumn, .inl (dC 100, 150, .inl gk_refColumn)), (ak_refToRow, .inl (dC 100, 150, .inl gk_refToRow)), (ak_torn, .inl (dC 102, 150, .inl gk_torn)), (ak_record, .inl (dC 100, 885, .inl gk_record)), (de, .inr (2, [.ref st, .ref he, x2, .int 1, x4, .int 0, x6, x7, x8, x9, x10, x11, x12, x13, x14, x15, x16, x17, x18])), (m0, .inr (10, [.ref nw, .ref kq, .int 0, .int 0, z4, z5, z6, z7, z8, z9, z10, z11, z12, .ref en, z14, z15, z16])), (nw, .inr (12, [.ref b_rows, .ref b_columns, .int 0, .ref b_types, .ref b_numbers, .ref b_formulas, .ref b_held, .ref b_holds, .ref b_found, .ref b_names, .ref b_bodies, .int 0, .ref b_parts, .ref b_noteParts, .ref b_over, .ref b_overs, .long 0, .long 0, .int 0, .int 0, .ref b_places, .ref b_torn])), (b_rows, .inl (dC 100, 4, .inl f_rows)), (b_columns, .inl (dC 100, 4, .inl f_columns)), (b_types, .inl (dC 100, 200, .inl f_types)), (b_numbers, .inl (dC 101, 200, .inr (.inl f_numbers))), (b_formulas, .inl (dC 100, 200, .inl f_formulas)), (b_held, .inl (dC 102, 200, .inl f_held)), (b_holds, .inl (dC 101, 200, .inr (.inl f_holds))), (b_found, .inl (dC 105, 885, .inr (.inr (.inr (.inr f_found))))), (b_names, .inl (dC 100, 6, .inl f_names)), (b_bodies, .inl (dC 100, 4, .inl f_bodies)), (b_parts, .inl (dC 100, 3, .inl f_parts)), (b_noteParts, .inl (dC 100, 72, .inl f_noteParts)), (b_over, .inl (dC 102, 600, .inl f_over)), (b_overs, .inl (dC 101, 600, .inr (.inl f_overs))), (b_places, .inl (dC 100, 750, .inl f_places)), (b_torn, .inl (dC 102, 150, .inl f_torn)), (kq, .inl (dC 104, 5, .inr (.inr (.inr (.inr fq))))), (k9, .inr (12, [.ref bk_rows, .ref bk_columns, .int 0, .ref bk_types, .ref bk_numbers, .ref bk_formulas, .ref bk_held, .ref bk_holds, .ref bk_found, .ref bk_names, .ref bk_bodies, .int 0, .ref bk_parts, .ref bk_noteParts, .ref bk_over, .ref bk_overs, .long 0, .long 0, .int 0, .int 0, .ref bk_places, .ref bk_torn])), (bk_rows, .inl (dC 100, 4, .inl fk_rows)), (bk_columns, .inl (dC 100, 4, .inl fk_columns)), (bk_types, .inl (dC 100, 200, .inl fk_types)), (bk_numbers, .inl (dC 101, 200, .inr (.inl fk_numbers))), (bk_formulas, .inl (dC 100, 200, .inl fk_formulas)), (bk_held, .inl (dC 102, 200, .inl fk_held)), (bk_holds, .inl (dC 101, 200, .inr (.inl fk_holds))), (bk_found, .inl (dC 105, 885, .inr (.inr (.inr (.inr fk_found))))), (bk_names, .inl (dC 100, 6, .inl fk_names)), (bk_bodies, .inl (dC 100, 4, .inl fk_bodies)), (bk_parts, .inl (dC 100, 3, .inl fk_parts)), (bk_noteParts, .inl (dC 100, 72, .inl fk_noteParts)), (bk_over, .inl (dC 102, 600, .inl fk_over)), (bk_overs, .inl (dC 101, 600, .inr (.inl fk_overs))), (bk_places, .inl (dC 100, 750, .inl fk_places)), (bk_torn, .inl (dC 102, 150, .inl fk_torn)), (en, .inr (11, [e0, e1, e2, e3, e4, .int cg, e6, e7, e8, e9, e10, e11, e12, e13, e14, e15, e16, e17, e18, e19, e20, e21, e22, e23, e24, e25, e26]))] H) (hD : va_D A [(h0, .inr (0, [.ref st, .ref no, .ref ch, .ref he, .ref de, .ref fi, v6, .ref kp, .int 0, .int 0, .int 0])), (st, .inr (8, [.int 0, .int 0, .int 0, .ref a_columns, .ref a_rows, .ref a_content, .ref a_held, .ref a_other, .ref a_named, .ref a_body, .ref a_parts, .ref a_partCount, .ref a_refRow, .ref a_refColumn, .ref a_refToRow, .ref a_torn, .ref a_record, .int 0, .int 0, .int 0])), (a_columns, .inl (dC 100, 4, .inl g_columns)), (a_rows, .inl (dC 100, 4, .inl g_rows)), (a_content, .inl (dC 101, 200, .inr (.inl g_content))), (a_held, .inl (dC 101, 200, .inr (.inl g_held))), (a_other, .inl (dC 101, 600, .inr (.inl g_other))), (a_named, .inl (dC 100, 6, .inl g_named)), (a_body, .inl (dC 100, 4, .inl g_body)), (a_parts, .inl (dC 100, 24, .inl g_parts)), (a_partCount, .inl (dC 100, 3, .inl g_partCount)), (a_refRow, .inl (dC 100, 150, .inl g_refRow)), (a_refColumn, .inl (dC 100, 150, .inl g_refColumn)), (a_refToRow, .inl (dC 100, 150, .inl g_refToRow)), (a_torn, .inl (dC 102, 150, .inl g_torn)), (a_record, .inl (dC 100, 885, .inl g_record)), (kp, .inl (dC 103, 5, .inr (.inr (.inr (.inr gk))))), (k0, .inr (8, [.int 0, .int 0, .int 0, .ref ak_columns, .ref ak_rows, .ref ak_content, .ref ak_held, .ref ak_other, .ref ak_named, .ref ak_body, .ref ak_parts, .ref ak_partCount, .ref ak_refRow, .ref ak_refColumn, .ref ak_refToRow, .ref ak_torn, .ref ak_record, .int 0, .int 0, .int 0])), (ak_columns, .inl (dC 100, 4, .inl gk_columns)), (ak_rows, .inl (dC 100, 4, .inl gk_rows)), (ak_content, .inl (dC 101, 200, .inr (.inl gk_content))), (ak_held, .inl (dC 101, 200, .inr (.inl gk_held))), (ak_other, .inl (dC 101, 600, .inr (.inl gk_other))), (ak_named, .inl (dC 100, 6, .inl gk_named)), (ak_body, .inl (dC 100, 4, .inl gk_body)), (ak_parts, .inl (dC 100, 24, .inl gk_parts)), (ak_partCount, .inl (dC 100, 3, .inl gk_partCount)), (ak_refRow, .inl (dC 100, 150, .inl gk_refRow)), (ak_refColumn, .inl (dC 100, 150, .inl gk_refColumn)), (ak_refToRow, .inl (dC 100, 150, .inl gk_refToRow)), (ak_torn, .inl (dC 102, 150, .inl gk_torn)), (ak_record, .inl (dC 100, 885, .inl gk_record)), (de, .inr (2, [.ref st, .ref he, x2, .int 1, x4, .int 0, x6, x7, x8, x9, x10, x11, x12, x13, x14, x15, x16, x17, x18])), (m0, .inr (10, [.ref nw, .ref kq, .int 0, .int 0, z4, z5, z6, z7, z8, z9, z10, z11, z12, .ref en, z14, z15, z16])), (nw, .inr (12, [.ref b_rows, .ref b_columns, .int 0, .ref b_types, .ref b_numbers, .ref b_formulas, .ref b_held, .ref b_holds, .ref b_found, .ref b_names, .ref b_bodies, .int 0, .ref b_parts, .ref b_noteParts, .ref b_over, .ref b_overs, .long 0, .long 0, .int 0, .int 0, .ref b_places, .ref b_torn])), (b_rows, .inl (dC 100, 4, .inl f_rows)), (b_columns, .inl (dC 100, 4, .inl f_columns)), (b_types, .inl (dC 100, 200, .inl f_types)), (b_numbers, .inl (dC 101, 200, .inr (.inl f_numbers))), (b_formulas, .inl (dC 100, 200, .inl f_formulas)), (b_held, .inl (dC 102, 200, .inl f_held)), (b_holds, .inl (dC 101, 200, .inr (.inl f_holds))), (b_found, .inl (dC 105, 885, .inr (.inr (.inr (.inr f_found))))), (b_names, .inl (dC 100, 6, .inl f_names)), (b_bodies, .inl (dC 100, 4, .inl f_bodies)), (b_parts, .inl (dC 100, 3, .inl f_parts)), (b_noteParts, .inl (dC 100, 72, .inl f_noteParts)), (b_over, .inl (dC 102, 600, .inl f_over)), (b_overs, .inl (dC 101, 600, .inr (.inl f_overs))), (b_places, .inl (dC 100, 750, .inl f_places)), (b_torn, .inl (dC 102, 150, .inl f_torn)), (kq, .inl (dC 104, 5, .inr (.inr (.inr (.inr fq))))), (k9, .inr (12, [.ref bk_rows, .ref bk_columns, .int 0, .ref bk_types, .ref bk_numbers, .ref bk_formulas, .ref bk_held, .ref bk_holds, .ref bk_found, .ref bk_names, .ref bk_bodies, .int 0, .ref bk_parts, .ref bk_noteParts, .ref bk_over, .ref bk_overs, .long 0, .long 0, .int 0, .int 0, .ref bk_places, .ref bk_torn])), (bk_rows, .inl (dC 100, 4, .inl fk_rows)), (bk_columns, .inl (dC 100, 4, .inl fk_columns)), (bk_types, .inl (dC 100, 200, .inl fk_types)), (bk_numbers, .inl (dC 101, 200, .inr (.inl fk_numbers))), (bk_formulas, .inl (dC 100, 200, .inl fk_formulas)), (bk_held, .inl (dC 102, 200, .inl fk_held)), (bk_holds, .inl (dC 101, 200, .inr (.inl fk_holds))), (bk_found, .inl (dC 105, 885, .inr (.inr (.inr (.inr fk_found))))), (bk_names, .inl (dC 100, 6, .inl fk_names)), (bk_bodies, .inl (dC 100, 4, .inl fk_bodies)), (bk_parts, .inl (dC 100, 3, .inl fk_parts)), (bk_noteParts, .inl (dC 100, 72, .inl fk_noteParts)), (bk_over, .inl (dC 102, 600, .inl fk_over)), (bk_overs, .inl (dC 101, 600, .inr (.inl fk_overs))), (bk_places, .inl (dC 100, 750, .inl fk_places)), (bk_torn, .inl (dC 102, 150, .inl fk_torn)), (en, .inr (11, [e0, e1, e2, e3, e4, .int cg, e6, e7, e8, e9, e10, e11, e12, e13, e14, e15, e16, e17, e18, e19, e20, e21, e22, e23, e24, e25, e26]))]) (hS : va_S A s.heap H locs) (hl : lv_has ls 8 [(0, .ref b), (1, .ref h0), (2, .ref m0), (3, .ref ou), (4, .int 0)]) (hk0 : gk (0 : Int32).toNatClampNeg = some k0) (hfd : ∀ j, j < 885 → f_found j = none) (hk9 : fq (0 : Int32).toNatClampNeg = some k9) (hend : ∀ (H : Heap) (locs : List Loc) (ls : Array Slot), va_S A s.heap H locs → lv_has ls 8 [(4, .int 0), (0, .ref b)] → W p l e room_1 s m #[Value.ref b] below meth c H locs 600002 7302232 Z (F0 m 3410 ls [])) : W p l e room_1 s m #[Value.ref b] below meth c H locs 403 120029 Z (F0 m 1348 ls []) := by
  subst hL
  refine lv_aload_n hx hb dM_L_law_1348 rfl (lv_at hl 1 rfl) ?_
  refine lv_aload_n hx hb dM_L_law_1349 rfl (lv_at hl 0 rfl) ?_
  refine lv_iload hx hb dM_L_law_1350 (lv_at hl 4 rfl) ?_
  refine lv_iconst (v := 1) hx hb dM_L_law_1352 (by decide) ?_
  refine lv_iadd hx hb dM_L_law_1353 ?_
  refine lv_topi (fun y_1 ey_1 => ?_)
  obtain rfl : y_1 = 1 := ey_1.trans (by decide)
  refine va_sld hx hb hX hbl hbA hS (by unfold vp_in; decide) dM_L_law_1354 ?_
  refine lv_topi (fun y_2 ey_2 => ?_)
  refine lv_aload_n hx hb dM_L_law_1355 rfl (lv_at hl 0 rfl) ?_
  refine lv_iload hx hb dM_L_law_1356 (lv_at hl 4 rfl) ?_
  refine lv_iconst (v := 2) hx hb dM_L_law_1358 (by decide) ?_
  refine lv_iadd hx hb dM_L_law_1359 ?_
  refine lv_topi (fun y_3 ey_3 => ?_)
  obtain rfl : y_3 = 2 := ey_3.trans (by decide)
  refine va_sld hx hb hX hbl hbA hS (by unfold vp_in; decide) dM_L_law_1360 ?_
  refine lv_topi (fun y_4 ey_4 => ?_)
  have hFc := va_free (wc := [(h0, .inr (0, [.ref st, .ref no, .ref ch, .ref he, .ref de, .ref fi, v6, .ref kp, .int 0, .int 0, .int 0])), (st, .inr (8, [.int 0, .int 0, .int 0, .ref a_columns, .ref a_rows, .ref a_content, .ref a_held, .ref a_other, .ref a_named, .ref a_body, .ref a_parts, .ref a_partCount, .ref a_refRow, .ref a_refColumn, .ref a_refToRow, .ref a_torn, .ref a_record, .int 0, .int 0, .int 0])), (a_columns, .inl (dC 100, 4, .inl g_columns)), (a_rows, .inl (dC 100, 4, .inl g_rows)), (a_content, .inl (dC 101, 200, .inr (.inl g_content))), (a_held, .inl (dC 101, 200, .inr (.inl g_held))), (a_other, .inl (dC 101, 600, .inr (.inl g_other))), (a_named, .inl (dC 100, 6, .inl g_named)), (a_body, .inl (dC 100, 4, .inl g_body)), (a_parts, .inl (dC 100, 24, .inl g_parts)), (a_partCount, .inl (dC 100, 3, .inl g_partCount)), (a_refRow, .inl (dC 100, 150, .inl g_refRow)), (a_refColumn, .inl (dC 100, 150, .inl g_refColumn)), (a_refToRow, .inl (dC 100, 150, .inl g_refToRow)), (a_torn, .inl (dC 102, 150, .inl g_torn)), (a_record, .inl (dC 100, 885, .inl g_record)), (kp, .inl (dC 103, 5, .inr (.inr (.inr (.inr gk))))), (k0, .inr (8, [.int 0, .int 0, .int 0, .ref ak_columns, .ref ak_rows, .ref ak_content, .ref ak_held, .ref ak_other, .ref ak_named, .ref ak_body, .ref ak_parts, .ref ak_partCount, .ref ak_refRow, .ref ak_refColumn, .ref ak_refToRow, .ref ak_torn, .ref ak_record, .int 0, .int 0, .int 0])), (ak_columns, .inl (dC 100, 4, .inl gk_columns)), (ak_rows, .inl (dC 100, 4, .inl gk_rows)), (ak_content, .inl (dC 101, 200, .inr (.inl gk_content))), (ak_held, .inl (dC 101, 200, .inr (.inl gk_held))), (ak_other, .inl (dC 101, 600, .inr (.inl gk_other))), (ak_named, .inl (dC 100, 6, .inl gk_named)), (ak_body, .inl (dC 100, 4, .inl gk_body)), (ak_parts, .inl (dC 100, 24, .inl gk_parts)), (ak_partCount, .inl (dC 100, 3, .inl gk_partCount)), (ak_refRow, .inl (dC 100, 150, .inl gk_refRow)), (ak_refColumn, .inl (dC 100, 150, .inl gk_refColumn)), (ak_refToRow, .inl (dC 100, 150, .inl gk_refToRow)), (ak_torn, .inl (dC 102, 150, .inl gk_torn)), (ak_record, .inl (dC 100, 885, .inl gk_record)), (de, .inr (2, [.ref st, .ref he, x2, .int 1, x4, .int 0, x6, x7, x8, x9, x10, x11, x12, x13, x14, x15, x16, x17, x18]))]) hD hS hA [0, 1, 2, 3, 4, 5, 6, 7, 8, 9, 10, 11, 12, 13, 14, 15, 16, 17, 18, 19, 20, 21, 22, 23, 24, 25, 26, 27, 28, 29, 30, 31, 32] rfl
  refine va_calli (vx_runSW (As := [.ref h0, .int y_2, .int y_4]) (rest := []) ⟨hx, hb, hml, hown, hbg⟩ (c_L_name l hl9 dC dI h0 y_2 y_4 st no ch he de fi v6 kp a_columns a_rows a_content a_held a_other a_named a_body a_parts a_partCount a_refRow a_refColumn a_refToRow a_torn a_record g_columns g_rows g_content g_held g_other g_named g_body g_parts g_partCount g_refRow g_refColumn g_refToRow g_torn g_record gk k0 ak_columns ak_rows ak_content ak_held ak_other ak_named ak_body ak_parts ak_partCount ak_refRow ak_refColumn ak_refToRow ak_torn ak_record gk_columns gk_rows gk_content gk_held gk_other gk_named gk_body gk_parts gk_partCount gk_refRow gk_refColumn gk_refToRow gk_torn gk_record x2 x4 x6 x7 x8 x9 x10 x11 x12 x13 x14 x15 x16 x17 x18 _ (hk0)) (vx_cwSW 3 hbg (gd_S (fun _ h => h) wd_1303 wd_1304 wd_0 (gd_wmW (fun _ h => h) wd_1305)) rfl rfl rfl (by decide +kernel) ⟨Nat.le_of_ble_eq_true rfl, Nat.le_of_ble_eq_true rfl⟩) (nPreS [0, 1, 2, 3, 4, 5, 6, 7, 8, 9, 10, 11, 12, 13, 14, 15, 16, 17, 18, 19, 20, 21, 22, 23, 24, 25, 26, 27, 28, 29, 30, 31, 32] hP hD hK hN hS hA (by decide) rfl) rfl rfl hl.1 rfl (lv_room (Nat.le_of_ble_eq_true rfl)) dM_L_law_1361 ⟨Nat.le_of_ble_eq_true rfl, Nat.le_of_ble_eq_true rfl⟩) hS (fun q _ h => hFc q h) hFc (fun r_5 u t H1 locs ht hvm hw hB hz1 hk1 hS => ?_)
  rcases hw with ⟨c_6, rfl⟩ | ⟨c_7, rfl⟩ | ⟨c_8, rfl⟩
  · --
    obtain ⟨hP, hD⟩ := va_join (wr := [(m0, .inr (10, [.ref nw, .ref kq, .int 0, .int 0, z4, z5, z6, z7, z8, z9, z10, z11, z12, .ref en, z14, z15, z16])), (nw, .inr (12, [.ref b_rows, .ref b_columns, .int 0, .ref b_types, .ref b_numbers, .ref b_formulas, .ref b_held, .ref b_holds, .ref b_found, .ref b_names, .ref b_bodies, .int 0, .ref b_parts, .ref b_noteParts, .ref b_over, .ref b_overs, .long 0, .long 0, .int 0, .int 0, .ref b_places, .ref b_torn])), (b_rows, .inl (dC 100, 4, .inl f_rows)), (b_columns, .inl (dC 100, 4, .inl f_columns)), (b_types, .inl (dC 100, 200, .inl f_types)), (b_numbers, .inl (dC 101, 200, .inr (.inl f_numbers))), (b_formulas, .inl (dC 100, 200, .inl f_formulas)), (b_held, .inl (dC 102, 200, .inl f_held)), (b_holds, .inl (dC 101, 200, .inr (.inl f_holds))), (b_found, .inl (dC 105, 885, .inr (.inr (.inr (.inr f_found))))), (b_names, .inl (dC 100, 6, .inl f_names)), (b_bodies, .inl (dC 100, 4, .inl f_bodies)), (b_parts, .inl (dC 100, 3, .inl f_parts)), (b_noteParts, .inl (dC 100, 72, .inl f_noteParts)), (b_over, .inl (dC 102, 600, .inl f_over)), (b_overs, .inl (dC 101, 600, .inr (.inl f_overs))), (b_places, .inl (dC 100, 750, .inl f_places)), (b_torn, .inl (dC 102, 150, .inl f_torn)), (kq, .inl (dC 104, 5, .inr (.inr (.inr (.inr fq))))), (k9, .inr (12, [.ref bk_rows, .ref bk_columns, .int 0, .ref bk_types, .ref bk_numbers, .ref bk_formulas, .ref bk_held, .ref bk_holds, .ref bk_found, .ref bk_names, .ref bk_bodies, .int 0, .ref bk_parts, .ref bk_noteParts, .ref bk_over, .ref bk_overs, .long 0, .long 0, .int 0, .int 0, .ref bk_places, .ref bk_torn])), (bk_rows, .inl (dC 100, 4, .inl fk_rows)), (bk_columns, .inl (dC 100, 4, .inl fk_columns)), (bk_types, .inl (dC 100, 200, .inl fk_types)), (bk_numbers, .inl (dC 101, 200, .inr (.inl fk_numbers))), (bk_formulas, .inl (dC 100, 200, .inl fk_formulas)), (bk_held, .inl (dC 102, 200, .inl fk_held)), (bk_holds, .inl (dC 101, 200, .inr (.inl fk_holds))), (bk_found, .inl (dC 105, 885, .inr (.inr (.inr (.inr fk_found))))), (bk_names, .inl (dC 100, 6, .inl fk_names)), (bk_bodies, .inl (dC 100, 4, .inl fk_bodies)), (bk_parts, .inl (dC 100, 3, .inl fk_parts)), (bk_noteParts, .inl (dC 100, 72, .inl fk_noteParts)), (bk_over, .inl (dC 102, 600, .inl fk_over)), (bk_overs, .inl (dC 101, 600, .inr (.inl fk_overs))), (bk_places, .inl (dC 100, 750, .inl fk_places)), (bk_torn, .inl (dC 102, 150, .inl fk_torn)), (en, .inr (11, [e0, e1, e2, e3, e4, .int cg, e6, e7, e8, e9, e10, e11, e12, e13, e14, e15, e16, e17, e18, e19, e20, e21, e22, e23, e24, e25, e26]))]) (w1 := []) hP hD [0, 1, 2, 3, 4, 5, 6, 7, 8, 9, 10, 11, 12, 13, 14, 15, 16, 17, 18, 19, 20, 21, 22, 23, 24, 25, 26, 27, 28, 29, 30, 31, 32] [33, 34, 35, 36, 37, 38, 39, 40, 41, 42, 43, 44, 45, 46, 47, 48, 49, 50, 51, 52, 53, 54, 55, 56, 57, 58, 59, 60, 61, 62, 63, 64, 65, 66, 67, 68, 69] rfl rfl (by decide) (by decide) hk1 hFc nP0 nD0
    generalize H1 = H at hP hS ⊢
    have hP : va_P (dC, dI) classes [(m0, .inr (10, [.ref nw, .ref kq, .int 0, .int 0, z4, z5, z6, z7, z8, z9, z10, z11, z12, .ref en, z14, z15, z16])), (nw, .inr (12, [.ref b_rows, .ref b_columns, .int 0, .ref b_types, .ref b_numbers, .ref b_formulas, .ref b_held, .ref b_holds, .ref b_found, .ref b_names, .ref b_bodies, .int 0, .ref b_parts, .ref b_noteParts, .ref b_over, .ref b_overs, .long 0, .long 0, .int 0, .int 0, .ref b_places, .ref b_torn])), (b_rows, .inl (dC 100, 4, .inl f_rows)), (b_columns, .inl (dC 100, 4, .inl f_columns)), (b_types, .inl (dC 100, 200, .inl f_types)), (b_numbers, .inl (dC 101, 200, .inr (.inl f_numbers))), (b_formulas, .inl (dC 100, 200, .inl f_formulas)), (b_held, .inl (dC 102, 200, .inl f_held)), (b_holds, .inl (dC 101, 200, .inr (.inl f_holds))), (b_found, .inl (dC 105, 885, .inr (.inr (.inr (.inr f_found))))), (b_names, .inl (dC 100, 6, .inl f_names)), (b_bodies, .inl (dC 100, 4, .inl f_bodies)), (b_parts, .inl (dC 100, 3, .inl f_parts)), (b_noteParts, .inl (dC 100, 72, .inl f_noteParts)), (b_over, .inl (dC 102, 600, .inl f_over)), (b_overs, .inl (dC 101, 600, .inr (.inl f_overs))), (b_places, .inl (dC 100, 750, .inl f_places)), (b_torn, .inl (dC 102, 150, .inl f_torn)), (kq, .inl (dC 104, 5, .inr (.inr (.inr (.inr fq))))), (k9, .inr (12, [.ref bk_rows, .ref bk_columns, .int 0, .ref bk_types, .ref bk_numbers, .ref bk_formulas, .ref bk_held, .ref bk_holds, .ref bk_found, .ref bk_names, .ref bk_bodies, .int 0, .ref bk_parts, .ref bk_noteParts, .ref bk_over, .ref bk_overs, .long 0, .long 0, .int 0, .int 0, .ref bk_places, .ref bk_torn])), (bk_rows, .inl (dC 100, 4, .inl fk_rows)), (bk_columns, .inl (dC 100, 4, .inl fk_columns)), (bk_types, .inl (dC 100, 200, .inl fk_types)), (bk_numbers, .inl (dC 101, 200, .inr (.inl fk_numbers))), (bk_formulas, .inl (dC 100, 200, .inl fk_formulas)), (bk_held, .inl (dC 102, 200, .inl fk_held)), (bk_holds, .inl (dC 101, 200, .inr (.inl fk_holds))), (bk_found, .inl (dC 105, 885, .inr (.inr (.inr (.inr fk_found))))), (bk_names, .inl (dC 100, 6, .inl fk_names)), (bk_bodies, .inl (dC 100, 4, .inl fk_bodies)), (bk_parts, .inl (dC 100, 3, .inl fk_parts)), (bk_noteParts, .inl (dC 100, 72, .inl fk_noteParts)), (bk_over, .inl (dC 102, 600, .inl fk_over)), (bk_overs, .inl (dC 101, 600, .inr (.inl fk_overs))), (bk_places, .inl (dC 100, 750, .inl fk_places)), (bk_torn, .inl (dC 102, 150, .inl fk_torn)), (en, .inr (11, [e0, e1, e2, e3, e4, .int cg, e6, e7, e8, e9, e10, e11, e12, e13, e14, e15, e16, e17, e18, e19, e20, e21, e22, e23, e24, e25, e26]))] H := hP
    have hD : va_D A [(m0, .inr (10, [.ref nw, .ref kq, .int 0, .int 0, z4, z5, z6, z7, z8, z9, z10, z11, z12, .ref en, z14, z15, z16])), (nw, .inr (12, [.ref b_rows, .ref b_columns, .int 0, .ref b_types, .ref b_numbers, .ref b_formulas, .ref b_held, .ref b_holds, .ref b_found, .ref b_names, .ref b_bodies, .int 0, .ref b_parts, .ref b_noteParts, .ref b_over, .ref b_overs, .long 0, .long 0, .int 0, .int 0, .ref b_places, .ref b_torn])), (b_rows, .inl (dC 100, 4, .inl f_rows)), (b_columns, .inl (dC 100, 4, .inl f_columns)), (b_types, .inl (dC 100, 200, .inl f_types)), (b_numbers, .inl (dC 101, 200, .inr (.inl f_numbers))), (b_formulas, .inl (dC 100, 200, .inl f_formulas)), (b_held, .inl (dC 102, 200, .inl f_held)), (b_holds, .inl (dC 101, 200, .inr (.inl f_holds))), (b_found, .inl (dC 105, 885, .inr (.inr (.inr (.inr f_found))))), (b_names, .inl (dC 100, 6, .inl f_names)), (b_bodies, .inl (dC 100, 4, .inl f_bodies)), (b_parts, .inl (dC 100, 3, .inl f_parts)), (b_noteParts, .inl (dC 100, 72, .inl f_noteParts)), (b_over, .inl (dC 102, 600, .inl f_over)), (b_overs, .inl (dC 101, 600, .inr (.inl f_overs))), (b_places, .inl (dC 100, 750, .inl f_places)), (b_torn, .inl (dC 102, 150, .inl f_torn)), (kq, .inl (dC 104, 5, .inr (.inr (.inr (.inr fq))))), (k9, .inr (12, [.ref bk_rows, .ref bk_columns, .int 0, .ref bk_types, .ref bk_numbers, .ref bk_formulas, .ref bk_held, .ref bk_holds, .ref bk_found, .ref bk_names, .ref bk_bodies, .int 0, .ref bk_parts, .ref bk_noteParts, .ref bk_over, .ref bk_overs, .long 0, .long 0, .int 0, .int 0, .ref bk_places, .ref bk_torn])), (bk_rows, .inl (dC 100, 4, .inl fk_rows)), (bk_columns, .inl (dC 100, 4, .inl fk_columns)), (bk_types, .inl (dC 100, 200, .inl fk_types)), (bk_numbers, .inl (dC 101, 200, .inr (.inl fk_numbers))), (bk_formulas, .inl (dC 100, 200, .inl fk_formulas)), (bk_held, .inl (dC 102, 200, .inl fk_held)), (bk_holds, .inl (dC 101, 200, .inr (.inl fk_holds))), (bk_found, .inl (dC 105, 885, .inr (.inr (.inr (.inr fk_found))))), (bk_names, .inl (dC 100, 6, .inl fk_names)), (bk_bodies, .inl (dC 100, 4, .inl fk_bodies)), (bk_parts, .inl (dC 100, 3, .inl fk_parts)), (bk_noteParts, .inl (dC 100, 72, .inl fk_noteParts)), (bk_over, .inl (dC 102, 600, .inl fk_over)), (bk_overs, .inl (dC 101, 600, .inr (.inl fk_overs))), (bk_places, .inl (dC 100, 750, .inl fk_places)), (bk_torn, .inl (dC 102, 150, .inl fk_torn)), (en, .inr (11, [e0, e1, e2, e3, e4, .int cg, e6, e7, e8, e9, e10, e11, e12, e13, e14, e15, e16, e17, e18, e19, e20, e21, e22, e23, e24, e25, e26]))] := hD
    refine W.widen (k := 404) (n := 120035) (Nat.le_of_ble_eq_true rfl) (Nat.le_of_ble_eq_true rfl) ?_
    refine lv_istore (lv' := [(5, .int 0), (0, .ref b), (1, .ref h0), (2, .ref m0), (3, .ref ou), (4, .int 0)]) hx hb dM_L_law_1364 hl (by decide) rfl (fun ls hl => ?_)
    refine lv_aload_n hx hb dM_L_law_1366 rfl (lv_at hl 3 rfl) ?_
    refine lv_aload_n hx hb dM_L_law_1367 rfl (lv_at hl 1 rfl) ?_
    refine lv_iload hx hb dM_L_law_1368 (lv_at hl 5 rfl) ?_
    refine lv_iconst (v := 1) hx hb dM_L_law_1370 (by decide) ?_
    refine lv_iadd hx hb dM_L_law_1371 ?_
    refine lv_topi (fun y_9 ey_9 => ?_)
    obtain rfl : y_9 = 1 := ey_9.trans (by decide)
    refine va_sld hx hb hX hbl hbA hS (by unfold vp_in; decide) dM_L_law_1372 ?_
    refine lv_topi (fun y_10 ey_10 => ?_)
    obtain rfl : y_2 = y_10 := ey_2.trans ey_10.symm
    refine lv_aload_n hx hb dM_L_law_1373 rfl (lv_at hl 1 rfl) ?_
    refine lv_iload hx hb dM_L_law_1374 (lv_at hl 5 rfl) ?_
    refine lv_iconst (v := 2) hx hb dM_L_law_1376 (by decide) ?_
    refine lv_iadd hx hb dM_L_law_1377 ?_
    refine lv_topi (fun y_11 ey_11 => ?_)
    obtain rfl : y_11 = 2 := ey_11.trans (by decide)
    refine va_sld hx hb hX hbl hbA hS (by unfold vp_in; decide) dM_L_law_1378 ?_
    refine lv_topi (fun y_12 ey_12 => ?_)
    obtain rfl : y_4 = y_12 := ey_4.trans ey_12.symm
    have hFc := va_free (wc := [(m0, .inr (10, [.ref nw, .ref kq, .int 0, .int 0, z4, z5, z6, z7, z8, z9, z10, z11, z12, .ref en, z14, z15, z16])), (nw, .inr (12, [.ref b_rows, .ref b_columns, .int 0, .ref b_types, .ref b_numbers, .ref b_formulas, .ref b_held, .ref b_holds, .ref b_found, .ref b_names, .ref b_bodies, .int 0, .ref b_parts, .ref b_noteParts, .ref b_over, .ref b_overs, .long 0, .long 0, .int 0, .int 0, .ref b_places, .ref b_torn])), (b_rows, .inl (dC 100, 4, .inl f_rows)), (b_columns, .inl (dC 100, 4, .inl f_columns)), (b_types, .inl (dC 100, 200, .inl f_types)), (b_numbers, .inl (dC 101, 200, .inr (.inl f_numbers))), (b_formulas, .inl (dC 100, 200, .inl f_formulas)), (b_held, .inl (dC 102, 200, .inl f_held)), (b_holds, .inl (dC 101, 200, .inr (.inl f_holds))), (b_found, .inl (dC 105, 885, .inr (.inr (.inr (.inr f_found))))), (b_names, .inl (dC 100, 6, .inl f_names)), (b_bodies, .inl (dC 100, 4, .inl f_bodies)), (b_parts, .inl (dC 100, 3, .inl f_parts)), (b_noteParts, .inl (dC 100, 72, .inl f_noteParts)), (b_over, .inl (dC 102, 600, .inl f_over)), (b_overs, .inl (dC 101, 600, .inr (.inl f_overs))), (b_places, .inl (dC 100, 750, .inl f_places)), (b_torn, .inl (dC 102, 150, .inl f_torn)), (kq, .inl (dC 104, 5, .inr (.inr (.inr (.inr fq))))), (k9, .inr (12, [.ref bk_rows, .ref bk_columns, .int 0, .ref bk_types, .ref bk_numbers, .ref bk_formulas, .ref bk_held, .ref bk_holds, .ref bk_found, .ref bk_names, .ref bk_bodies, .int 0, .ref bk_parts, .ref bk_noteParts, .ref bk_over, .ref bk_overs, .long 0, .long 0, .int 0, .int 0, .ref bk_places, .ref bk_torn])), (bk_rows, .inl (dC 100, 4, .inl fk_rows)), (bk_columns, .inl (dC 100, 4, .inl fk_columns)), (bk_types, .inl (dC 100, 200, .inl fk_types)), (bk_numbers, .inl (dC 101, 200, .inr (.inl fk_numbers))), (bk_formulas, .inl (dC 100, 200, .inl fk_formulas)), (bk_held, .inl (dC 102, 200, .inl fk_held)), (bk_holds, .inl (dC 101, 200, .inr (.inl fk_holds))), (bk_found, .inl (dC 105, 885, .inr (.inr (.inr (.inr fk_found))))), (bk_names, .inl (dC 100, 6, .inl fk_names)), (bk_bodies, .inl (dC 100, 4, .inl fk_bodies)), (bk_parts, .inl (dC 100, 3, .inl fk_parts)), (bk_noteParts, .inl (dC 100, 72, .inl fk_noteParts)), (bk_over, .inl (dC 102, 600, .inl fk_over)), (bk_overs, .inl (dC 101, 600, .inr (.inl fk_overs))), (bk_places, .inl (dC 100, 750, .inl fk_places)), (bk_torn, .inl (dC 102, 150, .inl fk_torn)), (en, .inr (11, [e0, e1, e2, e3, e4, .int cg, e6, e7, e8, e9, e10, e11, e12, e13, e14, e15, e16, e17, e18, e19, e20, e21, e22, e23, e24, e25, e26]))]) hD hS hA [0, 1, 2, 3, 4, 5, 6, 7, 8, 9, 10, 11, 12, 13, 14, 15, 16, 17, 18, 19, 20, 21, 22, 23, 24, 25, 26, 27, 28, 29, 30, 31, 32, 33, 34, 35, 36] rfl
    refine va_callv (va_runV (As := [.int y_2, .int y_4]) (rest := []) ⟨hx, hb, hml, hown, hbg⟩ (c_M_name l dC dI m0 y_2 y_4 nw kq z4 z5 z6 z7 z8 z9 z10 z11 z12 en z14 z15 z16 b_rows b_columns b_types b_numbers b_formulas b_held b_holds b_found b_names b_bodies b_parts b_noteParts b_over b_overs b_places b_torn f_rows f_columns f_types f_numbers f_formulas f_held f_holds f_found f_names f_bodies f_parts f_noteParts f_over f_overs f_places f_torn fq k9 bk_rows bk_columns bk_types bk_numbers bk_formulas bk_held bk_holds bk_found bk_names bk_bodies bk_parts bk_noteParts bk_over bk_overs bk_places bk_torn fk_rows fk_columns fk_types fk_numbers fk_formulas fk_held fk_holds fk_found fk_names fk_bodies fk_parts fk_noteParts fk_over fk_overs fk_places fk_torn e0 e1 e2 e3 e4 cg e6 e7 e8 e9 e10 e11 e12 e13 e14 e15 e16 e17 e18 e19 e20 e21 e22 e23 e24 e25 e26 _ (hfd) (hk9)) (cwV 2 hbg (gd_V (fun _ h => h) wd_2644 wd_2645 wd_2646 wd_12 (gd_wm (fun _ h => h) wd_2647)) rfl rfl rfl (by decide +kernel) ⟨Nat.le_of_ble_eq_true rfl, Nat.le_of_ble_eq_true rfl⟩) (nPreV [0, 1, 2, 3, 4, 5, 6, 7, 8, 9, 10, 11, 12, 13, 14, 15, 16, 17, 18, 19, 20, 21, 22, 23, 24, 25, 26, 27, 28, 29, 30, 31, 32, 33, 34, 35, 36] hP hD hK hN hS hA (by decide) rfl 0 rfl rfl) rfl rfl hl.1 rfl (lv_room (Nat.le_of_ble_eq_true rfl)) dM_L_law_1379 ⟨Nat.le_of_ble_eq_true rfl, Nat.le_of_ble_eq_true rfl⟩) hS (fun q _ h => hFc q h) hFc (fun u t H1 locs ht hvm hw hB hz1 hk1 hS => ?_)
    rcases hw with ⟨c_14, rfl⟩ | ⟨c_15, rfl⟩ | ⟨c_16, rfl⟩
    · --
      obtain ⟨r0_17, r1_18, r2_19, r3_20, r4_21, r5_22, r6_23, r7_24, r8_25, r9_26, r10_27, r11_28, r12_29, r13_30, r14_31, r15_32, hP1, hD1⟩ := hB
      rw [ht] at hP1
      obtain ⟨hP, hD⟩ := va_join (wr := []) (w1 := [(m0, .inr (10, [r0_17, r1_18, r2_19, r3_20, r4_21, r5_22, r6_23, r7_24, r8_25, r9_26, r10_27, r11_28, r12_29, r13_30, r14_31, r15_32, .int 0]))]) hP hD [0, 1, 2, 3, 4, 5, 6, 7, 8, 9, 10, 11, 12, 13, 14, 15, 16, 17, 18, 19, 20, 21, 22, 23, 24, 25, 26, 27, 28, 29, 30, 31, 32, 33, 34, 35, 36] [] rfl rfl (by decide) (by decide) hk1 hFc hP1 hD1
      generalize H1 = H at hP hS ⊢
      have hP : va_P (dC, dI) classes [(m0, .inr (10, [r0_17, r1_18, r2_19, r3_20, r4_21, r5_22, r6_23, r7_24, r8_25, r9_26, r10_27, r11_28, r12_29, r13_30, r14_31, r15_32, .int 0]))] H := hP
      have hD : va_D A [(m0, .inr (10, [r0_17, r1_18, r2_19, r3_20, r4_21, r5_22, r6_23, r7_24, r8_25, r9_26, r10_27, r11_28, r12_29, r13_30, r14_31, r15_32, .int 0]))] := hD
      refine W.widen (k := 404) (n := 120035) (Nat.le_of_ble_eq_true rfl) (Nat.le_of_ble_eq_true rfl) ?_
      refine lv_aload_n hx hb dM_L_law_1382 rfl (lv_at hl 3 rfl) ?_
      have hFc := va_free (wc := [(m0, .inr (10, [r0_17, r1_18, r2_19, r3_20, r4_21, r5_22, r6_23, r7_24, r8_25, r9_26, r10_27, r11_28, r12_29, r13_30, r14_31, r15_32, .int 0]))]) hD hS hA [0] rfl
      refine va_calli (va_runV (As := []) (rest := []) ⟨hx, hb, hml, hown, hbg⟩ (c_M_thrown l dC dI m0 r0_17 r1_18 r2_19 r3_20 r4_21 r5_22 r6_23 r7_24 r8_25 r9_26 r10_27 r11_28 r12_29 r13_30 r14_31 r15_32 0 _ ) (cwV 0 hbg (gd_V (fun _ h => h) wd_2190 wd_2191 wd_2192 wd_12 (gd_wm (fun _ h => h) wd_2193)) rfl rfl rfl (by decide +kernel) ⟨Nat.le_of_ble_eq_true rfl, Nat.le_of_ble_eq_true rfl⟩) (nPreV [0] hP hD hK hN hS hA (by decide) rfl 0 rfl rfl) rfl rfl hl.1 rfl (lv_room (Nat.le_of_ble_eq_true rfl)) dM_L_law_1383 ⟨Nat.le_of_ble_eq_true rfl, Nat.le_of_ble_eq_true rfl⟩) hS (fun q _ h => hFc q h) hFc (fun r_33 u t H1 locs ht hvm hw hB hz1 hk1 hS => ?_)
      obtain ⟨rfl, rfl⟩ := hw
      obtain ⟨r0_35, r1_36, r2_37, r3_38, r4_39, r5_40, r6_41, r7_42, r8_43, r9_44, r10_45, r11_46, r12_47, r13_48, r14_49, r15_50, hP1, hD1⟩ := hB
      rw [ht] at hP1
      obtain ⟨hP, hD⟩ := va_join (wr := []) (w1 := [(m0, .inr (10, [r0_35, r1_36, r2_37, r3_38, r4_39, r5_40, r6_41, r7_42, r8_43, r9_44, r10_45, r11_46, r12_47, r13_48, r14_49, r15_50, .int 0]))]) hP hD [0] [] rfl rfl (by decide) (by decide) hk1 hFc hP1 hD1
      generalize H1 = H at hP hS ⊢
      have hP : va_P (dC, dI) classes [(m0, .inr (10, [r0_35, r1_36, r2_37, r3_38, r4_39, r5_40, r6_41, r7_42, r8_43, r9_44, r10_45, r11_46, r12_47, r13_48, r14_49, r15_50, .int 0]))] H := hP
      have hD : va_D A [(m0, .inr (10, [r0_35, r1_36, r2_37, r3_38, r4_39, r5_40, r6_41, r7_42, r8_43, r9_44, r10_45, r11_46, r12_47, r13_48, r14_49, r15_50, .int 0]))] := hD
      refine W.widen (k := 404) (n := 120035) (Nat.le_of_ble_eq_true rfl) (Nat.le_of_ble_eq_true rfl) ?_
      refine lv_iload hx hb dM_L_law_1386 (lv_at hl 0 rfl) ?_
      refine lv_icmp_eq (tgt := 1393) hx hb dM_L_law_1388 (by decide) (fun _ => ?_) (fun q => absurd (by decide) q)
      refine lv_goto (tgt := 3410) hx hb dM_L_law_1393 (by decide) ?_
      refine W.widen (k := 600002) (n := 7302232) (Nat.le_of_ble_eq_true rfl) (Nat.le_of_ble_eq_true rfl) ?_
      exact hend _ _ _ hS (lv_sub hl [5, 1] rfl)
    · --
      exact (n_andn c_6 c_15).elim
    · --
      exact (n_and2 c_6 c_16).elim
  · --
    obtain ⟨hP, hD⟩ := va_join (wr := [(m0, .inr (10, [.ref nw, .ref kq, .int 0, .int 0, z4, z5, z6, z7, z8, z9, z10, z11, z12, .ref en, z14, z15, z16])), (nw, .inr (12, [.ref b_rows, .ref b_columns, .int 0, .ref b_types, .ref b_numbers, .ref b_formulas, .ref b_held, .ref b_holds, .ref b_found, .ref b_names, .ref b_bodies, .int 0, .ref b_parts, .ref b_noteParts, .ref b_over, .ref b_overs, .long 0, .long 0, .int 0, .int 0, .ref b_places, .ref b_torn])), (b_rows, .inl (dC 100, 4, .inl f_rows)), (b_columns, .inl (dC 100, 4, .inl f_columns)), (b_types, .inl (dC 100, 200, .inl f_types)), (b_numbers, .inl (dC 101, 200, .inr (.inl f_numbers))), (b_formulas, .inl (dC 100, 200, .inl f_formulas)), (b_held, .inl (dC 102, 200, .inl f_held)), (b_holds, .inl (dC 101, 200, .inr (.inl f_holds))), (b_found, .inl (dC 105, 885, .inr (.inr (.inr (.inr f_found))))), (b_names, .inl (dC 100, 6, .inl f_names)), (b_bodies, .inl (dC 100, 4, .inl f_bodies)), (b_parts, .inl (dC 100, 3, .inl f_parts)), (b_noteParts, .inl (dC 100, 72, .inl f_noteParts)), (b_over, .inl (dC 102, 600, .inl f_over)), (b_overs, .inl (dC 101, 600, .inr (.inl f_overs))), (b_places, .inl (dC 100, 750, .inl f_places)), (b_torn, .inl (dC 102, 150, .inl f_torn)), (kq, .inl (dC 104, 5, .inr (.inr (.inr (.inr fq))))), (k9, .inr (12, [.ref bk_rows, .ref bk_columns, .int 0, .ref bk_types, .ref bk_numbers, .ref bk_formulas, .ref bk_held, .ref bk_holds, .ref bk_found, .ref bk_names, .ref bk_bodies, .int 0, .ref bk_parts, .ref bk_noteParts, .ref bk_over, .ref bk_overs, .long 0, .long 0, .int 0, .int 0, .ref bk_places, .ref bk_torn])), (bk_rows, .inl (dC 100, 4, .inl fk_rows)), (bk_columns, .inl (dC 100, 4, .inl fk_columns)), (bk_types, .inl (dC 100, 200, .inl fk_types)), (bk_numbers, .inl (dC 101, 200, .inr (.inl fk_numbers))), (bk_formulas, .inl (dC 100, 200, .inl fk_formulas)), (bk_held, .inl (dC 102, 200, .inl fk_held)), (bk_holds, .inl (dC 101, 200, .inr (.inl fk_holds))), (bk_found, .inl (dC 105, 885, .inr (.inr (.inr (.inr fk_found))))), (bk_names, .inl (dC 100, 6, .inl fk_names)), (bk_bodies, .inl (dC 100, 4, .inl fk_bodies)), (bk_parts, .inl (dC 100, 3, .inl fk_parts)), (bk_noteParts, .inl (dC 100, 72, .inl fk_noteParts)), (bk_over, .inl (dC 102, 600, .inl fk_over)), (bk_overs, .inl (dC 101, 600, .inr (.inl fk_overs))), (bk_places, .inl (dC 100, 750, .inl fk_places)), (bk_torn, .inl (dC 102, 150, .inl fk_torn)), (en, .inr (11, [e0, e1, e2, e3, e4, .int cg, e6, e7, e8, e9, e10, e11, e12, e13, e14, e15, e16, e17, e18, e19, e20, e21, e22, e23, e24, e25, e26]))]) (w1 := []) hP hD [0, 1, 2, 3, 4, 5, 6, 7, 8, 9, 10, 11, 12, 13, 14, 15, 16, 17, 18, 19, 20, 21, 22, 23, 24, 25, 26, 27, 28, 29, 30, 31, 32] [33, 34, 35, 36, 37, 38, 39, 40, 41, 42, 43, 44, 45, 46, 47, 48, 49, 50, 51, 52, 53, 54, 55, 56, 57, 58, 59, 60, 61, 62, 63, 64, 65, 66, 67, 68, 69] rfl rfl (by decide) (by decide) hk1 hFc nP0 nD0
    generalize H1 = H at hP hS ⊢
    have hP : va_P (dC, dI) classes [(m0, .inr (10, [.ref nw, .ref kq, .int 0, .int 0, z4, z5, z6, z7, z8, z9, z10, z11, z12, .ref en, z14, z15, z16])), (nw, .inr (12, [.ref b_rows, .ref b_columns, .int 0, .ref b_types, .ref b_numbers, .ref b_formulas, .ref b_held, .ref b_holds, .ref b_found, .ref b_names, .ref b_bodies, .int 0, .ref b_parts, .ref b_noteParts, .ref b_over, .ref b_overs, .long 0, .long 0, .int 0, .int 0, .ref b_places, .ref b_torn])), (b_rows, .inl (dC 100, 4, .inl f_rows)), (b_columns, .inl (dC 100, 4, .inl f_columns)), (b_types, .inl (dC 100, 200, .inl f_types)), (b_numbers, .inl (dC 101, 200, .inr (.inl f_numbers))), (b_formulas, .inl (dC 100, 200, .inl f_formulas)), (b_held, .inl (dC 102, 200, .inl f_held)), (b_holds, .inl (dC 101, 200, .inr (.inl f_holds))), (b_found, .inl (dC 105, 885, .inr (.inr (.inr (.inr f_found))))), (b_names, .inl (dC 100, 6, .inl f_names)), (b_bodies, .inl (dC 100, 4, .inl f_bodies)), (b_parts, .inl (dC 100, 3, .inl f_parts)), (b_noteParts, .inl (dC 100, 72, .inl f_noteParts)), (b_over, .inl (dC 102, 600, .inl f_over)), (b_overs, .inl (dC 101, 600, .inr (.inl f_overs))), (b_places, .inl (dC 100, 750, .inl f_places)), (b_torn, .inl (dC 102, 150, .inl f_torn)), (kq, .inl (dC 104, 5, .inr (.inr (.inr (.inr fq))))), (k9, .inr (12, [.ref bk_rows, .ref bk_columns, .int 0, .ref bk_types, .ref bk_numbers, .ref bk_formulas, .ref bk_held, .ref bk_holds, .ref bk_found, .ref bk_names, .ref bk_bodies, .int 0, .ref bk_parts, .ref bk_noteParts, .ref bk_over, .ref bk_overs, .long 0, .long 0, .int 0, .int 0, .ref bk_places, .ref bk_torn])), (bk_rows, .inl (dC 100, 4, .inl fk_rows)), (bk_columns, .inl (dC 100, 4, .inl fk_columns)), (bk_types, .inl (dC 100, 200, .inl fk_types)), (bk_numbers, .inl (dC 101, 200, .inr (.inl fk_numbers))), (bk_formulas, .inl (dC 100, 200, .inl fk_formulas)), (bk_held, .inl (dC 102, 200, .inl fk_held)), (bk_holds, .inl (dC 101, 200, .inr (.inl fk_holds))), (bk_found, .inl (dC 105, 885, .inr (.inr (.inr (.inr fk_found))))), (bk_names, .inl (dC 100, 6, .inl fk_names)), (bk_bodies, .inl (dC 100, 4, .inl fk_bodies)), (bk_parts, .inl (dC 100, 3, .inl fk_parts)), (bk_noteParts, .inl (dC 100, 72, .inl fk_noteParts)), (bk_over, .inl (dC 102, 600, .inl fk_over)), (bk_overs, .inl (dC 101, 600, .inr (.inl fk_overs))), (bk_places, .inl (dC 100, 750, .inl fk_places)), (bk_torn, .inl (dC 102, 150, .inl fk_torn)), (en, .inr (11, [e0, e1, e2, e3, e4, .int cg, e6, e7, e8, e9, e10, e11, e12, e13, e14, e15, e16, e17, e18, e19, e20, e21, e22, e23, e24, e25, e26]))] H := hP
    have hD : va_D A [(m0, .inr (10, [.ref nw, .ref kq, .int 0, .int 0, z4, z5, z6, z7, z8, z9, z10, z11, z12, .ref en, z14, z15, z16])), (nw, .inr (12, [.ref b_rows, .ref b_columns, .int 0, .ref b_types, .ref b_numbers, .ref b_formulas, .ref b_held, .ref b_holds, .ref b_found, .ref b_names, .ref b_bodies, .int 0, .ref b_parts, .ref b_noteParts, .ref b_over, .ref b_overs, .long 0, .long 0, .int 0, .int 0, .ref b_places, .ref b_torn])), (b_rows, .inl (dC 100, 4, .inl f_rows)), (b_columns, .inl (dC 100, 4, .inl f_columns)), (b_types, .inl (dC 100, 200, .inl f_types)), (b_numbers, .inl (dC 101, 200, .inr (.inl f_numbers))), (b_formulas, .inl (dC 100, 200, .inl f_formulas)), (b_held, .inl (dC 102, 200, .inl f_held)), (b_holds, .inl (dC 101, 200, .inr (.inl f_holds))), (b_found, .inl (dC 105, 885, .inr (.inr (.inr (.inr f_found))))), (b_names, .inl (dC 100, 6, .inl f_names)), (b_bodies, .inl (dC 100, 4, .inl f_bodies)), (b_parts, .inl (dC 100, 3, .inl f_parts)), (b_noteParts, .inl (dC 100, 72, .inl f_noteParts)), (b_over, .inl (dC 102, 600, .inl f_over)), (b_overs, .inl (dC 101, 600, .inr (.inl f_overs))), (b_places, .inl (dC 100, 750, .inl f_places)), (b_torn, .inl (dC 102, 150, .inl f_torn)), (kq, .inl (dC 104, 5, .inr (.inr (.inr (.inr fq))))), (k9, .inr (12, [.ref bk_rows, .ref bk_columns, .int 0, .ref bk_types, .ref bk_numbers, .ref bk_formulas, .ref bk_held, .ref bk_holds, .ref bk_found, .ref bk_names, .ref bk_bodies, .int 0, .ref bk_parts, .ref bk_noteParts, .ref bk_over, .ref bk_overs, .long 0, .long 0, .int 0, .int 0, .ref bk_places, .ref bk_torn])), (bk_rows, .inl (dC 100, 4, .inl fk_rows)), (bk_columns, .inl (dC 100, 4, .inl fk_columns)), (bk_types, .inl (dC 100, 200, .inl fk_types)), (bk_numbers, .inl (dC 101, 200, .inr (.inl fk_numbers))), (bk_formulas, .inl (dC 100, 200, .inl fk_formulas)), (bk_held, .inl (dC 102, 200, .inl fk_held)), (bk_holds, .inl (dC 101, 200, .inr (.inl fk_holds))), (bk_found, .inl (dC 105, 885, .inr (.inr (.inr (.inr fk_found))))), (bk_names, .inl (dC 100, 6, .inl fk_names)), (bk_bodies, .inl (dC 100, 4, .inl fk_bodies)), (bk_parts, .inl (dC 100, 3, .inl fk_parts)), (bk_noteParts, .inl (dC 100, 72, .inl fk_noteParts)), (bk_over, .inl (dC 102, 600, .inl fk_over)), (bk_overs, .inl (dC 101, 600, .inr (.inl fk_overs))), (bk_places, .inl (dC 100, 750, .inl fk_places)), (bk_torn, .inl (dC 102, 150, .inl fk_torn)), (en, .inr (11, [e0, e1, e2, e3, e4, .int cg, e6, e7, e8, e9, e10, e11, e12, e13, e14, e15, e16, e17, e18, e19, e20, e21, e22, e23, e24, e25, e26]))] := hD
    refine W.widen (k := 404) (n := 120035) (Nat.le_of_ble_eq_true rfl) (Nat.le_of_ble_eq_true rfl) ?_
    refine lv_istore (lv' := [(5, .int 1), (0, .ref b), (1, .ref h0), (2, .ref m0), (3, .ref ou), (4, .int 0)]) hx hb dM_L_law_1364 hl (by decide) rfl (fun ls hl => ?_)
    refine lv_aload_n hx hb dM_L_law_1366 rfl (lv_at hl 3 rfl) ?_
    refine lv_aload_n hx hb dM_L_law_1367 rfl (lv_at hl 1 rfl) ?_
    refine lv_iload hx hb dM_L_law_1368 (lv_at hl 5 rfl) ?_
    refine lv_iconst (v := 1) hx hb dM_L_law_1370 (by decide) ?_
    refine lv_iadd hx hb dM_L_law_1371 ?_
    refine lv_topi (fun y_51 ey_51 => ?_)
    obtain rfl : y_51 = 1 := ey_51.trans (by decide)
    refine va_sld hx hb hX hbl hbA hS (by unfold vp_in; decide) dM_L_law_1372 ?_
    refine lv_topi (fun y_52 ey_52 => ?_)
    obtain rfl : y_2 = y_52 := ey_2.trans ey_52.symm
    refine lv_aload_n hx hb dM_L_law_1373 rfl (lv_at hl 1 rfl) ?_
    refine lv_iload hx hb dM_L_law_1374 (lv_at hl 5 rfl) ?_
    refine lv_iconst (v := 2) hx hb dM_L_law_1376 (by decide) ?_
    refine lv_iadd hx hb dM_L_law_1377 ?_
    refine lv_topi (fun y_53 ey_53 => ?_)
    obtain rfl : y_53 = 2 := ey_53.trans (by decide)
    refine va_sld hx hb hX hbl hbA hS (by unfold vp_in; decide) dM_L_law_1378 ?_
    refine lv_topi (fun y_54 ey_54 => ?_)
    obtain rfl : y_4 = y_54 := ey_4.trans ey_54.symm
    have hFc := va_free (wc := [(m0, .inr (10, [.ref nw, .ref kq, .int 0, .int 0, z4, z5, z6, z7, z8, z9, z10, z11, z12, .ref en, z14, z15, z16])), (nw, .inr (12, [.ref b_rows, .ref b_columns, .int 0, .ref b_types, .ref b_numbers, .ref b_formulas, .ref b_held, .ref b_holds, .ref b_found, .ref b_names, .ref b_bodies, .int 0, .ref b_parts, .ref b_noteParts, .ref b_over, .ref b_overs, .long 0, .long 0, .int 0, .int 0, .ref b_places, .ref b_torn])), (b_rows, .inl (dC 100, 4, .inl f_rows)), (b_columns, .inl (dC 100, 4, .inl f_columns)), (b_types, .inl (dC 100, 200, .inl f_types)), (b_numbers, .inl (dC 101, 200, .inr (.inl f_numbers))), (b_formulas, .inl (dC 100, 200, .inl f_formulas)), (b_held, .inl (dC 102, 200, .inl f_held)), (b_holds, .inl (dC 101, 200, .inr (.inl f_holds))), (b_found, .inl (dC 105, 885, .inr (.inr (.inr (.inr f_found))))), (b_names, .inl (dC 100, 6, .inl f_names)), (b_bodies, .inl (dC 100, 4, .inl f_bodies)), (b_parts, .inl (dC 100, 3, .inl f_parts)), (b_noteParts, .inl (dC 100, 72, .inl f_noteParts)), (b_over, .inl (dC 102, 600, .inl f_over)), (b_overs, .inl (dC 101, 600, .inr (.inl f_overs))), (b_places, .inl (dC 100, 750, .inl f_places)), (b_torn, .inl (dC 102, 150, .inl f_torn)), (kq, .inl (dC 104, 5, .inr (.inr (.inr (.inr fq))))), (k9, .inr (12, [.ref bk_rows, .ref bk_columns, .int 0, .ref bk_types, .ref bk_numbers, .ref bk_formulas, .ref bk_held, .ref bk_holds, .ref bk_found, .ref bk_names, .ref bk_bodies, .int 0, .ref bk_parts, .ref bk_noteParts, .ref bk_over, .ref bk_overs, .long 0, .long 0, .int 0, .int 0, .ref bk_places, .ref bk_torn])), (bk_rows, .inl (dC 100, 4, .inl fk_rows)), (bk_columns, .inl (dC 100, 4, .inl fk_columns)), (bk_types, .inl (dC 100, 200, .inl fk_types)), (bk_numbers, .inl (dC 101, 200, .inr (.inl fk_numbers))), (bk_formulas, .inl (dC 100, 200, .inl fk_formulas)), (bk_held, .inl (dC 102, 200, .inl fk_held)), (bk_holds, .inl (dC 101, 200, .inr (.inl fk_holds))), (bk_found, .inl (dC 105, 885, .inr (.inr (.inr (.inr fk_found))))), (bk_names, .inl (dC 100, 6, .inl fk_names)), (bk_bodies, .inl (dC 100, 4, .inl fk_bodies)), (bk_parts, .inl (dC 100, 3, .inl fk_parts)), (bk_noteParts, .inl (dC 100, 72, .inl fk_noteParts)), (bk_over, .inl (dC 102, 600, .inl fk_over)), (bk_overs, .inl (dC 101, 600, .inr (.inl fk_overs))), (bk_places, .inl (dC 100, 750, .inl fk_places)), (bk_torn, .inl (dC 102, 150, .inl fk_torn)), (en, .inr (11, [e0, e1, e2, e3, e4, .int cg, e6, e7, e8, e9, e10, e11, e12, e13, e14, e15, e16, e17, e18, e19, e20, e21, e22, e23, e24, e25, e26]))]) hD hS hA [0, 1, 2, 3, 4, 5, 6, 7, 8, 9, 10, 11, 12, 13, 14, 15, 16, 17, 18, 19, 20, 21, 22, 23, 24, 25, 26, 27, 28, 29, 30, 31, 32, 33, 34, 35, 36] rfl
    refine va_callv (va_runV (As := [.int y_2, .int y_4]) (rest := []) ⟨hx, hb, hml, hown, hbg⟩ (c_M_name l dC dI m0 y_2 y_4 nw kq z4 z5 z6 z7 z8 z9 z10 z11 z12 en z14 z15 z16 b_rows b_columns b_types b_numbers b_formulas b_held b_holds b_found b_names b_bodies b_parts b_noteParts b_over b_overs b_places b_torn f_rows f_columns f_types f_numbers f_formulas f_held f_holds f_found f_names f_bodies f_parts f_noteParts f_over f_overs f_places f_torn fq k9 bk_rows bk_columns bk_types bk_numbers bk_formulas bk_held bk_holds bk_found bk_names bk_bodies bk_parts bk_noteParts bk_over bk_overs bk_places bk_torn fk_rows fk_columns fk_types fk_numbers fk_formulas fk_held fk_holds fk_found fk_names fk_bodies fk_parts fk_noteParts fk_over fk_overs fk_places fk_torn e0 e1 e2 e3 e4 cg e6 e7 e8 e9 e10 e11 e12 e13 e14 e15 e16 e17 e18 e19 e20 e21 e22 e23 e24 e25 e26 _ (hfd) (hk9)) (cwV 2 hbg (gd_V (fun _ h => h) wd_2644 wd_2645 wd_2646 wd_12 (gd_wm (fun _ h => h) wd_2647)) rfl rfl rfl (by decide +kernel) ⟨Nat.le_of_ble_eq_true rfl, Nat.le_of_ble_eq_true rfl⟩) (nPreV [0, 1, 2, 3, 4, 5, 6, 7, 8, 9, 10, 11, 12, 13, 14, 15, 16, 17, 18, 19, 20, 21, 22, 23, 24, 25, 26, 27, 28, 29, 30, 31, 32, 33, 34, 35, 36] hP hD hK hN hS hA (by decide) rfl 0 rfl rfl) rfl rfl hl.1 rfl (lv_room (Nat.le_of_ble_eq_true rfl)) dM_L_law_1379 ⟨Nat.le_of_ble_eq_true rfl, Nat.le_of_ble_eq_true rfl⟩) hS (fun q _ h => hFc q h) hFc (fun u t H1 locs ht hvm hw hB hz1 hk1 hS => ?_)
    rcases hw with ⟨c_56, rfl⟩ | ⟨c_57, rfl⟩ | ⟨c_58, rfl⟩
    · --
      exact (n_andn c_56 c_7).elim
    · --
      obtain ⟨r0_59, r1_60, r2_61, r3_62, r4_63, r5_64, r6_65, r7_66, r8_67, r9_68, r10_69, r11_70, r12_71, r13_72, r14_73, r15_74, hP1, hD1⟩ := hB
      rw [ht] at hP1
      obtain ⟨hP, hD⟩ := va_join (wr := []) (w1 := [(m0, .inr (10, [r0_59, r1_60, r2_61, r3_62, r4_63, r5_64, r6_65, r7_66, r8_67, r9_68, r10_69, r11_70, r12_71, r13_72, r14_73, r15_74, .int 1]))]) hP hD [0, 1, 2, 3, 4, 5, 6, 7, 8, 9, 10, 11, 12, 13, 14, 15, 16, 17, 18, 19, 20, 21, 22, 23, 24, 25, 26, 27, 28, 29, 30, 31, 32, 33, 34, 35, 36] [] rfl rfl (by decide) (by decide) hk1 hFc hP1 hD1
      generalize H1 = H at hP hS ⊢
      have hP : va_P (dC, dI) classes [(m0, .inr (10, [r0_59, r1_60, r2_61, r3_62, r4_63, r5_64, r6_65, r7_66, r8_67, r9_68, r10_69, r11_70, r12_71, r13_72, r14_73, r15_74, .int 1]))] H := hP
      have hD : va_D A [(m0, .inr (10, [r0_59, r1_60, r2_61, r3_62, r4_63, r5_64, r6_65, r7_66, r8_67, r9_68, r10_69, r11_70, r12_71, r13_72, r14_73, r15_74, .int 1]))] := hD
      refine W.widen (k := 404) (n := 120035) (Nat.le_of_ble_eq_true rfl) (Nat.le_of_ble_eq_true rfl) ?_
      refine lv_aload_n hx hb dM_L_law_1382 rfl (lv_at hl 3 rfl) ?_
      have hFc := va_free (wc := [(m0, .inr (10, [r0_59, r1_60, r2_61, r3_62, r4_63, r5_64, r6_65, r7_66, r8_67, r9_68, r10_69, r11_70, r12_71, r13_72, r14_73, r15_74, .int 1]))]) hD hS hA [0] rfl
      refine va_calli (va_runV (As := []) (rest := []) ⟨hx, hb, hml, hown, hbg⟩ (c_M_thrown l dC dI m0 r0_59 r1_60 r2_61 r3_62 r4_63 r5_64 r6_65 r7_66 r8_67 r9_68 r10_69 r11_70 r12_71 r13_72 r14_73 r15_74 1 _ ) (cwV 0 hbg (gd_V (fun _ h => h) wd_2190 wd_2191 wd_2192 wd_12 (gd_wm (fun _ h => h) wd_2193)) rfl rfl rfl (by decide +kernel) ⟨Nat.le_of_ble_eq_true rfl, Nat.le_of_ble_eq_true rfl⟩) (nPreV [0] hP hD hK hN hS hA (by decide) rfl 0 rfl rfl) rfl rfl hl.1 rfl (lv_room (Nat.le_of_ble_eq_true rfl)) dM_L_law_1383 ⟨Nat.le_of_ble_eq_true rfl, Nat.le_of_ble_eq_true rfl⟩) hS (fun q _ h => hFc q h) hFc (fun r_75 u t H1 locs ht hvm hw hB hz1 hk1 hS => ?_)
      obtain ⟨rfl, rfl⟩ := hw
      obtain ⟨r0_77, r1_78, r2_79, r3_80, r4_81, r5_82, r6_83, r7_84, r8_85, r9_86, r10_87, r11_88, r12_89, r13_90, r14_91, r15_92, hP1, hD1⟩ := hB
      rw [ht] at hP1
      obtain ⟨hP, hD⟩ := va_join (wr := []) (w1 := [(m0, .inr (10, [r0_77, r1_78, r2_79, r3_80, r4_81, r5_82, r6_83, r7_84, r8_85, r9_86, r10_87, r11_88, r12_89, r13_90, r14_91, r15_92, .int 1]))]) hP hD [0] [] rfl rfl (by decide) (by decide) hk1 hFc hP1 hD1
      generalize H1 = H at hP hS ⊢
      have hP : va_P (dC, dI) classes [(m0, .inr (10, [r0_77, r1_78, r2_79, r3_80, r4_81, r5_82, r6_83, r7_84, r8_85, r9_86, r10_87, r11_88, r12_89, r13_90, r14_91, r15_92, .int 1]))] H := hP
      have hD : va_D A [(m0, .inr (10, [r0_77, r1_78, r2_79, r3_80, r4_81, r5_82, r6_83, r7_84, r8_85, r9_86, r10_87, r11_88, r12_89, r13_90, r14_91, r15_92, .int 1]))] := hD
      refine W.widen (k := 404) (n := 120035) (Nat.le_of_ble_eq_true rfl) (Nat.le_of_ble_eq_true rfl) ?_
      refine lv_iload hx hb dM_L_law_1386 (lv_at hl 0 rfl) ?_
      refine lv_icmp_eq (tgt := 1393) hx hb dM_L_law_1388 (by decide) (fun _ => ?_) (fun q => absurd (by decide) q)
      refine lv_goto (tgt := 3410) hx hb dM_L_law_1393 (by decide) ?_
      refine W.widen (k := 600002) (n := 7302232) (Nat.le_of_ble_eq_true rfl) (Nat.le_of_ble_eq_true rfl) ?_
      exact hend _ _ _ hS (lv_sub hl [5, 1] rfl)
    · --
      exact (n_andn c_58 c_7).elim
  · --
    obtain ⟨hP, hD⟩ := va_join (wr := [(m0, .inr (10, [.ref nw, .ref kq, .int 0, .int 0, z4, z5, z6, z7, z8, z9, z10, z11, z12, .ref en, z14, z15, z16])), (nw, .inr (12, [.ref b_rows, .ref b_columns, .int 0, .ref b_types, .ref b_numbers, .ref b_formulas, .ref b_held, .ref b_holds, .ref b_found, .ref b_names, .ref b_bodies, .int 0, .ref b_parts, .ref b_noteParts, .ref b_over, .ref b_overs, .long 0, .long 0, .int 0, .int 0, .ref b_places, .ref b_torn])), (b_rows, .inl (dC 100, 4, .inl f_rows)), (b_columns, .inl (dC 100, 4, .inl f_columns)), (b_types, .inl (dC 100, 200, .inl f_types)), (b_numbers, .inl (dC 101, 200, .inr (.inl f_numbers))), (b_formulas, .inl (dC 100, 200, .inl f_formulas)), (b_held, .inl (dC 102, 200, .inl f_held)), (b_holds, .inl (dC 101, 200, .inr (.inl f_holds))), (b_found, .inl (dC 105, 885, .inr (.inr (.inr (.inr f_found))))), (b_names, .inl (dC 100, 6, .inl f_names)), (b_bodies, .inl (dC 100, 4, .inl f_bodies)), (b_parts, .inl (dC 100, 3, .inl f_parts)), (b_noteParts, .inl (dC 100, 72, .inl f_noteParts)), (b_over, .inl (dC 102, 600, .inl f_over)), (b_overs, .inl (dC 101, 600, .inr (.inl f_overs))), (b_places, .inl (dC 100, 750, .inl f_places)), (b_torn, .inl (dC 102, 150, .inl f_torn)), (kq, .inl (dC 104, 5, .inr (.inr (.inr (.inr fq))))), (k9, .inr (12, [.ref bk_rows, .ref bk_columns, .int 0, .ref bk_types, .ref bk_numbers, .ref bk_formulas, .ref bk_held, .ref bk_holds, .ref bk_found, .ref bk_names, .ref bk_bodies, .int 0, .ref bk_parts, .ref bk_noteParts, .ref bk_over, .ref bk_overs, .long 0, .long 0, .int 0, .int 0, .ref bk_places, .ref bk_torn])), (bk_rows, .inl (dC 100, 4, .inl fk_rows)), (bk_columns, .inl (dC 100, 4, .inl fk_columns)), (bk_types, .inl (dC 100, 200, .inl fk_types)), (bk_numbers, .inl (dC 101, 200, .inr (.inl fk_numbers))), (bk_formulas, .inl (dC 100, 200, .inl fk_formulas)), (bk_held, .inl (dC 102, 200, .inl fk_held)), (bk_holds, .inl (dC 101, 200, .inr (.inl fk_holds))), (bk_found, .inl (dC 105, 885, .inr (.inr (.inr (.inr fk_found))))), (bk_names, .inl (dC 100, 6, .inl fk_names)), (bk_bodies, .inl (dC 100, 4, .inl fk_bodies)), (bk_parts, .inl (dC 100, 3, .inl fk_parts)), (bk_noteParts, .inl (dC 100, 72, .inl fk_noteParts)), (bk_over, .inl (dC 102, 600, .inl fk_over)), (bk_overs, .inl (dC 101, 600, .inr (.inl fk_overs))), (bk_places, .inl (dC 100, 750, .inl fk_places)), (bk_torn, .inl (dC 102, 150, .inl fk_torn)), (en, .inr (11, [e0, e1, e2, e3, e4, .int cg, e6, e7, e8, e9, e10, e11, e12, e13, e14, e15, e16, e17, e18, e19, e20, e21, e22, e23, e24, e25, e26]))]) (w1 := []) hP hD [0, 1, 2, 3, 4, 5, 6, 7, 8, 9, 10, 11, 12, 13, 14, 15, 16, 17, 18, 19, 20, 21, 22, 23, 24, 25, 26, 27, 28, 29, 30, 31, 32] [33, 34, 35, 36, 37, 38, 39, 40, 41, 42, 43, 44, 45, 46, 47, 48, 49, 50, 51, 52, 53, 54, 55, 56, 57, 58, 59, 60, 61, 62, 63, 64, 65, 66, 67, 68, 69] rfl rfl (by decide) (by decide) hk1 hFc nP0 nD0
    generalize H1 = H at hP hS ⊢
    have hP : va_P (dC, dI) classes [(m0, .inr (10, [.ref nw, .ref kq, .int 0, .int 0, z4, z5, z6, z7, z8, z9, z10, z11, z12, .ref en, z14, z15, z16])), (nw, .inr (12, [.ref b_rows, .ref b_columns, .int 0, .ref b_types, .ref b_numbers, .ref b_formulas, .ref b_held, .ref b_holds, .ref b_found, .ref b_names, .ref b_bodies, .int 0, .ref b_parts, .ref b_noteParts, .ref b_over, .ref b_overs, .long 0, .long 0, .int 0, .int 0, .ref b_places, .ref b_torn])), (b_rows, .inl (dC 100, 4, .inl f_rows)), (b_columns, .inl (dC 100, 4, .inl f_columns)), (b_types, .inl (dC 100, 200, .inl f_types)), (b_numbers, .inl (dC 101, 200, .inr (.inl f_numbers))), (b_formulas, .inl (dC 100, 200, .inl f_formulas)), (b_held, .inl (dC 102, 200, .inl f_held)), (b_holds, .inl (dC 101, 200, .inr (.inl f_holds))), (b_found, .inl (dC 105, 885, .inr (.inr (.inr (.inr f_found))))), (b_names, .inl (dC 100, 6, .inl f_names)), (b_bodies, .inl (dC 100, 4, .inl f_bodies)), (b_parts, .inl (dC 100, 3, .inl f_parts)), (b_noteParts, .inl (dC 100, 72, .inl f_noteParts)), (b_over, .inl (dC 102, 600, .inl f_over)), (b_overs, .inl (dC 101, 600, .inr (.inl f_overs))), (b_places, .inl (dC 100, 750, .inl f_places)), (b_torn, .inl (dC 102, 150, .inl f_torn)), (kq, .inl (dC 104, 5, .inr (.inr (.inr (.inr fq))))), (k9, .inr (12, [.ref bk_rows, .ref bk_columns, .int 0, .ref bk_types, .ref bk_numbers, .ref bk_formulas, .ref bk_held, .ref bk_holds, .ref bk_found, .ref bk_names, .ref bk_bodies, .int 0, .ref bk_parts, .ref bk_noteParts, .ref bk_over, .ref bk_overs, .long 0, .long 0, .int 0, .int 0, .ref bk_places, .ref bk_torn])), (bk_rows, .inl (dC 100, 4, .inl fk_rows)), (bk_columns, .inl (dC 100, 4, .inl fk_columns)), (bk_types, .inl (dC 100, 200, .inl fk_types)), (bk_numbers, .inl (dC 101, 200, .inr (.inl fk_numbers))), (bk_formulas, .inl (dC 100, 200, .inl fk_formulas)), (bk_held, .inl (dC 102, 200, .inl fk_held)), (bk_holds, .inl (dC 101, 200, .inr (.inl fk_holds))), (bk_found, .inl (dC 105, 885, .inr (.inr (.inr (.inr fk_found))))), (bk_names, .inl (dC 100, 6, .inl fk_names)), (bk_bodies, .inl (dC 100, 4, .inl fk_bodies)), (bk_parts, .inl (dC 100, 3, .inl fk_parts)), (bk_noteParts, .inl (dC 100, 72, .inl fk_noteParts)), (bk_over, .inl (dC 102, 600, .inl fk_over)), (bk_overs, .inl (dC 101, 600, .inr (.inl fk_overs))), (bk_places, .inl (dC 100, 750, .inl fk_places)), (bk_torn, .inl (dC 102, 150, .inl fk_torn)), (en, .inr (11, [e0, e1, e2, e3, e4, .int cg, e6, e7, e8, e9, e10, e11, e12, e13, e14, e15, e16, e17, e18, e19, e20, e21, e22, e23, e24, e25, e26]))] H := hP
    have hD : va_D A [(m0, .inr (10, [.ref nw, .ref kq, .int 0, .int 0, z4, z5, z6, z7, z8, z9, z10, z11, z12, .ref en, z14, z15, z16])), (nw, .inr (12, [.ref b_rows, .ref b_columns, .int 0, .ref b_types, .ref b_numbers, .ref b_formulas, .ref b_held, .ref b_holds, .ref b_found, .ref b_names, .ref b_bodies, .int 0, .ref b_parts, .ref b_noteParts, .ref b_over, .ref b_overs, .long 0, .long 0, .int 0, .int 0, .ref b_places, .ref b_torn])), (b_rows, .inl (dC 100, 4, .inl f_rows)), (b_columns, .inl (dC 100, 4, .inl f_columns)), (b_types, .inl (dC 100, 200, .inl f_types)), (b_numbers, .inl (dC 101, 200, .inr (.inl f_numbers))), (b_formulas, .inl (dC 100, 200, .inl f_formulas)), (b_held, .inl (dC 102, 200, .inl f_held)), (b_holds, .inl (dC 101, 200, .inr (.inl f_holds))), (b_found, .inl (dC 105, 885, .inr (.inr (.inr (.inr f_found))))), (b_names, .inl (dC 100, 6, .inl f_names)), (b_bodies, .inl (dC 100, 4, .inl f_bodies)), (b_parts, .inl (dC 100, 3, .inl f_parts)), (b_noteParts, .inl (dC 100, 72, .inl f_noteParts)), (b_over, .inl (dC 102, 600, .inl f_over)), (b_overs, .inl (dC 101, 600, .inr (.inl f_overs))), (b_places, .inl (dC 100, 750, .inl f_places)), (b_torn, .inl (dC 102, 150, .inl f_torn)), (kq, .inl (dC 104, 5, .inr (.inr (.inr (.inr fq))))), (k9, .inr (12, [.ref bk_rows, .ref bk_columns, .int 0, .ref bk_types, .ref bk_numbers, .ref bk_formulas, .ref bk_held, .ref bk_holds, .ref bk_found, .ref bk_names, .ref bk_bodies, .int 0, .ref bk_parts, .ref bk_noteParts, .ref bk_over, .ref bk_overs, .long 0, .long 0, .int 0, .int 0, .ref bk_places, .ref bk_torn])), (bk_rows, .inl (dC 100, 4, .inl fk_rows)), (bk_columns, .inl (dC 100, 4, .inl fk_columns)), (bk_types, .inl (dC 100, 200, .inl fk_types)), (bk_numbers, .inl (dC 101, 200, .inr (.inl fk_numbers))), (bk_formulas, .inl (dC 100, 200, .inl fk_formulas)), (bk_held, .inl (dC 102, 200, .inl fk_held)), (bk_holds, .inl (dC 101, 200, .inr (.inl fk_holds))), (bk_found, .inl (dC 105, 885, .inr (.inr (.inr (.inr fk_found))))), (bk_names, .inl (dC 100, 6, .inl fk_names)), (bk_bodies, .inl (dC 100, 4, .inl fk_bodies)), (bk_parts, .inl (dC 100, 3, .inl fk_parts)), (bk_noteParts, .inl (dC 100, 72, .inl fk_noteParts)), (bk_over, .inl (dC 102, 600, .inl fk_over)), (bk_overs, .inl (dC 101, 600, .inr (.inl fk_overs))), (bk_places, .inl (dC 100, 750, .inl fk_places)), (bk_torn, .inl (dC 102, 150, .inl fk_torn)), (en, .inr (11, [e0, e1, e2, e3, e4, .int cg, e6, e7, e8, e9, e10, e11, e12, e13, e14, e15, e16, e17, e18, e19, e20, e21, e22, e23, e24, e25, e26]))] := hD
    refine W.widen (k := 404) (n := 120035) (Nat.le_of_ble_eq_true rfl) (Nat.le_of_ble_eq_true rfl) ?_
    refine lv_istore (lv' := [(5, .int 2), (0, .ref b), (1, .ref h0), (2, .ref m0), (3, .ref ou), (4, .int 0)]) hx hb dM_L_law_1364 hl (by decide) rfl (fun ls hl => ?_)
    refine lv_aload_n hx hb dM_L_law_1366 rfl (lv_at hl 3 rfl) ?_
    refine lv_aload_n hx hb dM_L_law_1367 rfl (lv_at hl 1 rfl) ?_
    refine lv_iload hx hb dM_L_law_1368 (lv_at hl 5 rfl) ?_
    refine lv_iconst (v := 1) hx hb dM_L_law_1370 (by decide) ?_
    refine lv_iadd hx hb dM_L_law_1371 ?_
    refine lv_topi (fun y_93 ey_93 => ?_)
    obtain rfl : y_93 = 1 := ey_93.trans (by decide)
    refine va_sld hx hb hX hbl hbA hS (by unfold vp_in; decide) dM_L_law_1372 ?_
    refine lv_topi (fun y_94 ey_94 => ?_)
    obtain rfl : y_2 = y_94 := ey_2.trans ey_94.symm
    refine lv_aload_n hx hb dM_L_law_1373 rfl (lv_at hl 1 rfl) ?_
    refine lv_iload hx hb dM_L_law_1374 (lv_at hl 5 rfl) ?_
    refine lv_iconst (v := 2) hx hb dM_L_law_1376 (by decide) ?_
    refine lv_iadd hx hb dM_L_law_1377 ?_
    refine lv_topi (fun y_95 ey_95 => ?_)
    obtain rfl : y_95 = 2 := ey_95.trans (by decide)
    refine va_sld hx hb hX hbl hbA hS (by unfold vp_in; decide) dM_L_law_1378 ?_
    refine lv_topi (fun y_96 ey_96 => ?_)
    obtain rfl : y_4 = y_96 := ey_4.trans ey_96.symm
    have hFc := va_free (wc := [(m0, .inr (10, [.ref nw, .ref kq, .int 0, .int 0, z4, z5, z6, z7, z8, z9, z10, z11, z12, .ref en, z14, z15, z16])), (nw, .inr (12, [.ref b_rows, .ref b_columns, .int 0, .ref b_types, .ref b_numbers, .ref b_formulas, .ref b_held, .ref b_holds, .ref b_found, .ref b_names, .ref b_bodies, .int 0, .ref b_parts, .ref b_noteParts, .ref b_over, .ref b_overs, .long 0, .long 0, .int 0, .int 0, .ref b_places, .ref b_torn])), (b_rows, .inl (dC 100, 4, .inl f_rows)), (b_columns, .inl (dC 100, 4, .inl f_columns)), (b_types, .inl (dC 100, 200, .inl f_types)), (b_numbers, .inl (dC 101, 200, .inr (.inl f_numbers))), (b_formulas, .inl (dC 100, 200, .inl f_formulas)), (b_held, .inl (dC 102, 200, .inl f_held)), (b_holds, .inl (dC 101, 200, .inr (.inl f_holds))), (b_found, .inl (dC 105, 885, .inr (.inr (.inr (.inr f_found))))), (b_names, .inl (dC 100, 6, .inl f_names)), (b_bodies, .inl (dC 100, 4, .inl f_bodies)), (b_parts, .inl (dC 100, 3, .inl f_parts)), (b_noteParts, .inl (dC 100, 72, .inl f_noteParts)), (b_over, .inl (dC 102, 600, .inl f_over)), (b_overs, .inl (dC 101, 600, .inr (.inl f_overs))), (b_places, .inl (dC 100, 750, .inl f_places)), (b_torn, .inl (dC 102, 150, .inl f_torn)), (kq, .inl (dC 104, 5, .inr (.inr (.inr (.inr fq))))), (k9, .inr (12, [.ref bk_rows, .ref bk_columns, .int 0, .ref bk_types, .ref bk_numbers, .ref bk_formulas, .ref bk_held, .ref bk_holds, .ref bk_found, .ref bk_names, .ref bk_bodies, .int 0, .ref bk_parts, .ref bk_noteParts, .ref bk_over, .ref bk_overs, .long 0, .long 0, .int 0, .int 0, .ref bk_places, .ref bk_torn])), (bk_rows, .inl (dC 100, 4, .inl fk_rows)), (bk_columns, .inl (dC 100, 4, .inl fk_columns)), (bk_types, .inl (dC 100, 200, .inl fk_types)), (bk_numbers, .inl (dC 101, 200, .inr (.inl fk_numbers))), (bk_formulas, .inl (dC 100, 200, .inl fk_formulas)), (bk_held, .inl (dC 102, 200, .inl fk_held)), (bk_holds, .inl (dC 101, 200, .inr (.inl fk_holds))), (bk_found, .inl (dC 105, 885, .inr (.inr (.inr (.inr fk_found))))), (bk_names, .inl (dC 100, 6, .inl fk_names)), (bk_bodies, .inl (dC 100, 4, .inl fk_bodies)), (bk_parts, .inl (dC 100, 3, .inl fk_parts)), (bk_noteParts, .inl (dC 100, 72, .inl fk_noteParts)), (bk_over, .inl (dC 102, 600, .inl fk_over)), (bk_overs, .inl (dC 101, 600, .inr (.inl fk_overs))), (bk_places, .inl (dC 100, 750, .inl fk_places)), (bk_torn, .inl (dC 102, 150, .inl fk_torn)), (en, .inr (11, [e0, e1, e2, e3, e4, .int cg, e6, e7, e8, e9, e10, e11, e12, e13, e14, e15, e16, e17, e18, e19, e20, e21, e22, e23, e24, e25, e26]))]) hD hS hA [0, 1, 2, 3, 4, 5, 6, 7, 8, 9, 10, 11, 12, 13, 14, 15, 16, 17, 18, 19, 20, 21, 22, 23, 24, 25, 26, 27, 28, 29, 30, 31, 32, 33, 34, 35, 36] rfl
    refine va_callv (va_runV (As := [.int y_2, .int y_4]) (rest := []) ⟨hx, hb, hml, hown, hbg⟩ (c_M_name l dC dI m0 y_2 y_4 nw kq z4 z5 z6 z7 z8 z9 z10 z11 z12 en z14 z15 z16 b_rows b_columns b_types b_numbers b_formulas b_held b_holds b_found b_names b_bodies b_parts b_noteParts b_over b_overs b_places b_torn f_rows f_columns f_types f_numbers f_formulas f_held f_holds f_found f_names f_bodies f_parts f_noteParts f_over f_overs f_places f_torn fq k9 bk_rows bk_columns bk_types bk_numbers bk_formulas bk_held bk_holds bk_found bk_names bk_bodies bk_parts bk_noteParts bk_over bk_overs bk_places bk_torn fk_rows fk_columns fk_types fk_numbers fk_formulas fk_held fk_holds fk_found fk_names fk_bodies fk_parts fk_noteParts fk_over fk_overs fk_places fk_torn e0 e1 e2 e3 e4 cg e6 e7 e8 e9 e10 e11 e12 e13 e14 e15 e16 e17 e18 e19 e20 e21 e22 e23 e24 e25 e26 _ (hfd) (hk9)) (cwV 2 hbg (gd_V (fun _ h => h) wd_2644 wd_2645 wd_2646 wd_12 (gd_wm (fun _ h => h) wd_2647)) rfl rfl rfl (by decide +kernel) ⟨Nat.le_of_ble_eq_true rfl, Nat.le_of_ble_eq_true rfl⟩) (nPreV [0, 1, 2, 3, 4, 5, 6, 7, 8, 9, 10, 11, 12, 13, 14, 15, 16, 17, 18, 19, 20, 21, 22, 23, 24, 25, 26, 27, 28, 29, 30, 31, 32, 33, 34, 35, 36] hP hD hK hN hS hA (by decide) rfl 0 rfl rfl) rfl rfl hl.1 rfl (lv_room (Nat.le_of_ble_eq_true rfl)) dM_L_law_1379 ⟨Nat.le_of_ble_eq_true rfl, Nat.le_of_ble_eq_true rfl⟩) hS (fun q _ h => hFc q h) hFc (fun u t H1 locs ht hvm hw hB hz1 hk1 hS => ?_)
    rcases hw with ⟨c_98, rfl⟩ | ⟨c_99, rfl⟩ | ⟨c_100, rfl⟩
    · --
      exact (n_and2 c_98 c_8).elim
    · --
      exact (n_andn c_8 c_99).elim
    · --
      obtain ⟨r0_101, r1_102, r2_103, r3_104, r4_105, r5_106, r6_107, r7_108, r8_109, r9_110, r10_111, r11_112, r12_113, r13_114, r14_115, r15_116, hP1, hD1⟩ := hB
      rw [ht] at hP1
      obtain ⟨hP, hD⟩ := va_join (wr := []) (w1 := [(m0, .inr (10, [r0_101, r1_102, r2_103, r3_104, r4_105, r5_106, r6_107, r7_108, r8_109, r9_110, r10_111, r11_112, r12_113, r13_114, r14_115, r15_116, .int 2]))]) hP hD [0, 1, 2, 3, 4, 5, 6, 7, 8, 9, 10, 11, 12, 13, 14, 15, 16, 17, 18, 19, 20, 21, 22, 23, 24, 25, 26, 27, 28, 29, 30, 31, 32, 33, 34, 35, 36] [] rfl rfl (by decide) (by decide) hk1 hFc hP1 hD1
      generalize H1 = H at hP hS ⊢
      have hP : va_P (dC, dI) classes [(m0, .inr (10, [r0_101, r1_102, r2_103, r3_104, r4_105, r5_106, r6_107, r7_108, r8_109, r9_110, r10_111, r11_112, r12_113, r13_114, r14_115, r15_116, .int 2]))] H := hP
      have hD : va_D A [(m0, .inr (10, [r0_101, r1_102, r2_103, r3_104, r4_105, r5_106, r6_107, r7_108, r8_109, r9_110, r10_111, r11_112, r12_113, r13_114, r14_115, r15_116, .int 2]))] := hD
      refine W.widen (k := 404) (n := 120035) (Nat.le_of_ble_eq_true rfl) (Nat.le_of_ble_eq_true rfl) ?_
      refine lv_aload_n hx hb dM_L_law_1382 rfl (lv_at hl 3 rfl) ?_
      have hFc := va_free (wc := [(m0, .inr (10, [r0_101, r1_102, r2_103, r3_104, r4_105, r5_106, r6_107, r7_108, r8_109, r9_110, r10_111, r11_112, r12_113, r13_114, r14_115, r15_116, .int 2]))]) hD hS hA [0] rfl
      refine va_calli (va_runV (As := []) (rest := []) ⟨hx, hb, hml, hown, hbg⟩ (c_M_thrown l dC dI m0 r0_101 r1_102 r2_103 r3_104 r4_105 r5_106 r6_107 r7_108 r8_109 r9_110 r10_111 r11_112 r12_113 r13_114 r14_115 r15_116 2 _ ) (cwV 0 hbg (gd_V (fun _ h => h) wd_2190 wd_2191 wd_2192 wd_12 (gd_wm (fun _ h => h) wd_2193)) rfl rfl rfl (by decide +kernel) ⟨Nat.le_of_ble_eq_true rfl, Nat.le_of_ble_eq_true rfl⟩) (nPreV [0] hP hD hK hN hS hA (by decide) rfl 0 rfl rfl) rfl rfl hl.1 rfl (lv_room (Nat.le_of_ble_eq_true rfl)) dM_L_law_1383 ⟨Nat.le_of_ble_eq_true rfl, Nat.le_of_ble_eq_true rfl⟩) hS (fun q _ h => hFc q h) hFc (fun r_117 u t H1 locs ht hvm hw hB hz1 hk1 hS => ?_)
      obtain ⟨rfl, rfl⟩ := hw
      obtain ⟨r0_119, r1_120, r2_121, r3_122, r4_123, r5_124, r6_125, r7_126, r8_127, r9_128, r10_129, r11_130, r12_131, r13_132, r14_133, r15_134, hP1, hD1⟩ := hB
      rw [ht] at hP1
      obtain ⟨hP, hD⟩ := va_join (wr := []) (w1 := [(m0, .inr (10, [r0_119, r1_120, r2_121, r3_122, r4_123, r5_124, r6_125, r7_126, r8_127, r9_128, r10_129, r11_130, r12_131, r13_132, r14_133, r15_134, .int 2]))]) hP hD [0] [] rfl rfl (by decide) (by decide) hk1 hFc hP1 hD1
      generalize H1 = H at hP hS ⊢
      have hP : va_P (dC, dI) classes [(m0, .inr (10, [r0_119, r1_120, r2_121, r3_122, r4_123, r5_124, r6_125, r7_126, r8_127, r9_128, r10_129, r11_130, r12_131, r13_132, r14_133, r15_134, .int 2]))] H := hP
      have hD : va_D A [(m0, .inr (10, [r0_119, r1_120, r2_121, r3_122, r4_123, r5_124, r6_125, r7_126, r8_127, r9_128, r10_129, r11_130, r12_131, r13_132, r14_133, r15_134, .int 2]))] := hD
      refine W.widen (k := 404) (n := 120035) (Nat.le_of_ble_eq_true rfl) (Nat.le_of_ble_eq_true rfl) ?_
      refine lv_iload hx hb dM_L_law_1386 (lv_at hl 0 rfl) ?_
      refine lv_icmp_eq (tgt := 1393) hx hb dM_L_law_1388 (by decide) (fun _ => ?_) (fun q => absurd (by decide) q)
      refine lv_goto (tgt := 3410) hx hb dM_L_law_1393 (by decide) ?_
      refine W.widen (k := 600002) (n := 7302232) (Nat.le_of_ble_eq_true rfl) (Nat.le_of_ble_eq_true rfl) ?_
      exact hend _ _ _ hS (lv_sub hl [5, 1] rfl)
set_option maxHeartbeats 4000000 in
set_option maxRecDepth 100000 in
theorem lawc_15 {p : Program} {e : Env} {s : State} {m : MethodId} {below : List Frame} {meth : Method} {c : Code} {Z : State → Prop} (l : Launch) (hl9 : l.stackTraces = false) (dC : Nat → ClassId) (dI : Nat → Nat → Nat) {A : Nat → Prop} {b L : Nat} {xs : Nat → Int32} (hL : L = 8) (hx : p.tables.exec = Jvm.exec) (hb : c.code = cM_L_law) (hml : c.maxLocals = 8) (hown : s.vm.findClass "NoteDocumentLaw" = some m.cls) (hbg : ∀ w ∈ BIG, w.before #[Value.ref b] s = true) (hK : nK (dC, dI) s) (hN : nS A s s.heap) (hA : ∀ q : Nat, s.heap.size ≤ q → A q) (hX : va_X b L xs s s.heap) (hbl : b < s.heap.size) (hbA : ¬ A b) {H : Heap} {locs : List Loc} {ls : Array Slot} {h0 : Nat} {m0 : Nat} {ou : Nat} {st : Nat} {no : Nat} {ch : Nat} {he : Nat} {de : Nat} {fi : Nat} {v6 : Value} {kp : Nat} {a_columns : Nat} {a_rows : Nat} {a_content : Nat} {a_held : Nat} {a_other : Nat} {a_named : Nat} {a_body : Nat} {a_parts : Nat} {a_partCount : Nat} {a_refRow : Nat} {a_refColumn : Nat} {a_refToRow : Nat} {a_torn : Nat} {a_record : Nat} {g_columns : Nat → Int32} {g_rows : Nat → Int32} {g_content : Nat → Int64} {g_held : Nat → Int64} {g_other : Nat → Int64} {g_named : Nat → Int32} {g_body : Nat → Int32} {g_parts : Nat → Int32} {g_partCount : Nat → Int32} {g_refRow : Nat → Int32} {g_refColumn : Nat → Int32} {g_refToRow : Nat → Int32} {g_torn : Nat → Int32} {g_record : Nat → Int32} {gk : Nat → Option Nat} {k0 : Nat} {ak_columns : Nat} {ak_rows : Nat} {ak_content : Nat} {ak_held : Nat} {ak_other : Nat} {ak_named : Nat} {ak_body : Nat} {ak_parts : Nat} {ak_partCount : Nat} {ak_refRow : Nat} {ak_refColumn : Nat} {ak_refToRow : Nat} {ak_torn : Nat} {ak_record : Nat} {gk_columns : Nat → Int32} {gk_rows : Nat → Int32} {gk_content : Nat → Int64} {gk_held : Nat → Int64} {gk_other : Nat → Int64} {gk_named : Nat → Int32} {gk_body : Nat → Int32} {gk_parts : Nat → Int32} {gk_partCount : Nat → Int32} {gk_refRow : Nat → Int32} {gk_refColumn : Nat → Int32} {gk_refToRow : Nat → Int32} {gk_torn : Nat → Int32} {gk_record : Nat → Int32} {x2 : Value} {x4 : Value} {x6 : Value} {x7 : Value} {x8 : Value} {x9 : Value} {x10 : Value} {x11 : Value} {x12 : Value} {x13 : Value} {x14 : Value} {x15 : Value} {x16 : Value} {x17 : Value} {x18 : Value} {nw : Nat} {kq : Nat} {z4 : Value} {z5 : Value} {z6 : Value} {z7 : Value} {z8 : Value} {z9 : Value} {z10 : Value} {z11 : Value} {z12 : Value} {en : Nat} {z14 : Value} {z15 : Value} {z16 : Value} {b_rows : Nat} {b_columns : Nat} {b_types : Nat} {b_numbers : Nat} {b_formulas : Nat} {b_held : Nat} {b_holds : Nat} {b_found : Nat} {b_names : Nat} {b_bodies : Nat} {b_parts : Nat} {b_noteParts : Nat} {b_over : Nat} {b_overs : Nat} {b_places : Nat} {b_torn : Nat} {f_rows : Nat → Int32} {f_columns : Nat → Int32} {f_types : Nat → Int32} {f_numbers : Nat → Int64} {f_formulas : Nat → Int32} {f_held : Nat → Int32} {f_holds : Nat → Int64} {f_found : Nat → Option Nat} {f_names : Nat → Int32} {f_bodies : Nat → Int32} {f_parts : Nat → Int32} {f_noteParts : Nat → Int32} {f_over : Nat → Int32} {f_overs : Nat → Int64} {f_places : Nat → Int32} {f_torn : Nat → Int32} {fq : Nat → Option Nat} {k9 : Nat} {bk_rows : Nat} {bk_columns : Nat} {bk_types : Nat} {bk_numbers : Nat} {bk_formulas : Nat} {bk_held : Nat} {bk_holds : Nat} {bk_found : Nat} {bk_names : Nat} {bk_bodies : Nat} {bk_parts : Nat} {bk_noteParts : Nat} {bk_over : Nat} {bk_overs : Nat} {bk_places : Nat} {bk_torn : Nat} {fk_rows : Nat → Int32} {fk_columns : Nat → Int32} {fk_types : Nat → Int32} {fk_numbers : Nat → Int64} {fk_formulas : Nat → Int32} {fk_held : Nat → Int32} {fk_holds : Nat → Int64} {fk_found : Nat → Option Nat} {fk_names : Nat → Int32} {fk_bodies : Nat → Int32} {fk_parts : Nat → Int32} {fk_noteParts : Nat → Int32} {fk_over : Nat → Int32} {fk_overs : Nat → Int64} {fk_places : Nat → Int32} {fk_torn : Nat → Int32} {e0 : Value} {e1 : Value} {e2 : Value} {e3 : Value} {e4 : Value} {cg : Int32} {e6 : Value} {e7 : Value} {e8 : Value} {e9 : Value} {e10 : Value} {e11 : Value} {e12 : Value} {e13 : Value} {e14 : Value} {e15 : Value} {e16 : Value} {e17 : Value} {e18 : Value} {e19 : Value} {e20 : Value} {e21 : Value} {e22 : Value} {e23 : Value} {e24 : Value} {e25 : Value} {e26 : Value} (hP : va_P (dC, dI) classes [(h0, .inr (0, [.ref st, .ref no, .ref ch, .ref he, .ref de, .ref fi, v6, .ref kp, .int 0, .int 0, .int 0])), (st, .inr (8, [.int 0, .int 0, .int 0, .ref a_columns, .ref a_rows, .ref a_content, .ref a_held, .ref a_other, .ref a_named, .ref a_body, .ref a_parts, .ref a_partCount, .ref a_refRow, .ref a_refColumn, .ref a_refToRow, .ref a_torn, .ref a_record, .int 0, .int 0, .int 0])), (a_columns, .inl (dC 100, 4, .inl g_columns)), (a_rows, .inl (dC 100, 4, .inl g_rows)), (a_content, .inl (dC 101, 200, .inr (.inl g_content))), (a_held, .inl (dC 101, 200, .inr (.inl g_held))), (a_other, .inl (dC 101, 600, .inr (.inl g_other))), (a_named, .inl (dC 100, 6, .inl g_named)), (a_body, .inl (dC 100, 4, .inl g_body)), (a_parts, .inl (dC 100, 24, .inl g_parts)), (a_partCount, .inl (dC 100, 3, .inl g_partCount)), (a_refRow, .inl (dC 100, 150, .inl g_refRow)), (a_refColumn, .inl (dC 100, 150, .inl g_refColumn)), (a_refToRow, .inl (dC 100, 150, .inl g_refToRow)), (a_torn, .inl (dC 102, 150, .inl g_torn)), (a_record, .inl (dC 100, 885, .inl g_record)), (kp, .inl (dC 103, 5, .inr (.inr (.inr (.inr gk))))), (k0, .inr (8, [.int 0, .int 0, .int 0, .ref ak_columns, .ref ak_rows, .ref ak_content, .ref ak_held, .ref ak_other, .ref ak_named, .ref ak_body, .ref ak_parts, .ref ak_partCount, .ref ak_refRow, .ref ak_refColumn, .ref ak_refToRow, .ref ak_torn, .ref ak_record, .int 0, .int 0, .int 0])), (ak_columns, .inl (dC 100, 4, .inl gk_columns)), (ak_rows, .inl (dC 100, 4, .inl gk_rows)), (ak_content, .inl (dC 101, 200, .inr (.inl gk_content))), (ak_held, .inl (dC 101, 200, .inr (.inl gk_held))), (ak_other, .inl (dC 101, 600, .inr (.inl gk_other))), (ak_named, .inl (dC 100, 6, .inl gk_named)), (ak_body, .inl (dC 100, 4, .inl gk_body)), (ak_parts, .inl (dC 100, 24, .inl gk_parts)), (ak_partCount, .inl (dC 100, 3, .inl gk_partCount)), (ak_refRow, .inl (dC 100, 150, .inl gk_refRow)), (ak_refColumn, .inl (dC 100, 150, .inl gk_refColumn)), (ak_refToRow, .inl (dC 100, 150, .inl gk_refToRow)), (ak_torn, .inl (dC 102, 150, .inl gk_torn)), (ak_record, .inl (dC 100, 885, .inl gk_record)), (de, .inr (2, [.ref st, .ref he, x2, .int 1, x4, .int 0, x6, x7, x8, x9, x10, x11, x12, x13, x14, x15, x16, x17, x18])), (m0, .inr (10, [.ref nw, .ref kq, .int 0, .int 0, z4, z5, z6, z7, z8, z9, z10, z11, z12, .ref en, z14, z15, z16])), (nw, .inr (12, [.ref b_rows, .ref b_columns, .int 0, .ref b_types, .ref b_numbers, .ref b_formulas, .ref b_held, .ref b_holds, .ref b_found, .ref b_names, .ref b_bodies, .int 0, .ref b_parts, .ref b_noteParts, .ref b_over, .ref b_overs, .long 0, .long 0, .int 0, .int 0, .ref b_places, .ref b_torn])), (b_rows, .inl (dC 100, 4, .inl f_rows)), (b_columns, .inl (dC 100, 4, .inl f_columns)), (b_types, .inl (dC 100, 200, .inl f_types)), (b_numbers, .inl (dC 101, 200, .inr (.inl f_numbers))), (b_formulas, .inl (dC 100, 200, .inl f_formulas)), (b_held, .inl (dC 102, 200, .inl f_held)), (b_holds, .inl (dC 101, 200, .inr (.inl f_holds))), (b_found, .inl (dC 105, 885, .inr (.inr (.inr (.inr f_found))))), (b_names, .inl (dC 100, 6, .inl f_names)), (b_bodies, .inl (dC 100, 4, .inl f_bodies)), (b_parts, .inl (dC 100, 3, .inl f_parts)), (b_noteParts, .inl (dC 100, 72, .inl f_noteParts)), (b_over, .inl (dC 102, 600, .inl f_over)), (b_overs, .inl (dC 101, 600, .inr (.inl f_overs))), (b_places, .inl (dC 100, 750, .inl f_places)), (b_torn, .inl (dC 102, 150, .inl f_torn)), (kq, .inl (dC 104, 5, .inr (.inr (.inr (.inr fq))))), (k9, .inr (12, [.ref bk_rows, .ref bk_columns, .int 0, .ref bk_types, .ref bk_numbers, .ref bk_formulas, .ref bk_held, .ref bk_holds, .ref bk_found, .ref bk_names, .ref bk_bodies, .int 0, .ref bk_parts, .ref bk_noteParts, .ref bk_over, .ref bk_overs, .long 0, .long 0, .int 0, .int 0, .ref bk_places, .ref bk_torn])), (bk_rows, .inl (dC 100, 4, .inl fk_rows)), (bk_columns, .inl (dC 100, 4, .inl fk_columns)), (bk_types, .inl (dC 100, 200, .inl fk_types)), (bk_numbers, .inl (dC 101, 200, .inr (.inl fk_numbers))), (bk_formulas, .inl (dC 100, 200, .inl fk_formulas)), (bk_held, .inl (dC 102, 200, .inl fk_held)), (bk_holds, .inl (dC 101, 200, .inr (.inl fk_holds))), (bk_found, .inl (dC 105, 885, .inr (.inr (.inr (.inr fk_found))))), (bk_names, .inl (dC 100, 6, .inl fk_names)), (bk_bodies, .inl (dC 100, 4, .inl fk_bodies)), (bk_parts, .inl (dC 100, 3, .inl fk_parts)), (bk_noteParts, .inl (dC 100, 72, .inl fk_noteParts)), (bk_over, .inl (dC 102, 600, .inl fk_over)), (bk_overs, .inl (dC 101, 600, .inr (.inl fk_overs))), (bk_places, .inl (dC 100, 750, .inl fk_places)), (bk_torn, .inl (dC 102, 150, .inl fk_torn)), (en, .inr (11, [e0, e1, e2, e3, e4, .int cg, e6, e7, e8, e9, e10, e11, e12, e13, e14, e15, e16, e17, e18, e19, e20, e21, e22, e23, e24, e25, e26]))] H) (hD : va_D A [(h0, .inr (0, [.ref st, .ref no, .ref ch, .ref he, .ref de, .ref fi, v6, .ref kp, .int 0, .int 0, .int 0])), (st, .inr (8, [.int 0, .int 0, .int 0, .ref a_columns, .ref a_rows, .ref a_content, .ref a_held, .ref a_other, .ref a_named, .ref a_body, .ref a_parts, .ref a_partCount, .ref a_refRow, .ref a_refColumn, .ref a_refToRow, .ref a_torn, .ref a_record, .int 0, .int 0, .int 0])), (a_columns, .inl (dC 100, 4, .inl g_columns)), (a_rows, .inl (dC 100, 4, .inl g_rows)), (a_content, .inl (dC 101, 200, .inr (.inl g_content))), (a_held, .inl (dC 101, 200, .inr (.inl g_held))), (a_other, .inl (dC 101, 600, .inr (.inl g_other))), (a_named, .inl (dC 100, 6, .inl g_named)), (a_body, .inl (dC 100, 4, .inl g_body)), (a_parts, .inl (dC 100, 24, .inl g_parts)), (a_partCount, .inl (dC 100, 3, .inl g_partCount)), (a_refRow, .inl (dC 100, 150, .inl g_refRow)), (a_refColumn, .inl (dC 100, 150, .inl g_refColumn)), (a_refToRow, .inl (dC 100, 150, .inl g_refToRow)), (a_torn, .inl (dC 102, 150, .inl g_torn)), (a_record, .inl (dC 100, 885, .inl g_record)), (kp, .inl (dC 103, 5, .inr (.inr (.inr (.inr gk))))), (k0, .inr (8, [.int 0, .int 0, .int 0, .ref ak_columns, .ref ak_rows, .ref ak_content, .ref ak_held, .ref ak_other, .ref ak_named, .ref ak_body, .ref ak_parts, .ref ak_partCount, .ref ak_refRow, .ref ak_refColumn, .ref ak_refToRow, .ref ak_torn, .ref ak_record, .int 0, .int 0, .int 0])), (ak_columns, .inl (dC 100, 4, .inl gk_columns)), (ak_rows, .inl (dC 100, 4, .inl gk_rows)), (ak_content, .inl (dC 101, 200, .inr (.inl gk_content))), (ak_held, .inl (dC 101, 200, .inr (.inl gk_held))), (ak_other, .inl (dC 101, 600, .inr (.inl gk_other))), (ak_named, .inl (dC 100, 6, .inl gk_named)), (ak_body, .inl (dC 100, 4, .inl gk_body)), (ak_parts, .inl (dC 100, 24, .inl gk_parts)), (ak_partCount, .inl (dC 100, 3, .inl gk_partCount)), (ak_refRow, .inl (dC 100, 150, .inl gk_refRow)), (ak_refColumn, .inl (dC 100, 150, .inl gk_refColumn)), (ak_refToRow, .inl (dC 100, 150, .inl gk_refToRow)), (ak_torn, .inl (dC 102, 150, .inl gk_torn)), (ak_record, .inl (dC 100, 885, .inl gk_record)), (de, .inr (2, [.ref st, .ref he, x2, .int 1, x4, .int 0, x6, x7, x8, x9, x10, x11, x12, x13, x14, x15, x16, x17, x18])), (m0, .inr (10, [.ref nw, .ref kq, .int 0, .int 0, z4, z5, z6, z7, z8, z9, z10, z11, z12, .ref en, z14, z15, z16])), (nw, .inr (12, [.ref b_rows, .ref b_columns, .int 0, .ref b_types, .ref b_numbers, .ref b_formulas, .ref b_held, .ref b_holds, .ref b_found, .ref b_names, .ref b_bodies, .int 0, .ref b_parts, .ref b_noteParts, .ref b_over, .ref b_overs, .long 0, .long 0, .int 0, .int 0, .ref b_places, .ref b_torn])), (b_rows, .inl (dC 100, 4, .inl f_rows)), (b_columns, .inl (dC 100, 4, .inl f_columns)), (b_types, .inl (dC 100, 200, .inl f_types)), (b_numbers, .inl (dC 101, 200, .inr (.inl f_numbers))), (b_formulas, .inl (dC 100, 200, .inl f_formulas)), (b_held, .inl (dC 102, 200, .inl f_held)), (b_holds, .inl (dC 101, 200, .inr (.inl f_holds))), (b_found, .inl (dC 105, 885, .inr (.inr (.inr (.inr f_found))))), (b_names, .inl (dC 100, 6, .inl f_names)), (b_bodies, .inl (dC 100, 4, .inl f_bodies)), (b_parts, .inl (dC 100, 3, .inl f_parts)), (b_noteParts, .inl (dC 100, 72, .inl f_noteParts)), (b_over, .inl (dC 102, 600, .inl f_over)), (b_overs, .inl (dC 101, 600, .inr (.inl f_overs))), (b_places, .inl (dC 100, 750, .inl f_places)), (b_torn, .inl (dC 102, 150, .inl f_torn)), (kq, .inl (dC 104, 5, .inr (.inr (.inr (.inr fq))))), (k9, .inr (12, [.ref bk_rows, .ref bk_columns, .int 0, .ref bk_types, .ref bk_numbers, .ref bk_formulas, .ref bk_held, .ref bk_holds, .ref bk_found, .ref bk_names, .ref bk_bodies, .int 0, .ref bk_parts, .ref bk_noteParts, .ref bk_over, .ref bk_overs, .long 0, .long 0, .int 0, .int 0, .ref bk_places, .ref bk_torn])), (bk_rows, .inl (dC 100, 4, .inl fk_rows)), (bk_columns, .inl (dC 100, 4, .inl fk_columns)), (bk_types, .inl (dC 100, 200, .inl fk_types)), (bk_numbers, .inl (dC 101, 200, .inr (.inl fk_numbers))), (bk_formulas, .inl (dC 100, 200, .inl fk_formulas)), (bk_held, .inl (dC 102, 200, .inl fk_held)), (bk_holds, .inl (dC 101, 200, .inr (.inl fk_holds))), (bk_found, .inl (dC 105, 885, .inr (.inr (.inr (.inr fk_found))))), (bk_names, .inl (dC 100, 6, .inl fk_names)), (bk_bodies, .inl (dC 100, 4, .inl fk_bodies)), (bk_parts, .inl (dC 100, 3, .inl fk_parts)), (bk_noteParts, .inl (dC 100, 72, .inl fk_noteParts)), (bk_over, .inl (dC 102, 600, .inl fk_over)), (bk_overs, .inl (dC 101, 600, .inr (.inl fk_overs))), (bk_places, .inl (dC 100, 750, .inl fk_places)), (bk_torn, .inl (dC 102, 150, .inl fk_torn)), (en, .inr (11, [e0, e1, e2, e3, e4, .int cg, e6, e7, e8, e9, e10, e11, e12, e13, e14, e15, e16, e17, e18, e19, e20, e21, e22, e23, e24, e25, e26]))]) (hS : va_S A s.heap H locs) (hl : lv_has ls 8 [(0, .ref b), (1, .ref h0), (2, .ref m0), (3, .ref ou), (4, .int 0)]) (hk0 : gk (0 : Int32).toNatClampNeg = some k0) (hfd : ∀ j, j < 885 → f_found j = none) (hk9 : fq (0 : Int32).toNatClampNeg = some k9) (hend : ∀ (H : Heap) (locs : List Loc) (ls : Array Slot), va_S A s.heap H locs → lv_has ls 8 [(4, .int 0), (0, .ref b)] → W p l e room_1 s m #[Value.ref b] below meth c H locs 600002 7302232 Z (F0 m 3410 ls [])) : W p l e room_1 s m #[Value.ref b] below meth c H locs 403 120029 Z (F0 m 1396 ls []) := by
  subst hL
  refine lv_aload_n hx hb dM_L_law_1396 rfl (lv_at hl 1 rfl) ?_
  refine lv_aload_n hx hb dM_L_law_1397 rfl (lv_at hl 0 rfl) ?_
  refine lv_iload hx hb dM_L_law_1398 (lv_at hl 4 rfl) ?_
  refine lv_iconst (v := 1) hx hb dM_L_law_1400 (by decide) ?_
  refine lv_iadd hx hb dM_L_law_1401 ?_
  refine lv_topi (fun y_1 ey_1 => ?_)
  obtain rfl : y_1 = 1 := ey_1.trans (by decide)
  refine va_sld hx hb hX hbl hbA hS (by unfold vp_in; decide) dM_L_law_1402 ?_
  refine lv_topi (fun y_2 ey_2 => ?_)
  refine lv_aload_n hx hb dM_L_law_1403 rfl (lv_at hl 0 rfl) ?_
  refine lv_iload hx hb dM_L_law_1404 (lv_at hl 4 rfl) ?_
  refine lv_iconst (v := 2) hx hb dM_L_law_1406 (by decide) ?_
  refine lv_iadd hx hb dM_L_law_1407 ?_
  refine lv_topi (fun y_3 ey_3 => ?_)
  obtain rfl : y_3 = 2 := ey_3.trans (by decide)
  refine va_sld hx hb hX hbl hbA hS (by unfold vp_in; decide) dM_L_law_1408 ?_
  refine lv_topi (fun y_4 ey_4 => ?_)
  have hFc := va_free (wc := [(h0, .inr (0, [.ref st, .ref no, .ref ch, .ref he, .ref de, .ref fi, v6, .ref kp, .int 0, .int 0, .int 0])), (st, .inr (8, [.int 0, .int 0, .int 0, .ref a_columns, .ref a_rows, .ref a_content, .ref a_held, .ref a_other, .ref a_named, .ref a_body, .ref a_parts, .ref a_partCount, .ref a_refRow, .ref a_refColumn, .ref a_refToRow, .ref a_torn, .ref a_record, .int 0, .int 0, .int 0])), (a_columns, .inl (dC 100, 4, .inl g_columns)), (a_rows, .inl (dC 100, 4, .inl g_rows)), (a_content, .inl (dC 101, 200, .inr (.inl g_content))), (a_held, .inl (dC 101, 200, .inr (.inl g_held))), (a_other, .inl (dC 101, 600, .inr (.inl g_other))), (a_named, .inl (dC 100, 6, .inl g_named)), (a_body, .inl (dC 100, 4, .inl g_body)), (a_parts, .inl (dC 100, 24, .inl g_parts)), (a_partCount, .inl (dC 100, 3, .inl g_partCount)), (a_refRow, .inl (dC 100, 150, .inl g_refRow)), (a_refColumn, .inl (dC 100, 150, .inl g_refColumn)), (a_refToRow, .inl (dC 100, 150, .inl g_refToRow)), (a_torn, .inl (dC 102, 150, .inl g_torn)), (a_record, .inl (dC 100, 885, .inl g_record)), (kp, .inl (dC 103, 5, .inr (.inr (.inr (.inr gk))))), (k0, .inr (8, [.int 0, .int 0, .int 0, .ref ak_columns, .ref ak_rows, .ref ak_content, .ref ak_held, .ref ak_other, .ref ak_named, .ref ak_body, .ref ak_parts, .ref ak_partCount, .ref ak_refRow, .ref ak_refColumn, .ref ak_refToRow, .ref ak_torn, .ref ak_record, .int 0, .int 0, .int 0])), (ak_columns, .inl (dC 100, 4, .inl gk_columns)), (ak_rows, .inl (dC 100, 4, .inl gk_rows)), (ak_content, .inl (dC 101, 200, .inr (.inl gk_content))), (ak_held, .inl (dC 101, 200, .inr (.inl gk_held))), (ak_other, .inl (dC 101, 600, .inr (.inl gk_other))), (ak_named, .inl (dC 100, 6, .inl gk_named)), (ak_body, .inl (dC 100, 4, .inl gk_body)), (ak_parts, .inl (dC 100, 24, .inl gk_parts)), (ak_partCount, .inl (dC 100, 3, .inl gk_partCount)), (ak_refRow, .inl (dC 100, 150, .inl gk_refRow)), (ak_refColumn, .inl (dC 100, 150, .inl gk_refColumn)), (ak_refToRow, .inl (dC 100, 150, .inl gk_refToRow)), (ak_torn, .inl (dC 102, 150, .inl gk_torn)), (ak_record, .inl (dC 100, 885, .inl gk_record)), (de, .inr (2, [.ref st, .ref he, x2, .int 1, x4, .int 0, x6, x7, x8, x9, x10, x11, x12, x13, x14, x15, x16, x17, x18]))]) hD hS hA [0, 1, 2, 3, 4, 5, 6, 7, 8, 9, 10, 11, 12, 13, 14, 15, 16, 17, 18, 19, 20, 21, 22, 23, 24, 25, 26, 27, 28, 29, 30, 31, 32] rfl
  refine va_calli (vx_runSW (As := [.ref h0, .int y_2, .int y_4]) (rest := []) ⟨hx, hb, hml, hown, hbg⟩ (c_L_define l hl9 dC dI h0 y_2 y_4 st no ch he de fi v6 kp a_columns a_rows a_content a_held a_other a_named a_body a_parts a_partCount a_refRow a_refColumn a_refToRow a_torn a_record g_columns g_rows g_content g_held g_other g_named g_body g_parts g_partCount g_refRow g_refColumn g_refToRow g_torn g_record gk k0 ak_columns ak_rows ak_content ak_held ak_other ak_named ak_body ak_parts ak_partCount ak_refRow ak_refColumn ak_refToRow ak_torn ak_record gk_columns gk_rows gk_content gk_held gk_other gk_named gk_body gk_parts gk_partCount gk_refRow gk_refColumn gk_refToRow gk_torn gk_record x2 x4 x6 x7 x8 x9 x10 x11 x12 x13 x14 x15 x16 x17 x18 _ (hk0)) (vx_cwSW 3 hbg (gd_S (fun _ h => h) wd_1311 wd_1312 wd_0 (gd_wmW (fun _ h => h) wd_1313)) rfl rfl rfl (by decide +kernel) ⟨Nat.le_of_ble_eq_true rfl, Nat.le_of_ble_eq_true rfl⟩) (nPreS [0, 1, 2, 3, 4, 5, 6, 7, 8, 9, 10, 11, 12, 13, 14, 15, 16, 17, 18, 19, 20, 21, 22, 23, 24, 25, 26, 27, 28, 29, 30, 31, 32] hP hD hK hN hS hA (by decide) rfl) rfl rfl hl.1 rfl (lv_room (Nat.le_of_ble_eq_true rfl)) dM_L_law_1409 ⟨Nat.le_of_ble_eq_true rfl, Nat.le_of_ble_eq_true rfl⟩) hS (fun q _ h => hFc q h) hFc (fun r_5 u t H1 locs ht hvm hw hB hz1 hk1 hS => ?_)
  rcases hw with ⟨c_6, rfl⟩ | ⟨c_7, rfl⟩ | ⟨c_8, rfl⟩
  · --
    obtain ⟨hP, hD⟩ := va_join (wr := [(m0, .inr (10, [.ref nw, .ref kq, .int 0, .int 0, z4, z5, z6, z7, z8, z9, z10, z11, z12, .ref en, z14, z15, z16])), (nw, .inr (12, [.ref b_rows, .ref b_columns, .int 0, .ref b_types, .ref b_numbers, .ref b_formulas, .ref b_held, .ref b_holds, .ref b_found, .ref b_names, .ref b_bodies, .int 0, .ref b_parts, .ref b_noteParts, .ref b_over, .ref b_overs, .long 0, .long 0, .int 0, .int 0, .ref b_places, .ref b_torn])), (b_rows, .inl (dC 100, 4, .inl f_rows)), (b_columns, .inl (dC 100, 4, .inl f_columns)), (b_types, .inl (dC 100, 200, .inl f_types)), (b_numbers, .inl (dC 101, 200, .inr (.inl f_numbers))), (b_formulas, .inl (dC 100, 200, .inl f_formulas)), (b_held, .inl (dC 102, 200, .inl f_held)), (b_holds, .inl (dC 101, 200, .inr (.inl f_holds))), (b_found, .inl (dC 105, 885, .inr (.inr (.inr (.inr f_found))))), (b_names, .inl (dC 100, 6, .inl f_names)), (b_bodies, .inl (dC 100, 4, .inl f_bodies)), (b_parts, .inl (dC 100, 3, .inl f_parts)), (b_noteParts, .inl (dC 100, 72, .inl f_noteParts)), (b_over, .inl (dC 102, 600, .inl f_over)), (b_overs, .inl (dC 101, 600, .inr (.inl f_overs))), (b_places, .inl (dC 100, 750, .inl f_places)), (b_torn, .inl (dC 102, 150, .inl f_torn)), (kq, .inl (dC 104, 5, .inr (.inr (.inr (.inr fq))))), (k9, .inr (12, [.ref bk_rows, .ref bk_columns, .int 0, .ref bk_types, .ref bk_numbers, .ref bk_formulas, .ref bk_held, .ref bk_holds, .ref bk_found, .ref bk_names, .ref bk_bodies, .int 0, .ref bk_parts, .ref bk_noteParts, .ref bk_over, .ref bk_overs, .long 0, .long 0, .int 0, .int 0, .ref bk_places, .ref bk_torn])), (bk_rows, .inl (dC 100, 4, .inl fk_rows)), (bk_columns, .inl (dC 100, 4, .inl fk_columns)), (bk_types, .inl (dC 100, 200, .inl fk_types)), (bk_numbers, .inl (dC 101, 200, .inr (.inl fk_numbers))), (bk_formulas, .inl (dC 100, 200, .inl fk_formulas)), (bk_held, .inl (dC 102, 200, .inl fk_held)), (bk_holds, .inl (dC 101, 200, .inr (.inl fk_holds))), (bk_found, .inl (dC 105, 885, .inr (.inr (.inr (.inr fk_found))))), (bk_names, .inl (dC 100, 6, .inl fk_names)), (bk_bodies, .inl (dC 100, 4, .inl fk_bodies)), (bk_parts, .inl (dC 100, 3, .inl fk_parts)), (bk_noteParts, .inl (dC 100, 72, .inl fk_noteParts)), (bk_over, .inl (dC 102, 600, .inl fk_over)), (bk_overs, .inl (dC 101, 600, .inr (.inl fk_overs))), (bk_places, .inl (dC 100, 750, .inl fk_places)), (bk_torn, .inl (dC 102, 150, .inl fk_torn)), (en, .inr (11, [e0, e1, e2, e3, e4, .int cg, e6, e7, e8, e9, e10, e11, e12, e13, e14, e15, e16, e17, e18, e19, e20, e21, e22, e23, e24, e25, e26]))]) (w1 := []) hP hD [0, 1, 2, 3, 4, 5, 6, 7, 8, 9, 10, 11, 12, 13, 14, 15, 16, 17, 18, 19, 20, 21, 22, 23, 24, 25, 26, 27, 28, 29, 30, 31, 32] [33, 34, 35, 36, 37, 38, 39, 40, 41, 42, 43, 44, 45, 46, 47, 48, 49, 50, 51, 52, 53, 54, 55, 56, 57, 58, 59, 60, 61, 62, 63, 64, 65, 66, 67, 68, 69] rfl rfl (by decide) (by decide) hk1 hFc nP0 nD0
    generalize H1 = H at hP hS ⊢
    have hP : va_P (dC, dI) classes [(m0, .inr (10, [.ref nw, .ref kq, .int 0, .int 0, z4, z5, z6, z7, z8, z9, z10, z11, z12, .ref en, z14, z15, z16])), (nw, .inr (12, [.ref b_rows, .ref b_columns, .int 0, .ref b_types, .ref b_numbers, .ref b_formulas, .ref b_held, .ref b_holds, .ref b_found, .ref b_names, .ref b_bodies, .int 0, .ref b_parts, .ref b_noteParts, .ref b_over, .ref b_overs, .long 0, .long 0, .int 0, .int 0, .ref b_places, .ref b_torn])), (b_rows, .inl (dC 100, 4, .inl f_rows)), (b_columns, .inl (dC 100, 4, .inl f_columns)), (b_types, .inl (dC 100, 200, .inl f_types)), (b_numbers, .inl (dC 101, 200, .inr (.inl f_numbers))), (b_formulas, .inl (dC 100, 200, .inl f_formulas)), (b_held, .inl (dC 102, 200, .inl f_held)), (b_holds, .inl (dC 101, 200, .inr (.inl f_holds))), (b_found, .inl (dC 105, 885, .inr (.inr (.inr (.inr f_found))))), (b_names, .inl (dC 100, 6, .inl f_names)), (b_bodies, .inl (dC 100, 4, .inl f_bodies)), (b_parts, .inl (dC 100, 3, .inl f_parts)), (b_noteParts, .inl (dC 100, 72, .inl f_noteParts)), (b_over, .inl (dC 102, 600, .inl f_over)), (b_overs, .inl (dC 101, 600, .inr (.inl f_overs))), (b_places, .inl (dC 100, 750, .inl f_places)), (b_torn, .inl (dC 102, 150, .inl f_torn)), (kq, .inl (dC 104, 5, .inr (.inr (.inr (.inr fq))))), (k9, .inr (12, [.ref bk_rows, .ref bk_columns, .int 0, .ref bk_types, .ref bk_numbers, .ref bk_formulas, .ref bk_held, .ref bk_holds, .ref bk_found, .ref bk_names, .ref bk_bodies, .int 0, .ref bk_parts, .ref bk_noteParts, .ref bk_over, .ref bk_overs, .long 0, .long 0, .int 0, .int 0, .ref bk_places, .ref bk_torn])), (bk_rows, .inl (dC 100, 4, .inl fk_rows)), (bk_columns, .inl (dC 100, 4, .inl fk_columns)), (bk_types, .inl (dC 100, 200, .inl fk_types)), (bk_numbers, .inl (dC 101, 200, .inr (.inl fk_numbers))), (bk_formulas, .inl (dC 100, 200, .inl fk_formulas)), (bk_held, .inl (dC 102, 200, .inl fk_held)), (bk_holds, .inl (dC 101, 200, .inr (.inl fk_holds))), (bk_found, .inl (dC 105, 885, .inr (.inr (.inr (.inr fk_found))))), (bk_names, .inl (dC 100, 6, .inl fk_names)), (bk_bodies, .inl (dC 100, 4, .inl fk_bodies)), (bk_parts, .inl (dC 100, 3, .inl fk_parts)), (bk_noteParts, .inl (dC 100, 72, .inl fk_noteParts)), (bk_over, .inl (dC 102, 600, .inl fk_over)), (bk_overs, .inl (dC 101, 600, .inr (.inl fk_overs))), (bk_places, .inl (dC 100, 750, .inl fk_places)), (bk_torn, .inl (dC 102, 150, .inl fk_torn)), (en, .inr (11, [e0, e1, e2, e3, e4, .int cg, e6, e7, e8, e9, e10, e11, e12, e13, e14, e15, e16, e17, e18, e19, e20, e21, e22, e23, e24, e25, e26]))] H := hP
    have hD : va_D A [(m0, .inr (10, [.ref nw, .ref kq, .int 0, .int 0, z4, z5, z6, z7, z8, z9, z10, z11, z12, .ref en, z14, z15, z16])), (nw, .inr (12, [.ref b_rows, .ref b_columns, .int 0, .ref b_types, .ref b_numbers, .ref b_formulas, .ref b_held, .ref b_holds, .ref b_found, .ref b_names, .ref b_bodies, .int 0, .ref b_parts, .ref b_noteParts, .ref b_over, .ref b_overs, .long 0, .long 0, .int 0, .int 0, .ref b_places, .ref b_torn])), (b_rows, .inl (dC 100, 4, .inl f_rows)), (b_columns, .inl (dC 100, 4, .inl f_columns)), (b_types, .inl (dC 100, 200, .inl f_types)), (b_numbers, .inl (dC 101, 200, .inr (.inl f_numbers))), (b_formulas, .inl (dC 100, 200, .inl f_formulas)), (b_held, .inl (dC 102, 200, .inl f_held)), (b_holds, .inl (dC 101, 200, .inr (.inl f_holds))), (b_found, .inl (dC 105, 885, .inr (.inr (.inr (.inr f_found))))), (b_names, .inl (dC 100, 6, .inl f_names)), (b_bodies, .inl (dC 100, 4, .inl f_bodies)), (b_parts, .inl (dC 100, 3, .inl f_parts)), (b_noteParts, .inl (dC 100, 72, .inl f_noteParts)), (b_over, .inl (dC 102, 600, .inl f_over)), (b_overs, .inl (dC 101, 600, .inr (.inl f_overs))), (b_places, .inl (dC 100, 750, .inl f_places)), (b_torn, .inl (dC 102, 150, .inl f_torn)), (kq, .inl (dC 104, 5, .inr (.inr (.inr (.inr fq))))), (k9, .inr (12, [.ref bk_rows, .ref bk_columns, .int 0, .ref bk_types, .ref bk_numbers, .ref bk_formulas, .ref bk_held, .ref bk_holds, .ref bk_found, .ref bk_names, .ref bk_bodies, .int 0, .ref bk_parts, .ref bk_noteParts, .ref bk_over, .ref bk_overs, .long 0, .long 0, .int 0, .int 0, .ref bk_places, .ref bk_torn])), (bk_rows, .inl (dC 100, 4, .inl fk_rows)), (bk_columns, .inl (dC 100, 4, .inl fk_columns)), (bk_types, .inl (dC 100, 200, .inl fk_types)), (bk_numbers, .inl (dC 101, 200, .inr (.inl fk_numbers))), (bk_formulas, .inl (dC 100, 200, .inl fk_formulas)), (bk_held, .inl (dC 102, 200, .inl fk_held)), (bk_holds, .inl (dC 101, 200, .inr (.inl fk_holds))), (bk_found, .inl (dC 105, 885, .inr (.inr (.inr (.inr fk_found))))), (bk_names, .inl (dC 100, 6, .inl fk_names)), (bk_bodies, .inl (dC 100, 4, .inl fk_bodies)), (bk_parts, .inl (dC 100, 3, .inl fk_parts)), (bk_noteParts, .inl (dC 100, 72, .inl fk_noteParts)), (bk_over, .inl (dC 102, 600, .inl fk_over)), (bk_overs, .inl (dC 101, 600, .inr (.inl fk_overs))), (bk_places, .inl (dC 100, 750, .inl fk_places)), (bk_torn, .inl (dC 102, 150, .inl fk_torn)), (en, .inr (11, [e0, e1, e2, e3, e4, .int cg, e6, e7, e8, e9, e10, e11, e12, e13, e14, e15, e16, e17, e18, e19, e20, e21, e22, e23, e24, e25, e26]))] := hD
    refine W.widen (k := 404) (n := 120035) (Nat.le_of_ble_eq_true rfl) (Nat.le_of_ble_eq_true rfl) ?_
    refine lv_istore (lv' := [(5, .int 0), (0, .ref b), (1, .ref h0), (2, .ref m0), (3, .ref ou), (4, .int 0)]) hx hb dM_L_law_1412 hl (by decide) rfl (fun ls hl => ?_)
    refine lv_aload_n hx hb dM_L_law_1414 rfl (lv_at hl 3 rfl) ?_
    refine lv_aload_n hx hb dM_L_law_1415 rfl (lv_at hl 1 rfl) ?_
    refine lv_iload hx hb dM_L_law_1416 (lv_at hl 5 rfl) ?_
    refine lv_iconst (v := 1) hx hb dM_L_law_1418 (by decide) ?_
    refine lv_iadd hx hb dM_L_law_1419 ?_
    refine lv_topi (fun y_9 ey_9 => ?_)
    obtain rfl : y_9 = 1 := ey_9.trans (by decide)
    refine va_sld hx hb hX hbl hbA hS (by unfold vp_in; decide) dM_L_law_1420 ?_
    refine lv_topi (fun y_10 ey_10 => ?_)
    obtain rfl : y_2 = y_10 := ey_2.trans ey_10.symm
    refine lv_aload_n hx hb dM_L_law_1421 rfl (lv_at hl 1 rfl) ?_
    refine lv_iload hx hb dM_L_law_1422 (lv_at hl 5 rfl) ?_
    refine lv_iconst (v := 2) hx hb dM_L_law_1424 (by decide) ?_
    refine lv_iadd hx hb dM_L_law_1425 ?_
    refine lv_topi (fun y_11 ey_11 => ?_)
    obtain rfl : y_11 = 2 := ey_11.trans (by decide)
    refine va_sld hx hb hX hbl hbA hS (by unfold vp_in; decide) dM_L_law_1426 ?_
    refine lv_topi (fun y_12 ey_12 => ?_)
    obtain rfl : y_4 = y_12 := ey_4.trans ey_12.symm
    have hFc := va_free (wc := [(m0, .inr (10, [.ref nw, .ref kq, .int 0, .int 0, z4, z5, z6, z7, z8, z9, z10, z11, z12, .ref en, z14, z15, z16])), (nw, .inr (12, [.ref b_rows, .ref b_columns, .int 0, .ref b_types, .ref b_numbers, .ref b_formulas, .ref b_held, .ref b_holds, .ref b_found, .ref b_names, .ref b_bodies, .int 0, .ref b_parts, .ref b_noteParts, .ref b_over, .ref b_overs, .long 0, .long 0, .int 0, .int 0, .ref b_places, .ref b_torn])), (b_rows, .inl (dC 100, 4, .inl f_rows)), (b_columns, .inl (dC 100, 4, .inl f_columns)), (b_types, .inl (dC 100, 200, .inl f_types)), (b_numbers, .inl (dC 101, 200, .inr (.inl f_numbers))), (b_formulas, .inl (dC 100, 200, .inl f_formulas)), (b_held, .inl (dC 102, 200, .inl f_held)), (b_holds, .inl (dC 101, 200, .inr (.inl f_holds))), (b_found, .inl (dC 105, 885, .inr (.inr (.inr (.inr f_found))))), (b_names, .inl (dC 100, 6, .inl f_names)), (b_bodies, .inl (dC 100, 4, .inl f_bodies)), (b_parts, .inl (dC 100, 3, .inl f_parts)), (b_noteParts, .inl (dC 100, 72, .inl f_noteParts)), (b_over, .inl (dC 102, 600, .inl f_over)), (b_overs, .inl (dC 101, 600, .inr (.inl f_overs))), (b_places, .inl (dC 100, 750, .inl f_places)), (b_torn, .inl (dC 102, 150, .inl f_torn)), (kq, .inl (dC 104, 5, .inr (.inr (.inr (.inr fq))))), (k9, .inr (12, [.ref bk_rows, .ref bk_columns, .int 0, .ref bk_types, .ref bk_numbers, .ref bk_formulas, .ref bk_held, .ref bk_holds, .ref bk_found, .ref bk_names, .ref bk_bodies, .int 0, .ref bk_parts, .ref bk_noteParts, .ref bk_over, .ref bk_overs, .long 0, .long 0, .int 0, .int 0, .ref bk_places, .ref bk_torn])), (bk_rows, .inl (dC 100, 4, .inl fk_rows)), (bk_columns, .inl (dC 100, 4, .inl fk_columns)), (bk_types, .inl (dC 100, 200, .inl fk_types)), (bk_numbers, .inl (dC 101, 200, .inr (.inl fk_numbers))), (bk_formulas, .inl (dC 100, 200, .inl fk_formulas)), (bk_held, .inl (dC 102, 200, .inl fk_held)), (bk_holds, .inl (dC 101, 200, .inr (.inl fk_holds))), (bk_found, .inl (dC 105, 885, .inr (.inr (.inr (.inr fk_found))))), (bk_names, .inl (dC 100, 6, .inl fk_names)), (bk_bodies, .inl (dC 100, 4, .inl fk_bodies)), (bk_parts, .inl (dC 100, 3, .inl fk_parts)), (bk_noteParts, .inl (dC 100, 72, .inl fk_noteParts)), (bk_over, .inl (dC 102, 600, .inl fk_over)), (bk_overs, .inl (dC 101, 600, .inr (.inl fk_overs))), (bk_places, .inl (dC 100, 750, .inl fk_places)), (bk_torn, .inl (dC 102, 150, .inl fk_torn)), (en, .inr (11, [e0, e1, e2, e3, e4, .int cg, e6, e7, e8, e9, e10, e11, e12, e13, e14, e15, e16, e17, e18, e19, e20, e21, e22, e23, e24, e25, e26]))]) hD hS hA [0, 1, 2, 3, 4, 5, 6, 7, 8, 9, 10, 11, 12, 13, 14, 15, 16, 17, 18, 19, 20, 21, 22, 23, 24, 25, 26, 27, 28, 29, 30, 31, 32, 33, 34, 35, 36] rfl
    refine va_callv (va_runV (As := [.int y_2, .int y_4]) (rest := []) ⟨hx, hb, hml, hown, hbg⟩ (c_M_define l dC dI m0 y_2 y_4 nw kq z4 z5 z6 z7 z8 z9 z10 z11 z12 en z14 z15 z16 b_rows b_columns b_types b_numbers b_formulas b_held b_holds b_found b_names b_bodies b_parts b_noteParts b_over b_overs b_places b_torn f_rows f_columns f_types f_numbers f_formulas f_held f_holds f_found f_names f_bodies f_parts f_noteParts f_over f_overs f_places f_torn fq k9 bk_rows bk_columns bk_types bk_numbers bk_formulas bk_held bk_holds bk_found bk_names bk_bodies bk_parts bk_noteParts bk_over bk_overs bk_places bk_torn fk_rows fk_columns fk_types fk_numbers fk_formulas fk_held fk_holds fk_found fk_names fk_bodies fk_parts fk_noteParts fk_over fk_overs fk_places fk_torn e0 e1 e2 e3 e4 cg e6 e7 e8 e9 e10 e11 e12 e13 e14 e15 e16 e17 e18 e19 e20 e21 e22 e23 e24 e25 e26 _ (hfd) (hk9)) (cwV 2 hbg (gd_V (fun _ h => h) wd_2648 wd_2649 wd_2650 wd_12 (gd_wm (fun _ h => h) wd_2651)) rfl rfl rfl (by decide +kernel) ⟨Nat.le_of_ble_eq_true rfl, Nat.le_of_ble_eq_true rfl⟩) (nPreV [0, 1, 2, 3, 4, 5, 6, 7, 8, 9, 10, 11, 12, 13, 14, 15, 16, 17, 18, 19, 20, 21, 22, 23, 24, 25, 26, 27, 28, 29, 30, 31, 32, 33, 34, 35, 36] hP hD hK hN hS hA (by decide) rfl 0 rfl rfl) rfl rfl hl.1 rfl (lv_room (Nat.le_of_ble_eq_true rfl)) dM_L_law_1427 ⟨Nat.le_of_ble_eq_true rfl, Nat.le_of_ble_eq_true rfl⟩) hS (fun q _ h => hFc q h) hFc (fun u t H1 locs ht hvm hw hB hz1 hk1 hS => ?_)
    rcases hw with ⟨c_14, rfl⟩ | ⟨c_15, rfl⟩ | ⟨c_16, rfl⟩
    · --
      obtain ⟨r0_17, r1_18, r2_19, r3_20, r4_21, r5_22, r6_23, r7_24, r8_25, r9_26, r10_27, r11_28, r12_29, r13_30, r14_31, r15_32, hP1, hD1⟩ := hB
      rw [ht] at hP1
      obtain ⟨hP, hD⟩ := va_join (wr := []) (w1 := [(m0, .inr (10, [r0_17, r1_18, r2_19, r3_20, r4_21, r5_22, r6_23, r7_24, r8_25, r9_26, r10_27, r11_28, r12_29, r13_30, r14_31, r15_32, .int 0]))]) hP hD [0, 1, 2, 3, 4, 5, 6, 7, 8, 9, 10, 11, 12, 13, 14, 15, 16, 17, 18, 19, 20, 21, 22, 23, 24, 25, 26, 27, 28, 29, 30, 31, 32, 33, 34, 35, 36] [] rfl rfl (by decide) (by decide) hk1 hFc hP1 hD1
      generalize H1 = H at hP hS ⊢
      have hP : va_P (dC, dI) classes [(m0, .inr (10, [r0_17, r1_18, r2_19, r3_20, r4_21, r5_22, r6_23, r7_24, r8_25, r9_26, r10_27, r11_28, r12_29, r13_30, r14_31, r15_32, .int 0]))] H := hP
      have hD : va_D A [(m0, .inr (10, [r0_17, r1_18, r2_19, r3_20, r4_21, r5_22, r6_23, r7_24, r8_25, r9_26, r10_27, r11_28, r12_29, r13_30, r14_31, r15_32, .int 0]))] := hD
      refine W.widen (k := 404) (n := 120035) (Nat.le_of_ble_eq_true rfl) (Nat.le_of_ble_eq_true rfl) ?_
      refine lv_aload_n hx hb dM_L_law_1430 rfl (lv_at hl 3 rfl) ?_
      have hFc := va_free (wc := [(m0, .inr (10, [r0_17, r1_18, r2_19, r3_20, r4_21, r5_22, r6_23, r7_24, r8_25, r9_26, r10_27, r11_28, r12_29, r13_30, r14_31, r15_32, .int 0]))]) hD hS hA [0] rfl
      refine va_calli (va_runV (As := []) (rest := []) ⟨hx, hb, hml, hown, hbg⟩ (c_M_thrown l dC dI m0 r0_17 r1_18 r2_19 r3_20 r4_21 r5_22 r6_23 r7_24 r8_25 r9_26 r10_27 r11_28 r12_29 r13_30 r14_31 r15_32 0 _ ) (cwV 0 hbg (gd_V (fun _ h => h) wd_2190 wd_2191 wd_2192 wd_12 (gd_wm (fun _ h => h) wd_2193)) rfl rfl rfl (by decide +kernel) ⟨Nat.le_of_ble_eq_true rfl, Nat.le_of_ble_eq_true rfl⟩) (nPreV [0] hP hD hK hN hS hA (by decide) rfl 0 rfl rfl) rfl rfl hl.1 rfl (lv_room (Nat.le_of_ble_eq_true rfl)) dM_L_law_1431 ⟨Nat.le_of_ble_eq_true rfl, Nat.le_of_ble_eq_true rfl⟩) hS (fun q _ h => hFc q h) hFc (fun r_33 u t H1 locs ht hvm hw hB hz1 hk1 hS => ?_)
      obtain ⟨rfl, rfl⟩ := hw
      obtain ⟨r0_35, r1_36, r2_37, r3_38, r4_39, r5_40, r6_41, r7_42, r8_43, r9_44, r10_45, r11_46, r12_47, r13_48, r14_49, r15_50, hP1, hD1⟩ := hB
      rw [ht] at hP1
      obtain ⟨hP, hD⟩ := va_join (wr := []) (w1 := [(m0, .inr (10, [r0_35, r1_36, r2_37, r3_38, r4_39, r5_40, r6_41, r7_42, r8_43, r9_44, r10_45, r11_46, r12_47, r13_48, r14_49, r15_50, .int 0]))]) hP hD [0] [] rfl rfl (by decide) (by decide) hk1 hFc hP1 hD1
      generalize H1 = H at hP hS ⊢
      have hP : va_P (dC, dI) classes [(m0, .inr (10, [r0_35, r1_36, r2_37, r3_38, r4_39, r5_40, r6_41, r7_42, r8_43, r9_44, r10_45, r11_46, r12_47, r13_48, r14_49, r15_50, .int 0]))] H := hP
      have hD : va_D A [(m0, .inr (10, [r0_35, r1_36, r2_37, r3_38, r4_39, r5_40, r6_41, r7_42, r8_43, r9_44, r10_45, r11_46, r12_47, r13_48, r14_49, r15_50, .int 0]))] := hD
      refine W.widen (k := 404) (n := 120035) (Nat.le_of_ble_eq_true rfl) (Nat.le_of_ble_eq_true rfl) ?_
      refine lv_iload hx hb dM_L_law_1434 (lv_at hl 0 rfl) ?_
      refine lv_icmp_eq (tgt := 1441) hx hb dM_L_law_1436 (by decide) (fun _ => ?_) (fun q => absurd (by decide) q)
      refine lv_goto (tgt := 3410) hx hb dM_L_law_1441 (by decide) ?_
      refine W.widen (k := 600002) (n := 7302232) (Nat.le_of_ble_eq_true rfl) (Nat.le_of_ble_eq_true rfl) ?_
      exact hend _ _ _ hS (lv_sub hl [5, 1] rfl)
    · --
      exact (n_andn c_6 c_15).elim
    · --
      exact (n_and2 c_6 c_16).elim
  · --
    obtain ⟨hP, hD⟩ := va_join (wr := [(m0, .inr (10, [.ref nw, .ref kq, .int 0, .int 0, z4, z5, z6, z7, z8, z9, z10, z11, z12, .ref en, z14, z15, z16])), (nw, .inr (12, [.ref b_rows, .ref b_columns, .int 0, .ref b_types, .ref b_numbers, .ref b_formulas, .ref b_held, .ref b_holds, .ref b_found, .ref b_names, .ref b_bodies, .int 0, .ref b_parts, .ref b_noteParts, .ref b_over, .ref b_overs, .long 0, .long 0, .int 0, .int 0, .ref b_places, .ref b_torn])), (b_rows, .inl (dC 100, 4, .inl f_rows)), (b_columns, .inl (dC 100, 4, .inl f_columns)), (b_types, .inl (dC 100, 200, .inl f_types)), (b_numbers, .inl (dC 101, 200, .inr (.inl f_numbers))), (b_formulas, .inl (dC 100, 200, .inl f_formulas)), (b_held, .inl (dC 102, 200, .inl f_held)), (b_holds, .inl (dC 101, 200, .inr (.inl f_holds))), (b_found, .inl (dC 105, 885, .inr (.inr (.inr (.inr f_found))))), (b_names, .inl (dC 100, 6, .inl f_names)), (b_bodies, .inl (dC 100, 4, .inl f_bodies)), (b_parts, .inl (dC 100, 3, .inl f_parts)), (b_noteParts, .inl (dC 100, 72, .inl f_noteParts)), (b_over, .inl (dC 102, 600, .inl f_over)), (b_overs, .inl (dC 101, 600, .inr (.inl f_overs))), (b_places, .inl (dC 100, 750, .inl f_places)), (b_torn, .inl (dC 102, 150, .inl f_torn)), (kq, .inl (dC 104, 5, .inr (.inr (.inr (.inr fq))))), (k9, .inr (12, [.ref bk_rows, .ref bk_columns, .int 0, .ref bk_types, .ref bk_numbers, .ref bk_formulas, .ref bk_held, .ref bk_holds, .ref bk_found, .ref bk_names, .ref bk_bodies, .int 0, .ref bk_parts, .ref bk_noteParts, .ref bk_over, .ref bk_overs, .long 0, .long 0, .int 0, .int 0, .ref bk_places, .ref bk_torn])), (bk_rows, .inl (dC 100, 4, .inl fk_rows)), (bk_columns, .inl (dC 100, 4, .inl fk_columns)), (bk_types, .inl (dC 100, 200, .inl fk_types)), (bk_numbers, .inl (dC 101, 200, .inr (.inl fk_numbers))), (bk_formulas, .inl (dC 100, 200, .inl fk_formulas)), (bk_held, .inl (dC 102, 200, .inl fk_held)), (bk_holds, .inl (dC 101, 200, .inr (.inl fk_holds))), (bk_found, .inl (dC 105, 885, .inr (.inr (.inr (.inr fk_found))))), (bk_names, .inl (dC 100, 6, .inl fk_names)), (bk_bodies, .inl (dC 100, 4, .inl fk_bodies)), (bk_parts, .inl (dC 100, 3, .inl fk_parts)), (bk_noteParts, .inl (dC 100, 72, .inl fk_noteParts)), (bk_over, .inl (dC 102, 600, .inl fk_over)), (bk_overs, .inl (dC 101, 600, .inr (.inl fk_overs))), (bk_places, .inl (dC 100, 750, .inl fk_places)), (bk_torn, .inl (dC 102, 150, .inl fk_torn)), (en, .inr (11, [e0, e1, e2, e3, e4, .int cg, e6, e7, e8, e9, e10, e11, e12, e13, e14, e15, e16, e17, e18, e19, e20, e21, e22, e23, e24, e25, e26]))]) (w1 := []) hP hD [0, 1, 2, 3, 4, 5, 6, 7, 8, 9, 10, 11, 12, 13, 14, 15, 16, 17, 18, 19, 20, 21, 22, 23, 24, 25, 26, 27, 28, 29, 30, 31, 32] [33, 34, 35, 36, 37, 38, 39, 40, 41, 42, 43, 44, 45, 46, 47, 48, 49, 50, 51, 52, 53, 54, 55, 56, 57, 58, 59, 60, 61, 62, 63, 64, 65, 66, 67, 68, 69] rfl rfl (by decide) (by decide) hk1 hFc nP0 nD0
    generalize H1 = H at hP hS ⊢
    have hP : va_P (dC, dI) classes [(m0, .inr (10, [.ref nw, .ref kq, .int 0, .int 0, z4, z5, z6, z7, z8, z9, z10, z11, z12, .ref en, z14, z15, z16])), (nw, .inr (12, [.ref b_rows, .ref b_columns, .int 0, .ref b_types, .ref b_numbers, .ref b_formulas, .ref b_held, .ref b_holds, .ref b_found, .ref b_names, .ref b_bodies, .int 0, .ref b_parts, .ref b_noteParts, .ref b_over, .ref b_overs, .long 0, .long 0, .int 0, .int 0, .ref b_places, .ref b_torn])), (b_rows, .inl (dC 100, 4, .inl f_rows)), (b_columns, .inl (dC 100, 4, .inl f_columns)), (b_types, .inl (dC 100, 200, .inl f_types)), (b_numbers, .inl (dC 101, 200, .inr (.inl f_numbers))), (b_formulas, .inl (dC 100, 200, .inl f_formulas)), (b_held, .inl (dC 102, 200, .inl f_held)), (b_holds, .inl (dC 101, 200, .inr (.inl f_holds))), (b_found, .inl (dC 105, 885, .inr (.inr (.inr (.inr f_found))))), (b_names, .inl (dC 100, 6, .inl f_names)), (b_bodies, .inl (dC 100, 4, .inl f_bodies)), (b_parts, .inl (dC 100, 3, .inl f_parts)), (b_noteParts, .inl (dC 100, 72, .inl f_noteParts)), (b_over, .inl (dC 102, 600, .inl f_over)), (b_overs, .inl (dC 101, 600, .inr (.inl f_overs))), (b_places, .inl (dC 100, 750, .inl f_places)), (b_torn, .inl (dC 102, 150, .inl f_torn)), (kq, .inl (dC 104, 5, .inr (.inr (.inr (.inr fq))))), (k9, .inr (12, [.ref bk_rows, .ref bk_columns, .int 0, .ref bk_types, .ref bk_numbers, .ref bk_formulas, .ref bk_held, .ref bk_holds, .ref bk_found, .ref bk_names, .ref bk_bodies, .int 0, .ref bk_parts, .ref bk_noteParts, .ref bk_over, .ref bk_overs, .long 0, .long 0, .int 0, .int 0, .ref bk_places, .ref bk_torn])), (bk_rows, .inl (dC 100, 4, .inl fk_rows)), (bk_columns, .inl (dC 100, 4, .inl fk_columns)), (bk_types, .inl (dC 100, 200, .inl fk_types)), (bk_numbers, .inl (dC 101, 200, .inr (.inl fk_numbers))), (bk_formulas, .inl (dC 100, 200, .inl fk_formulas)), (bk_held, .inl (dC 102, 200, .inl fk_held)), (bk_holds, .inl (dC 101, 200, .inr (.inl fk_holds))), (bk_found, .inl (dC 105, 885, .inr (.inr (.inr (.inr fk_found))))), (bk_names, .inl (dC 100, 6, .inl fk_names)), (bk_bodies, .inl (dC 100, 4, .inl fk_bodies)), (bk_parts, .inl (dC 100, 3, .inl fk_parts)), (bk_noteParts, .inl (dC 100, 72, .inl fk_noteParts)), (bk_over, .inl (dC 102, 600, .inl fk_over)), (bk_overs, .inl (dC 101, 600, .inr (.inl fk_overs))), (bk_places, .inl (dC 100, 750, .inl fk_places)), (bk_torn, .inl (dC 102, 150, .inl fk_torn)), (en, .inr (11, [e0, e1, e2, e3, e4, .int cg, e6, e7, e8, e9, e10, e11, e12, e13, e14, e15, e16, e17, e18, e19, e20, e21, e22, e23, e24, e25, e26]))] H := hP
    have hD : va_D A [(m0, .inr (10, [.ref nw, .ref kq, .int 0, .int 0, z4, z5, z6, z7, z8, z9, z10, z11, z12, .ref en, z14, z15, z16])), (nw, .inr (12, [.ref b_rows, .ref b_columns, .int 0, .ref b_types, .ref b_numbers, .ref b_formulas, .ref b_held, .ref b_holds, .ref b_found, .ref b_names, .ref b_bodies, .int 0, .ref b_parts, .ref b_noteParts, .ref b_over, .ref b_overs, .long 0, .long 0, .int 0, .int 0, .ref b_places, .ref b_torn])), (b_rows, .inl (dC 100, 4, .inl f_rows)), (b_columns, .inl (dC 100, 4, .inl f_columns)), (b_types, .inl (dC 100, 200, .inl f_types)), (b_numbers, .inl (dC 101, 200, .inr (.inl f_numbers))), (b_formulas, .inl (dC 100, 200, .inl f_formulas)), (b_held, .inl (dC 102, 200, .inl f_held)), (b_holds, .inl (dC 101, 200, .inr (.inl f_holds))), (b_found, .inl (dC 105, 885, .inr (.inr (.inr (.inr f_found))))), (b_names, .inl (dC 100, 6, .inl f_names)), (b_bodies, .inl (dC 100, 4, .inl f_bodies)), (b_parts, .inl (dC 100, 3, .inl f_parts)), (b_noteParts, .inl (dC 100, 72, .inl f_noteParts)), (b_over, .inl (dC 102, 600, .inl f_over)), (b_overs, .inl (dC 101, 600, .inr (.inl f_overs))), (b_places, .inl (dC 100, 750, .inl f_places)), (b_torn, .inl (dC 102, 150, .inl f_torn)), (kq, .inl (dC 104, 5, .inr (.inr (.inr (.inr fq))))), (k9, .inr (12, [.ref bk_rows, .ref bk_columns, .int 0, .ref bk_types, .ref bk_numbers, .ref bk_formulas, .ref bk_held, .ref bk_holds, .ref bk_found, .ref bk_names, .ref bk_bodies, .int 0, .ref bk_parts, .ref bk_noteParts, .ref bk_over, .ref bk_overs, .long 0, .long 0, .int 0, .int 0, .ref bk_places, .ref bk_torn])), (bk_rows, .inl (dC 100, 4, .inl fk_rows)), (bk_columns, .inl (dC 100, 4, .inl fk_columns)), (bk_types, .inl (dC 100, 200, .inl fk_types)), (bk_numbers, .inl (dC 101, 200, .inr (.inl fk_numbers))), (bk_formulas, .inl (dC 100, 200, .inl fk_formulas)), (bk_held, .inl (dC 102, 200, .inl fk_held)), (bk_holds, .inl (dC 101, 200, .inr (.inl fk_holds))), (bk_found, .inl (dC 105, 885, .inr (.inr (.inr (.inr fk_found))))), (bk_names, .inl (dC 100, 6, .inl fk_names)), (bk_bodies, .inl (dC 100, 4, .inl fk_bodies)), (bk_parts, .inl (dC 100, 3, .inl fk_parts)), (bk_noteParts, .inl (dC 100, 72, .inl fk_noteParts)), (bk_over, .inl (dC 102, 600, .inl fk_over)), (bk_overs, .inl (dC 101, 600, .inr (.inl fk_overs))), (bk_places, .inl (dC 100, 750, .inl fk_places)), (bk_torn, .inl (dC 102, 150, .inl fk_torn)), (en, .inr (11, [e0, e1, e2, e3, e4, .int cg, e6, e7, e8, e9, e10, e11, e12, e13, e14, e15, e16, e17, e18, e19, e20, e21, e22, e23, e24, e25, e26]))] := hD
    refine W.widen (k := 404) (n := 120035) (Nat.le_of_ble_eq_true rfl) (Nat.le_of_ble_eq_true rfl) ?_
    refine lv_istore (lv' := [(5, .int 1), (0, .ref b), (1, .ref h0), (2, .ref m0), (3, .ref ou), (4, .int 0)]) hx hb dM_L_law_1412 hl (by decide) rfl (fun ls hl => ?_)
    refine lv_aload_n hx hb dM_L_law_1414 rfl (lv_at hl 3 rfl) ?_
    refine lv_aload_n hx hb dM_L_law_1415 rfl (lv_at hl 1 rfl) ?_
    refine lv_iload hx hb dM_L_law_1416 (lv_at hl 5 rfl) ?_
    refine lv_iconst (v := 1) hx hb dM_L_law_1418 (by decide) ?_
    refine lv_iadd hx hb dM_L_law_1419 ?_
    refine lv_topi (fun y_51 ey_51 => ?_)
    obtain rfl : y_51 = 1 := ey_51.trans (by decide)
    refine va_sld hx hb hX hbl hbA hS (by unfold vp_in; decide) dM_L_law_1420 ?_
    refine lv_topi (fun y_52 ey_52 => ?_)
    obtain rfl : y_2 = y_52 := ey_2.trans ey_52.symm
    refine lv_aload_n hx hb dM_L_law_1421 rfl (lv_at hl 1 rfl) ?_
    refine lv_iload hx hb dM_L_law_1422 (lv_at hl 5 rfl) ?_
    refine lv_iconst (v := 2) hx hb dM_L_law_1424 (by decide) ?_
    refine lv_iadd hx hb dM_L_law_1425 ?_
    refine lv_topi (fun y_53 ey_53 => ?_)
    obtain rfl : y_53 = 2 := ey_53.trans (by decide)
    refine va_sld hx hb hX hbl hbA hS (by unfold vp_in; decide) dM_L_law_1426 ?_
    refine lv_topi (fun y_54 ey_54 => ?_)
    obtain rfl : y_4 = y_54 := ey_4.trans ey_54.symm
    have hFc := va_free (wc := [(m0, .inr (10, [.ref nw, .ref kq, .int 0, .int 0, z4, z5, z6, z7, z8, z9, z10, z11, z12, .ref en, z14, z15, z16])), (nw, .inr (12, [.ref b_rows, .ref b_columns, .int 0, .ref b_types, .ref b_numbers, .ref b_formulas, .ref b_held, .ref b_holds, .ref b_found, .ref b_names, .ref b_bodies, .int 0, .ref b_parts, .ref b_noteParts, .ref b_over, .ref b_overs, .long 0, .long 0, .int 0, .int 0, .ref b_places, .ref b_torn])), (b_rows, .inl (dC 100, 4, .inl f_rows)), (b_columns, .inl (dC 100, 4, .inl f_columns)), (b_types, .inl (dC 100, 200, .inl f_types)), (b_numbers, .inl (dC 101, 200, .inr (.inl f_numbers))), (b_formulas, .inl (dC 100, 200, .inl f_formulas)), (b_held, .inl (dC 102, 200, .inl f_held)), (b_holds, .inl (dC 101, 200, .inr (.inl f_holds))), (b_found, .inl (dC 105, 885, .inr (.inr (.inr (.inr f_found))))), (b_names, .inl (dC 100, 6, .inl f_names)), (b_bodies, .inl (dC 100, 4, .inl f_bodies)), (b_parts, .inl (dC 100, 3, .inl f_parts)), (b_noteParts, .inl (dC 100, 72, .inl f_noteParts)), (b_over, .inl (dC 102, 600, .inl f_over)), (b_overs, .inl (dC 101, 600, .inr (.inl f_overs))), (b_places, .inl (dC 100, 750, .inl f_places)), (b_torn, .inl (dC 102, 150, .inl f_torn)), (kq, .inl (dC 104, 5, .inr (.inr (.inr (.inr fq))))), (k9, .inr (12, [.ref bk_rows, .ref bk_columns, .int 0, .ref bk_types, .ref bk_numbers, .ref bk_formulas, .ref bk_held, .ref bk_holds, .ref bk_found, .ref bk_names, .ref bk_bodies, .int 0, .ref bk_parts, .ref bk_noteParts, .ref bk_over, .ref bk_overs, .long 0, .long 0, .int 0, .int 0, .ref bk_places, .ref bk_torn])), (bk_rows, .inl (dC 100, 4, .inl fk_rows)), (bk_columns, .inl (dC 100, 4, .inl fk_columns)), (bk_types, .inl (dC 100, 200, .inl fk_types)), (bk_numbers, .inl (dC 101, 200, .inr (.inl fk_numbers))), (bk_formulas, .inl (dC 100, 200, .inl fk_formulas)), (bk_held, .inl (dC 102, 200, .inl fk_held)), (bk_holds, .inl (dC 101, 200, .inr (.inl fk_holds))), (bk_found, .inl (dC 105, 885, .inr (.inr (.inr (.inr fk_found))))), (bk_names, .inl (dC 100, 6, .inl fk_names)), (bk_bodies, .inl (dC 100, 4, .inl fk_bodies)), (bk_parts, .inl (dC 100, 3, .inl fk_parts)), (bk_noteParts, .inl (dC 100, 72, .inl fk_noteParts)), (bk_over, .inl (dC 102, 600, .inl fk_over)), (bk_overs, .inl (dC 101, 600, .inr (.inl fk_overs))), (bk_places, .inl (dC 100, 750, .inl fk_places)), (bk_torn, .inl (dC 102, 150, .inl fk_torn)), (en, .inr (11, [e0, e1, e2, e3, e4, .int cg, e6, e7, e8, e9, e10, e11, e12, e13, e14, e15, e16, e17, e18, e19, e20, e21, e22, e23, e24, e25, e26]))]) hD hS hA [0, 1, 2, 3, 4, 5, 6, 7, 8, 9, 10, 11, 12, 13, 14, 15, 16, 17, 18, 19, 20, 21, 22, 23, 24, 25, 26, 27, 28, 29, 30, 31, 32, 33, 34, 35, 36] rfl
    refine va_callv (va_runV (As := [.int y_2, .int y_4]) (rest := []) ⟨hx, hb, hml, hown, hbg⟩ (c_M_define l dC dI m0 y_2 y_4 nw kq z4 z5 z6 z7 z8 z9 z10 z11 z12 en z14 z15 z16 b_rows b_columns b_types b_numbers b_formulas b_held b_holds b_found b_names b_bodies b_parts b_noteParts b_over b_overs b_places b_torn f_rows f_columns f_types f_numbers f_formulas f_held f_holds f_found f_names f_bodies f_parts f_noteParts f_over f_overs f_places f_torn fq k9 bk_rows bk_columns bk_types bk_numbers bk_formulas bk_held bk_holds bk_found bk_names bk_bodies bk_parts bk_noteParts bk_over bk_overs bk_places bk_torn fk_rows fk_columns fk_types fk_numbers fk_formulas fk_held fk_holds fk_found fk_names fk_bodies fk_parts fk_noteParts fk_over fk_overs fk_places fk_torn e0 e1 e2 e3 e4 cg e6 e7 e8 e9 e10 e11 e12 e13 e14 e15 e16 e17 e18 e19 e20 e21 e22 e23 e24 e25 e26 _ (hfd) (hk9)) (cwV 2 hbg (gd_V (fun _ h => h) wd_2648 wd_2649 wd_2650 wd_12 (gd_wm (fun _ h => h) wd_2651)) rfl rfl rfl (by decide +kernel) ⟨Nat.le_of_ble_eq_true rfl, Nat.le_of_ble_eq_true rfl⟩) (nPreV [0, 1, 2, 3, 4, 5, 6, 7, 8, 9, 10, 11, 12, 13, 14, 15, 16, 17, 18, 19, 20, 21, 22, 23, 24, 25, 26, 27, 28, 29, 30, 31, 32, 33, 34, 35, 36] hP hD hK hN hS hA (by decide) rfl 0 rfl rfl) rfl rfl hl.1 rfl (lv_room (Nat.le_of_ble_eq_true rfl)) dM_L_law_1427 ⟨Nat.le_of_ble_eq_true rfl, Nat.le_of_ble_eq_true rfl⟩) hS (fun q _ h => hFc q h) hFc (fun u t H1 locs ht hvm hw hB hz1 hk1 hS => ?_)
    rcases hw with ⟨c_56, rfl⟩ | ⟨c_57, rfl⟩ | ⟨c_58, rfl⟩
    · --
      exact (n_andn c_56 c_7).elim
    · --
      obtain ⟨r0_59, r1_60, r2_61, r3_62, r4_63, r5_64, r6_65, r7_66, r8_67, r9_68, r10_69, r11_70, r12_71, r13_72, r14_73, r15_74, hP1, hD1⟩ := hB
      rw [ht] at hP1
      obtain ⟨hP, hD⟩ := va_join (wr := []) (w1 := [(m0, .inr (10, [r0_59, r1_60, r2_61, r3_62, r4_63, r5_64, r6_65, r7_66, r8_67, r9_68, r10_69, r11_70, r12_71, r13_72, r14_73, r15_74, .int 1]))]) hP hD [0, 1, 2, 3, 4, 5, 6, 7, 8, 9, 10, 11, 12, 13, 14, 15, 16, 17, 18, 19, 20, 21, 22, 23, 24, 25, 26, 27, 28, 29, 30, 31, 32, 33, 34, 35, 36] [] rfl rfl (by decide) (by decide) hk1 hFc hP1 hD1
      generalize H1 = H at hP hS ⊢
      have hP : va_P (dC, dI) classes [(m0, .inr (10, [r0_59, r1_60, r2_61, r3_62, r4_63, r5_64, r6_65, r7_66, r8_67, r9_68, r10_69, r11_70, r12_71, r13_72, r14_73, r15_74, .int 1]))] H := hP
      have hD : va_D A [(m0, .inr (10, [r0_59, r1_60, r2_61, r3_62, r4_63, r5_64, r6_65, r7_66, r8_67, r9_68, r10_69, r11_70, r12_71, r13_72, r14_73, r15_74, .int 1]))] := hD
      refine W.widen (k := 404) (n := 120035) (Nat.le_of_ble_eq_true rfl) (Nat.le_of_ble_eq_true rfl) ?_
      refine lv_aload_n hx hb dM_L_law_1430 rfl (lv_at hl 3 rfl) ?_
      have hFc := va_free (wc := [(m0, .inr (10, [r0_59, r1_60, r2_61, r3_62, r4_63, r5_64, r6_65, r7_66, r8_67, r9_68, r10_69, r11_70, r12_71, r13_72, r14_73, r15_74, .int 1]))]) hD hS hA [0] rfl
      refine va_calli (va_runV (As := []) (rest := []) ⟨hx, hb, hml, hown, hbg⟩ (c_M_thrown l dC dI m0 r0_59 r1_60 r2_61 r3_62 r4_63 r5_64 r6_65 r7_66 r8_67 r9_68 r10_69 r11_70 r12_71 r13_72 r14_73 r15_74 1 _ ) (cwV 0 hbg (gd_V (fun _ h => h) wd_2190 wd_2191 wd_2192 wd_12 (gd_wm (fun _ h => h) wd_2193)) rfl rfl rfl (by decide +kernel) ⟨Nat.le_of_ble_eq_true rfl, Nat.le_of_ble_eq_true rfl⟩) (nPreV [0] hP hD hK hN hS hA (by decide) rfl 0 rfl rfl) rfl rfl hl.1 rfl (lv_room (Nat.le_of_ble_eq_true rfl)) dM_L_law_1431 ⟨Nat.le_of_ble_eq_true rfl, Nat.le_of_ble_eq_true rfl⟩) hS (fun q _ h => hFc q h) hFc (fun r_75 u t H1 locs ht hvm hw hB hz1 hk1 hS => ?_)
      obtain ⟨rfl, rfl⟩ := hw
      obtain ⟨r0_77, r1_78, r2_79, r3_80, r4_81, r5_82, r6_83, r7_84, r8_85, r9_86, r10_87, r11_88, r12_89, r13_90, r14_91, r15_92, hP1, hD1⟩ := hB
      rw [ht] at hP1
      obtain ⟨hP, hD⟩ := va_join (wr := []) (w1 := [(m0, .inr (10, [r0_77, r1_78, r2_79, r3_80, r4_81, r5_82, r6_83, r7_84, r8_85, r9_86, r10_87, r11_88, r12_89, r13_90, r14_91, r15_92, .int 1]))]) hP hD [0] [] rfl rfl (by decide) (by decide) hk1 hFc hP1 hD1
      generalize H1 = H at hP hS ⊢
      have hP : va_P (dC, dI) classes [(m0, .inr (10, [r0_77, r1_78, r2_79, r3_80, r4_81, r5_82, r6_83, r7_84, r8_85, r9_86, r10_87, r11_88, r12_89, r13_90, r14_91, r15_92, .int 1]))] H := hP
      have hD : va_D A [(m0, .inr (10, [r0_77, r1_78, r2_79, r3_80, r4_81, r5_82, r6_83, r7_84, r8_85, r9_86, r10_87, r11_88, r12_89, r13_90, r14_91, r15_92, .int 1]))] := hD
      refine W.widen (k := 404) (n := 120035) (Nat.le_of_ble_eq_true rfl) (Nat.le_of_ble_eq_true rfl) ?_
      refine lv_iload hx hb dM_L_law_1434 (lv_at hl 0 rfl) ?_
      refine lv_icmp_eq (tgt := 1441) hx hb dM_L_law_1436 (by decide) (fun _ => ?_) (fun q => absurd (by decide) q)
      refine lv_goto (tgt := 3410) hx hb dM_L_law_1441 (by decide) ?_
      refine W.widen (k := 600002) (n := 7302232) (Nat.le_of_ble_eq_true rfl) (Nat.le_of_ble_eq_true rfl) ?_
      exact hend _ _ _ hS (lv_sub hl [5, 1] rfl)
    · --
      exact (n_andn c_58 c_7).elim
  · --
    obtain ⟨hP, hD⟩ := va_join (wr := [(m0, .inr (10, [.ref nw, .ref kq, .int 0, .int 0, z4, z5, z6, z7, z8, z9, z10, z11, z12, .ref en, z14, z15, z16])), (nw, .inr (12, [.ref b_rows, .ref b_columns, .int 0, .ref b_types, .ref b_numbers, .ref b_formulas, .ref b_held, .ref b_holds, .ref b_found, .ref b_names, .ref b_bodies, .int 0, .ref b_parts, .ref b_noteParts, .ref b_over, .ref b_overs, .long 0, .long 0, .int 0, .int 0, .ref b_places, .ref b_torn])), (b_rows, .inl (dC 100, 4, .inl f_rows)), (b_columns, .inl (dC 100, 4, .inl f_columns)), (b_types, .inl (dC 100, 200, .inl f_types)), (b_numbers, .inl (dC 101, 200, .inr (.inl f_numbers))), (b_formulas, .inl (dC 100, 200, .inl f_formulas)), (b_held, .inl (dC 102, 200, .inl f_held)), (b_holds, .inl (dC 101, 200, .inr (.inl f_holds))), (b_found, .inl (dC 105, 885, .inr (.inr (.inr (.inr f_found))))), (b_names, .inl (dC 100, 6, .inl f_names)), (b_bodies, .inl (dC 100, 4, .inl f_bodies)), (b_parts, .inl (dC 100, 3, .inl f_parts)), (b_noteParts, .inl (dC 100, 72, .inl f_noteParts)), (b_over, .inl (dC 102, 600, .inl f_over)), (b_overs, .inl (dC 101, 600, .inr (.inl f_overs))), (b_places, .inl (dC 100, 750, .inl f_places)), (b_torn, .inl (dC 102, 150, .inl f_torn)), (kq, .inl (dC 104, 5, .inr (.inr (.inr (.inr fq))))), (k9, .inr (12, [.ref bk_rows, .ref bk_columns, .int 0, .ref bk_types, .ref bk_numbers, .ref bk_formulas, .ref bk_held, .ref bk_holds, .ref bk_found, .ref bk_names, .ref bk_bodies, .int 0, .ref bk_parts, .ref bk_noteParts, .ref bk_over, .ref bk_overs, .long 0, .long 0, .int 0, .int 0, .ref bk_places, .ref bk_torn])), (bk_rows, .inl (dC 100, 4, .inl fk_rows)), (bk_columns, .inl (dC 100, 4, .inl fk_columns)), (bk_types, .inl (dC 100, 200, .inl fk_types)), (bk_numbers, .inl (dC 101, 200, .inr (.inl fk_numbers))), (bk_formulas, .inl (dC 100, 200, .inl fk_formulas)), (bk_held, .inl (dC 102, 200, .inl fk_held)), (bk_holds, .inl (dC 101, 200, .inr (.inl fk_holds))), (bk_found, .inl (dC 105, 885, .inr (.inr (.inr (.inr fk_found))))), (bk_names, .inl (dC 100, 6, .inl fk_names)), (bk_bodies, .inl (dC 100, 4, .inl fk_bodies)), (bk_parts, .inl (dC 100, 3, .inl fk_parts)), (bk_noteParts, .inl (dC 100, 72, .inl fk_noteParts)), (bk_over, .inl (dC 102, 600, .inl fk_over)), (bk_overs, .inl (dC 101, 600, .inr (.inl fk_overs))), (bk_places, .inl (dC 100, 750, .inl fk_places)), (bk_torn, .inl (dC 102, 150, .inl fk_torn)), (en, .inr (11, [e0, e1, e2, e3, e4, .int cg, e6, e7, e8, e9, e10, e11, e12, e13, e14, e15, e16, e17, e18, e19, e20, e21, e22, e23, e24, e25, e26]))]) (w1 := []) hP hD [0, 1, 2, 3, 4, 5, 6, 7, 8, 9, 10, 11, 12, 13, 14, 15, 16, 17, 18, 19, 20, 21, 22, 23, 24, 25, 26, 27, 28, 29, 30, 31, 32] [33, 34, 35, 36, 37, 38, 39, 40, 41, 42, 43, 44, 45, 46, 47, 48, 49, 50, 51, 52, 53, 54, 55, 56, 57, 58, 59, 60, 61, 62, 63, 64, 65, 66, 67, 68, 69] rfl rfl (by decide) (by decide) hk1 hFc nP0 nD0
    generalize H1 = H at hP hS ⊢
    have hP : va_P (dC, dI) classes [(m0, .inr (10, [.ref nw, .ref kq, .int 0, .int 0, z4, z5, z6, z7, z8, z9, z10, z11, z12, .ref en, z14, z15, z16])), (nw, .inr (12, [.ref b_rows, .ref b_columns, .int 0, .ref b_types, .ref b_numbers, .ref b_formulas, .ref b_held, .ref b_holds, .ref b_found, .ref b_names, .ref b_bodies, .int 0, .ref b_parts, .ref b_noteParts, .ref b_over, .ref b_overs, .long 0, .long 0, .int 0, .int 0, .ref b_places, .ref b_torn])), (b_rows, .inl (dC 100, 4, .inl f_rows)), (b_columns, .inl (dC 100, 4, .inl f_columns)), (b_types, .inl (dC 100, 200, .inl f_types)), (b_numbers, .inl (dC 101, 200, .inr (.inl f_numbers))), (b_formulas, .inl (dC 100, 200, .inl f_formulas)), (b_held, .inl (dC 102, 200, .inl f_held)), (b_holds, .inl (dC 101, 200, .inr (.inl f_holds))), (b_found, .inl (dC 105, 885, .inr (.inr (.inr (.inr f_found))))), (b_names, .inl (dC 100, 6, .inl f_names)), (b_bodies, .inl (dC 100, 4, .inl f_bodies)), (b_parts, .inl (dC 100, 3, .inl f_parts)), (b_noteParts, .inl (dC 100, 72, .inl f_noteParts)), (b_over, .inl (dC 102, 600, .inl f_over)), (b_overs, .inl (dC 101, 600, .inr (.inl f_overs))), (b_places, .inl (dC 100, 750, .inl f_places)), (b_torn, .inl (dC 102, 150, .inl f_torn)), (kq, .inl (dC 104, 5, .inr (.inr (.inr (.inr fq))))), (k9, .inr (12, [.ref bk_rows, .ref bk_columns, .int 0, .ref bk_types, .ref bk_numbers, .ref bk_formulas, .ref bk_held, .ref bk_holds, .ref bk_found, .ref bk_names, .ref bk_bodies, .int 0, .ref bk_parts, .ref bk_noteParts, .ref bk_over, .ref bk_overs, .long 0, .long 0, .int 0, .int 0, .ref bk_places, .ref bk_torn])), (bk_rows, .inl (dC 100, 4, .inl fk_rows)), (bk_columns, .inl (dC 100, 4, .inl fk_columns)), (bk_types, .inl (dC 100, 200, .inl fk_types)), (bk_numbers, .inl (dC 101, 200, .inr (.inl fk_numbers))), (bk_formulas, .inl (dC 100, 200, .inl fk_formulas)), (bk_held, .inl (dC 102, 200, .inl fk_held)), (bk_holds, .inl (dC 101, 200, .inr (.inl fk_holds))), (bk_found, .inl (dC 105, 885, .inr (.inr (.inr (.inr fk_found))))), (bk_names, .inl (dC 100, 6, .inl fk_names)), (bk_bodies, .inl (dC 100, 4, .inl fk_bodies)), (bk_parts, .inl (dC 100, 3, .inl fk_parts)), (bk_noteParts, .inl (dC 100, 72, .inl fk_noteParts)), (bk_over, .inl (dC 102, 600, .inl fk_over)), (bk_overs, .inl (dC 101, 600, .inr (.inl fk_overs))), (bk_places, .inl (dC 100, 750, .inl fk_places)), (bk_torn, .inl (dC 102, 150, .inl fk_torn)), (en, .inr (11, [e0, e1, e2, e3, e4, .int cg, e6, e7, e8, e9, e10, e11, e12, e13, e14, e15, e16, e17, e18, e19, e20, e21, e22, e23, e24, e25, e26]))] H := hP
    have hD : va_D A [(m0, .inr (10, [.ref nw, .ref kq, .int 0, .int 0, z4, z5, z6, z7, z8, z9, z10, z11, z12, .ref en, z14, z15, z16])), (nw, .inr (12, [.ref b_rows, .ref b_columns, .int 0, .ref b_types, .ref b_numbers, .ref b_formulas, .ref b_held, .ref b_holds, .ref b_found, .ref b_names, .ref b_bodies, .int 0, .ref b_parts, .ref b_noteParts, .ref b_over, .ref b_overs, .long 0, .long 0, .int 0, .int 0, .ref b_places, .ref b_torn])), (b_rows, .inl (dC 100, 4, .inl f_rows)), (b_columns, .inl (dC 100, 4, .inl f_columns)), (b_types, .inl (dC 100, 200, .inl f_types)), (b_numbers, .inl (dC 101, 200, .inr (.inl f_numbers))), (b_formulas, .inl (dC 100, 200, .inl f_formulas)), (b_held, .inl (dC 102, 200, .inl f_held)), (b_holds, .inl (dC 101, 200, .inr (.inl f_holds))), (b_found, .inl (dC 105, 885, .inr (.inr (.inr (.inr f_found))))), (b_names, .inl (dC 100, 6, .inl f_names)), (b_bodies, .inl (dC 100, 4, .inl f_bodies)), (b_parts, .inl (dC 100, 3, .inl f_parts)), (b_noteParts, .inl (dC 100, 72, .inl f_noteParts)), (b_over, .inl (dC 102, 600, .inl f_over)), (b_overs, .inl (dC 101, 600, .inr (.inl f_overs))), (b_places, .inl (dC 100, 750, .inl f_places)), (b_torn, .inl (dC 102, 150, .inl f_torn)), (kq, .inl (dC 104, 5, .inr (.inr (.inr (.inr fq))))), (k9, .inr (12, [.ref bk_rows, .ref bk_columns, .int 0, .ref bk_types, .ref bk_numbers, .ref bk_formulas, .ref bk_held, .ref bk_holds, .ref bk_found, .ref bk_names, .ref bk_bodies, .int 0, .ref bk_parts, .ref bk_noteParts, .ref bk_over, .ref bk_overs, .long 0, .long 0, .int 0, .int 0, .ref bk_places, .ref bk_torn])), (bk_rows, .inl (dC 100, 4, .inl fk_rows)), (bk_columns, .inl (dC 100, 4, .inl fk_columns)), (bk_types, .inl (dC 100, 200, .inl fk_types)), (bk_numbers, .inl (dC 101, 200, .inr (.inl fk_numbers))), (bk_formulas, .inl (dC 100, 200, .inl fk_formulas)), (bk_held, .inl (dC 102, 200, .inl fk_held)), (bk_holds, .inl (dC 101, 200, .inr (.inl fk_holds))), (bk_found, .inl (dC 105, 885, .inr (.inr (.inr (.inr fk_found))))), (bk_names, .inl (dC 100, 6, .inl fk_names)), (bk_bodies, .inl (dC 100, 4, .inl fk_bodies)), (bk_parts, .inl (dC 100, 3, .inl fk_parts)), (bk_noteParts, .inl (dC 100, 72, .inl fk_noteParts)), (bk_over, .inl (dC 102, 600, .inl fk_over)), (bk_overs, .inl (dC 101, 600, .inr (.inl fk_overs))), (bk_places, .inl (dC 100, 750, .inl fk_places)), (bk_torn, .inl (dC 102, 150, .inl fk_torn)), (en, .inr (11, [e0, e1, e2, e3, e4, .int cg, e6, e7, e8, e9, e10, e11, e12, e13, e14, e15, e16, e17, e18, e19, e20, e21, e22, e23, e24, e25, e26]))] := hD
    refine W.widen (k := 404) (n := 120035) (Nat.le_of_ble_eq_true rfl) (Nat.le_of_ble_eq_true rfl) ?_
    refine lv_istore (lv' := [(5, .int 2), (0, .ref b), (1, .ref h0), (2, .ref m0), (3, .ref ou), (4, .int 0)]) hx hb dM_L_law_1412 hl (by decide) rfl (fun ls hl => ?_)
    refine lv_aload_n hx hb dM_L_law_1414 rfl (lv_at hl 3 rfl) ?_
    refine lv_aload_n hx hb dM_L_law_1415 rfl (lv_at hl 1 rfl) ?_
    refine lv_iload hx hb dM_L_law_1416 (lv_at hl 5 rfl) ?_
    refine lv_iconst (v := 1) hx hb dM_L_law_1418 (by decide) ?_
    refine lv_iadd hx hb dM_L_law_1419 ?_
    refine lv_topi (fun y_93 ey_93 => ?_)
    obtain rfl : y_93 = 1 := ey_93.trans (by decide)
    refine va_sld hx hb hX hbl hbA hS (by unfold vp_in; decide) dM_L_law_1420 ?_
    refine lv_topi (fun y_94 ey_94 => ?_)
    obtain rfl : y_2 = y_94 := ey_2.trans ey_94.symm
    refine lv_aload_n hx hb dM_L_law_1421 rfl (lv_at hl 1 rfl) ?_
    refine lv_iload hx hb dM_L_law_1422 (lv_at hl 5 rfl) ?_
    refine lv_iconst (v := 2) hx hb dM_L_law_1424 (by decide) ?_
    refine lv_iadd hx hb dM_L_law_1425 ?_
    refine lv_topi (fun y_95 ey_95 => ?_)
    obtain rfl : y_95 = 2 := ey_95.trans (by decide)
    refine va_sld hx hb hX hbl hbA hS (by unfold vp_in; decide) dM_L_law_1426 ?_
    refine lv_topi (fun y_96 ey_96 => ?_)
    obtain rfl : y_4 = y_96 := ey_4.trans ey_96.symm
    have hFc := va_free (wc := [(m0, .inr (10, [.ref nw, .ref kq, .int 0, .int 0, z4, z5, z6, z7, z8, z9, z10, z11, z12, .ref en, z14, z15, z16])), (nw, .inr (12, [.ref b_rows, .ref b_columns, .int 0, .ref b_types, .ref b_numbers, .ref b_formulas, .ref b_held, .ref b_holds, .ref b_found, .ref b_names, .ref b_bodies, .int 0, .ref b_parts, .ref b_noteParts, .ref b_over, .ref b_overs, .long 0, .long 0, .int 0, .int 0, .ref b_places, .ref b_torn])), (b_rows, .inl (dC 100, 4, .inl f_rows)), (b_columns, .inl (dC 100, 4, .inl f_columns)), (b_types, .inl (dC 100, 200, .inl f_types)), (b_numbers, .inl (dC 101, 200, .inr (.inl f_numbers))), (b_formulas, .inl (dC 100, 200, .inl f_formulas)), (b_held, .inl (dC 102, 200, .inl f_held)), (b_holds, .inl (dC 101, 200, .inr (.inl f_holds))), (b_found, .inl (dC 105, 885, .inr (.inr (.inr (.inr f_found))))), (b_names, .inl (dC 100, 6, .inl f_names)), (b_bodies, .inl (dC 100, 4, .inl f_bodies)), (b_parts, .inl (dC 100, 3, .inl f_parts)), (b_noteParts, .inl (dC 100, 72, .inl f_noteParts)), (b_over, .inl (dC 102, 600, .inl f_over)), (b_overs, .inl (dC 101, 600, .inr (.inl f_overs))), (b_places, .inl (dC 100, 750, .inl f_places)), (b_torn, .inl (dC 102, 150, .inl f_torn)), (kq, .inl (dC 104, 5, .inr (.inr (.inr (.inr fq))))), (k9, .inr (12, [.ref bk_rows, .ref bk_columns, .int 0, .ref bk_types, .ref bk_numbers, .ref bk_formulas, .ref bk_held, .ref bk_holds, .ref bk_found, .ref bk_names, .ref bk_bodies, .int 0, .ref bk_parts, .ref bk_noteParts, .ref bk_over, .ref bk_overs, .long 0, .long 0, .int 0, .int 0, .ref bk_places, .ref bk_torn])), (bk_rows, .inl (dC 100, 4, .inl fk_rows)), (bk_columns, .inl (dC 100, 4, .inl fk_columns)), (bk_types, .inl (dC 100, 200, .inl fk_types)), (bk_numbers, .inl (dC 101, 200, .inr (.inl fk_numbers))), (bk_formulas, .inl (dC 100, 200, .inl fk_formulas)), (bk_held, .inl (dC 102, 200, .inl fk_held)), (bk_holds, .inl (dC 101, 200, .inr (.inl fk_holds))), (bk_found, .inl (dC 105, 885, .inr (.inr (.inr (.inr fk_found))))), (bk_names, .inl (dC 100, 6, .inl fk_names)), (bk_bodies, .inl (dC 100, 4, .inl fk_bodies)), (bk_parts, .inl (dC 100, 3, .inl fk_parts)), (bk_noteParts, .inl (dC 100, 72, .inl fk_noteParts)), (bk_over, .inl (dC 102, 600, .inl fk_over)), (bk_overs, .inl (dC 101, 600, .inr (.inl fk_overs))), (bk_places, .inl (dC 100, 750, .inl fk_places)), (bk_torn, .inl (dC 102, 150, .inl fk_torn)), (en, .inr (11, [e0, e1, e2, e3, e4, .int cg, e6, e7, e8, e9, e10, e11, e12, e13, e14, e15, e16, e17, e18, e19, e20, e21, e22, e23, e24, e25, e26]))]) hD hS hA [0, 1, 2, 3, 4, 5, 6, 7, 8, 9, 10, 11, 12, 13, 14, 15, 16, 17, 18, 19, 20, 21, 22, 23, 24, 25, 26, 27, 28, 29, 30, 31, 32, 33, 34, 35, 36] rfl
    refine va_callv (va_runV (As := [.int y_2, .int y_4]) (rest := []) ⟨hx, hb, hml, hown, hbg⟩ (c_M_define l dC dI m0 y_2 y_4 nw kq z4 z5 z6 z7 z8 z9 z10 z11 z12 en z14 z15 z16 b_rows b_columns b_types b_numbers b_formulas b_held b_holds b_found b_names b_bodies b_parts b_noteParts b_over b_overs b_places b_torn f_rows f_columns f_types f_numbers f_formulas f_held f_holds f_found f_names f_bodies f_parts f_noteParts f_over f_overs f_places f_torn fq k9 bk_rows bk_columns bk_types bk_numbers bk_formulas bk_held bk_holds bk_found bk_names bk_bodies bk_parts bk_noteParts bk_over bk_overs bk_places bk_torn fk_rows fk_columns fk_types fk_numbers fk_formulas fk_held fk_holds fk_found fk_names fk_bodies fk_parts fk_noteParts fk_over fk_overs fk_places fk_torn e0 e1 e2 e3 e4 cg e6 e7 e8 e9 e10 e11 e12 e13 e14 e15 e16 e17 e18 e19 e20 e21 e22 e23 e24 e25 e26 _ (hfd) (hk9)) (cwV 2 hbg (gd_V (fun _ h => h) wd_2648 wd_2649 wd_2650 wd_12 (gd_wm (fun _ h => h) wd_2651)) rfl rfl rfl (by decide +kernel) ⟨Nat.le_of_ble_eq_true rfl, Nat.le_of_ble_eq_true rfl⟩) (nPreV [0, 1, 2, 3, 4, 5, 6, 7, 8, 9, 10, 11, 12, 13, 14, 15, 16, 17, 18, 19, 20, 21, 22, 23, 24, 25, 26, 27, 28, 29, 30, 31, 32, 33, 34, 35, 36] hP hD hK hN hS hA (by decide) rfl 0 rfl rfl) rfl rfl hl.1 rfl (lv_room (Nat.le_of_ble_eq_true rfl)) dM_L_law_1427 ⟨Nat.le_of_ble_eq_true rfl, Nat.le_of_ble_eq_true rfl⟩) hS (fun q _ h => hFc q h) hFc (fun u t H1 locs ht hvm hw hB hz1 hk1 hS => ?_)
    rcases hw with ⟨c_98, rfl⟩ | ⟨c_99, rfl⟩ | ⟨c_100, rfl⟩
    · --
      exact (n_and2 c_98 c_8).elim
    · --
      exact (n_andn c_8 c_99).elim
    · --
      obtain ⟨r0_101, r1_102, r2_103, r3_104, r4_105, r5_106, r6_107, r7_108, r8_109, r9_110, r10_111, r11_112, r12_113, r13_114, r14_115, r15_116, hP1, hD1⟩ := hB
      rw [ht] at hP1
      obtain ⟨hP, hD⟩ := va_join (wr := []) (w1 := [(m0, .inr (10, [r0_101, r1_102, r2_103, r3_104, r4_105, r5_106, r6_107, r7_108, r8_109, r9_110, r10_111, r11_112, r12_113, r13_114, r14_115, r15_116, .int 2]))]) hP hD [0, 1, 2, 3, 4, 5, 6, 7, 8, 9, 10, 11, 12, 13, 14, 15, 16, 17, 18, 19, 20, 21, 22, 23, 24, 25, 26, 27, 28, 29, 30, 31, 32, 33, 34, 35, 36] [] rfl rfl (by decide) (by decide) hk1 hFc hP1 hD1
      generalize H1 = H at hP hS ⊢
      have hP : va_P (dC, dI) classes [(m0, .inr (10, [r0_101, r1_102, r2_103, r3_104, r4_105, r5_106, r6_107, r7_108, r8_109, r9_110, r10_111, r11_112, r12_113, r13_114, r14_115, r15_116, .int 2]))] H := hP
      have hD : va_D A [(m0, .inr (10, [r0_101, r1_102, r2_103, r3_104, r4_105, r5_106, r6_107, r7_108, r8_109, r9_110, r10_111, r11_112, r12_113, r13_114, r14_115, r15_116, .int 2]))] := hD
      refine W.widen (k := 404) (n := 120035) (Nat.le_of_ble_eq_true rfl) (Nat.le_of_ble_eq_true rfl) ?_
      refine lv_aload_n hx hb dM_L_law_1430 rfl (lv_at hl 3 rfl) ?_
      have hFc := va_free (wc := [(m0, .inr (10, [r0_101, r1_102, r2_103, r3_104, r4_105, r5_106, r6_107, r7_108, r8_109, r9_110, r10_111, r11_112, r12_113, r13_114, r14_115, r15_116, .int 2]))]) hD hS hA [0] rfl
      refine va_calli (va_runV (As := []) (rest := []) ⟨hx, hb, hml, hown, hbg⟩ (c_M_thrown l dC dI m0 r0_101 r1_102 r2_103 r3_104 r4_105 r5_106 r6_107 r7_108 r8_109 r9_110 r10_111 r11_112 r12_113 r13_114 r14_115 r15_116 2 _ ) (cwV 0 hbg (gd_V (fun _ h => h) wd_2190 wd_2191 wd_2192 wd_12 (gd_wm (fun _ h => h) wd_2193)) rfl rfl rfl (by decide +kernel) ⟨Nat.le_of_ble_eq_true rfl, Nat.le_of_ble_eq_true rfl⟩) (nPreV [0] hP hD hK hN hS hA (by decide) rfl 0 rfl rfl) rfl rfl hl.1 rfl (lv_room (Nat.le_of_ble_eq_true rfl)) dM_L_law_1431 ⟨Nat.le_of_ble_eq_true rfl, Nat.le_of_ble_eq_true rfl⟩) hS (fun q _ h => hFc q h) hFc (fun r_117 u t H1 locs ht hvm hw hB hz1 hk1 hS => ?_)
      obtain ⟨rfl, rfl⟩ := hw
      obtain ⟨r0_119, r1_120, r2_121, r3_122, r4_123, r5_124, r6_125, r7_126, r8_127, r9_128, r10_129, r11_130, r12_131, r13_132, r14_133, r15_134, hP1, hD1⟩ := hB
      rw [ht] at hP1
      obtain ⟨hP, hD⟩ := va_join (wr := []) (w1 := [(m0, .inr (10, [r0_119, r1_120, r2_121, r3_122, r4_123, r5_124, r6_125, r7_126, r8_127, r9_128, r10_129, r11_130, r12_131, r13_132, r14_133, r15_134, .int 2]))]) hP hD [0] [] rfl rfl (by decide) (by decide) hk1 hFc hP1 hD1
      generalize H1 = H at hP hS ⊢
      have hP : va_P (dC, dI) classes [(m0, .inr (10, [r0_119, r1_120, r2_121, r3_122, r4_123, r5_124, r6_125, r7_126, r8_127, r9_128, r10_129, r11_130, r12_131, r13_132, r14_133, r15_134, .int 2]))] H := hP
      have hD : va_D A [(m0, .inr (10, [r0_119, r1_120, r2_121, r3_122, r4_123, r5_124, r6_125, r7_126, r8_127, r9_128, r10_129, r11_130, r12_131, r13_132, r14_133, r15_134, .int 2]))] := hD
      refine W.widen (k := 404) (n := 120035) (Nat.le_of_ble_eq_true rfl) (Nat.le_of_ble_eq_true rfl) ?_
      refine lv_iload hx hb dM_L_law_1434 (lv_at hl 0 rfl) ?_
      refine lv_icmp_eq (tgt := 1441) hx hb dM_L_law_1436 (by decide) (fun _ => ?_) (fun q => absurd (by decide) q)
      refine lv_goto (tgt := 3410) hx hb dM_L_law_1441 (by decide) ?_
      refine W.widen (k := 600002) (n := 7302232) (Nat.le_of_ble_eq_true rfl) (Nat.le_of_ble_eq_true rfl) ?_
      exact hend _ _ _ hS (lv_sub hl [5, 1] rfl)
set_option maxHeartbeats 4000000 in
set_option maxRecDepth 100000 in
theorem lawc_16 {p : Program} {e : Env} {s : State} {m : MethodId} {below : List Frame} {meth : Method} {c : Code} {Z : State → Prop} (l : Launch) (hl9 : l.stackTraces = false) (dC : Nat → ClassId) (dI : Nat → Nat → Nat) {A : Nat → Prop} {b L : Nat} {xs : Nat → Int32} (hL : L = 8) (hx : p.tables.exec = Jvm.exec) (hb : c.code = cM_L_law) (hml : c.maxLocals = 8) (hown : s.vm.findClass "NoteDocumentLaw" = some m.cls) (hbg : ∀ w ∈ BIG, w.before #[Value.ref b] s = true) (hK : nK (dC, dI) s) (hN : nS A s s.heap) (hA : ∀ q : Nat, s.heap.size ≤ q → A q) (hX : va_X b L xs s s.heap) (hbl : b < s.heap.size) (hbA : ¬ A b) {H : Heap} {locs : List Loc} {ls : Array Slot} {h0 : Nat} {m0 : Nat} {ou : Nat} {st : Nat} {v1 : Value} {v2 : Value} {v3 : Value} {v4 : Value} {v5 : Value} {v6 : Value} {v7 : Value} {v8 : Value} {v9 : Value} {v10 : Value} {w3 : Value} {w4 : Value} {w5 : Value} {w6 : Value} {w7 : Value} {w8 : Value} {w9 : Value} {w10 : Value} {w11 : Value} {w12 : Value} {w13 : Value} {w14 : Value} {w15 : Value} {w16 : Value} {w17 : Value} {w18 : Value} {w19 : Value} {f0 : Nat → Int64} {nw : Nat} {z1 : Value} {z2 : Value} {z3 : Value} {z4 : Value} {z5 : Value} {z6 : Value} {z7 : Value} {z8 : Value} {z9 : Value} {z10 : Value} {z11 : Value} {z12 : Value} {z13 : Value} {z14 : Value} {z15 : Value} {z16 : Value} {t0 : Value} {t1 : Value} {t3 : Value} {t4 : Value} {t5 : Value} {t6 : Value} {t7 : Value} {t8 : Value} {t9 : Value} {t10 : Value} {t12 : Value} {t13 : Value} {t14 : Value} {t15 : Value} {t16 : Value} {t17 : Value} {t18 : Value} {t20 : Value} {t21 : Value} (hP : va_P (dC, dI) classes [(h0, .inr (0, [.ref st, v1, v2, v3, v4, v5, v6, v7, v8, v9, v10])), (st, .inr (8, [.int 0, .int 0, .int 0, w3, w4, w5, w6, w7, w8, w9, w10, w11, w12, w13, w14, w15, w16, w17, w18, w19])), (ou, .inl (dC 101, 1, .inr (.inl f0))), (m0, .inr (10, [.ref nw, z1, z2, z3, z4, z5, z6, z7, z8, z9, z10, z11, z12, z13, z14, z15, z16])), (nw, .inr (12, [t0, t1, .int 0, t3, t4, t5, t6, t7, t8, t9, t10, .int 0, t12, t13, t14, t15, t16, t17, t18, .int 0, t20, t21]))] H) (hD : va_D A [(h0, .inr (0, [.ref st, v1, v2, v3, v4, v5, v6, v7, v8, v9, v10])), (st, .inr (8, [.int 0, .int 0, .int 0, w3, w4, w5, w6, w7, w8, w9, w10, w11, w12, w13, w14, w15, w16, w17, w18, w19])), (ou, .inl (dC 101, 1, .inr (.inl f0))), (m0, .inr (10, [.ref nw, z1, z2, z3, z4, z5, z6, z7, z8, z9, z10, z11, z12, z13, z14, z15, z16])), (nw, .inr (12, [t0, t1, .int 0, t3, t4, t5, t6, t7, t8, t9, t10, .int 0, t12, t13, t14, t15, t16, t17, t18, .int 0, t20, t21]))]) (hS : va_S A s.heap H locs) (hl : lv_has ls 8 [(0, .ref b), (1, .ref h0), (2, .ref m0), (3, .ref ou), (4, .int 0)]) (hend : ∀ (H : Heap) (locs : List Loc) (ls : Array Slot), va_S A s.heap H locs → lv_has ls 8 [(4, .int 0), (0, .ref b)] → W p l e room_1 s m #[Value.ref b] below meth c H locs 600002 7302232 Z (F0 m 3410 ls [])) : W p l e room_1 s m #[Value.ref b] below meth c H locs 403 120029 Z (F0 m 1444 ls []) := by
  subst hL
  refine lv_aload_n hx hb dM_L_law_1444 rfl (lv_at hl 1 rfl) ?_
  refine lv_aload_n hx hb dM_L_law_1445 rfl (lv_at hl 3 rfl) ?_
  have hFc := va_free (wc := [(h0, .inr (0, [.ref st, v1, v2, v3, v4, v5, v6, v7, v8, v9, v10])), (st, .inr (8, [.int 0, .int 0, .int 0, w3, w4, w5, w6, w7, w8, w9, w10, w11, w12, w13, w14, w15, w16, w17, w18, w19])), (ou, .inl (dC 101, 1, .inr (.inl f0)))]) hD hS hA [0, 1, 2] rfl
  refine va_calli (vx_runSW (As := [.ref h0, .ref ou]) (rest := []) ⟨hx, hb, hml, hown, hbg⟩ (c_L_note l hl9 dC dI h0 ou st v1 v2 v3 v4 v5 v6 v7 v8 v9 v10 w3 w4 w5 w6 w7 w8 w9 w10 w11 w12 w13 w14 w15 w16 w17 w18 w19 f0 _ ) (vx_cwSW 2 hbg (gd_S (fun _ h => h) wd_1319 wd_1320 wd_0 (gd_wmW (fun _ h => h) wd_1321)) rfl rfl rfl (by decide +kernel) ⟨Nat.le_of_ble_eq_true rfl, Nat.le_of_ble_eq_true rfl⟩) (nPreS [0, 1, 2] hP hD hK hN hS hA (by decide) rfl) rfl rfl hl.1 rfl (lv_room (Nat.le_of_ble_eq_true rfl)) dM_L_law_1446 ⟨Nat.le_of_ble_eq_true rfl, Nat.le_of_ble_eq_true rfl⟩) hS (fun q _ h => hFc q h) hFc (fun r_1 u t H1 locs ht hvm hw hB hz1 hk1 hS => ?_)
  obtain ⟨rfl, rfl⟩ := hw
  obtain ⟨hP1, hD1⟩ := hB
  rw [ht] at hP1
  obtain ⟨hP, hD⟩ := va_join (wr := [(m0, .inr (10, [.ref nw, z1, z2, z3, z4, z5, z6, z7, z8, z9, z10, z11, z12, z13, z14, z15, z16])), (nw, .inr (12, [t0, t1, .int 0, t3, t4, t5, t6, t7, t8, t9, t10, .int 0, t12, t13, t14, t15, t16, t17, t18, .int 0, t20, t21]))]) (w1 := [(ou, .inl (dC 101, 1, .inr (.inl (vp_updL f0 (0 : Int32).toNatClampNeg 0))))]) hP hD [0, 1, 2] [3, 4] rfl rfl (by decide) (by decide) hk1 hFc hP1 hD1
  generalize H1 = H at hP hS ⊢
  have hP : va_P (dC, dI) classes [(m0, .inr (10, [.ref nw, z1, z2, z3, z4, z5, z6, z7, z8, z9, z10, z11, z12, z13, z14, z15, z16])), (nw, .inr (12, [t0, t1, .int 0, t3, t4, t5, t6, t7, t8, t9, t10, .int 0, t12, t13, t14, t15, t16, t17, t18, .int 0, t20, t21])), (ou, .inl (dC 101, 1, .inr (.inl (vp_updL f0 (0 : Int32).toNatClampNeg 0))))] H := hP
  have hD : va_D A [(m0, .inr (10, [.ref nw, z1, z2, z3, z4, z5, z6, z7, z8, z9, z10, z11, z12, z13, z14, z15, z16])), (nw, .inr (12, [t0, t1, .int 0, t3, t4, t5, t6, t7, t8, t9, t10, .int 0, t12, t13, t14, t15, t16, t17, t18, .int 0, t20, t21])), (ou, .inl (dC 101, 1, .inr (.inl (vp_updL f0 (0 : Int32).toNatClampNeg 0))))] := hD
  refine W.widen (k := 403) (n := 120029) (Nat.le_of_ble_eq_true rfl) (Nat.le_of_ble_eq_true rfl) ?_
  refine lv_istore (lv' := [(5, .int 0), (0, .ref b), (1, .ref h0), (2, .ref m0), (3, .ref ou), (4, .int 0)]) hx hb dM_L_law_1449 hl (by decide) rfl (fun ls hl => ?_)
  refine lv_aload_n hx hb dM_L_law_1451 rfl (lv_at hl 3 rfl) ?_
  have hFc := va_free (wc := [(m0, .inr (10, [.ref nw, z1, z2, z3, z4, z5, z6, z7, z8, z9, z10, z11, z12, z13, z14, z15, z16])), (nw, .inr (12, [t0, t1, .int 0, t3, t4, t5, t6, t7, t8, t9, t10, .int 0, t12, t13, t14, t15, t16, t17, t18, .int 0, t20, t21]))]) hD hS hA [0, 1] rfl
  refine va_calli (va_runV (As := []) (rest := []) ⟨hx, hb, hml, hown, hbg⟩ (c_M_note l dC dI m0 nw z1 z2 z3 z4 z5 z6 z7 z8 z9 z10 z11 z12 z13 z14 z15 z16 t0 t1 t3 t4 t5 t6 t7 t8 t9 t10 t12 t13 t14 t15 t16 t17 t18 t20 t21 _ ) (cwV 0 hbg (gd_V (fun _ h => h) wd_2652 wd_2653 wd_2654 wd_12 (gd_wm (fun _ h => h) wd_2655)) rfl rfl rfl (by decide +kernel) ⟨Nat.le_of_ble_eq_true rfl, Nat.le_of_ble_eq_true rfl⟩) (nPreV [0, 1] hP hD hK hN hS hA (by decide) rfl 0 rfl rfl) rfl rfl hl.1 rfl (lv_room (Nat.le_of_ble_eq_true rfl)) dM_L_law_1452 ⟨Nat.le_of_ble_eq_true rfl, Nat.le_of_ble_eq_true rfl⟩) hS (fun q _ h => hFc q h) hFc (fun r_3 u t H1 locs ht hvm hw hB hz1 hk1 hS => ?_)
  obtain ⟨rfl, rfl⟩ := hw
  obtain ⟨r0_5, r1_6, r2_7, r3_8, r4_9, r5_10, r6_11, r7_12, r8_13, r9_14, r10_15, r11_16, r12_17, r13_18, r14_19, r15_20, hP1, hD1⟩ := hB
  rw [ht] at hP1
  obtain ⟨hP, hD⟩ := va_join (wr := [(ou, .inl (dC 101, 1, .inr (.inl (vp_updL f0 (0 : Int32).toNatClampNeg 0))))]) (w1 := [(m0, .inr (10, [r0_5, r1_6, r2_7, r3_8, r4_9, r5_10, r6_11, r7_12, r8_13, r9_14, r10_15, r11_16, r12_17, r13_18, r14_19, r15_20, .int 0]))]) hP hD [0, 1] [2] rfl rfl (by decide) (by decide) hk1 hFc hP1 hD1
  generalize H1 = H at hP hS ⊢
  have hP : va_P (dC, dI) classes [(ou, .inl (dC 101, 1, .inr (.inl (vp_updL f0 (0 : Int32).toNatClampNeg 0)))), (m0, .inr (10, [r0_5, r1_6, r2_7, r3_8, r4_9, r5_10, r6_11, r7_12, r8_13, r9_14, r10_15, r11_16, r12_17, r13_18, r14_19, r15_20, .int 0]))] H := hP
  have hD : va_D A [(ou, .inl (dC 101, 1, .inr (.inl (vp_updL f0 (0 : Int32).toNatClampNeg 0)))), (m0, .inr (10, [r0_5, r1_6, r2_7, r3_8, r4_9, r5_10, r6_11, r7_12, r8_13, r9_14, r10_15, r11_16, r12_17, r13_18, r14_19, r15_20, .int 0]))] := hD
  refine W.widen (k := 403) (n := 120029) (Nat.le_of_ble_eq_true rfl) (Nat.le_of_ble_eq_true rfl) ?_
  refine lv_istore (lv' := [(6, .int 0), (5, .int 0), (0, .ref b), (1, .ref h0), (2, .ref m0), (3, .ref ou), (4, .int 0)]) hx hb dM_L_law_1455 hl (by decide) rfl (fun ls hl => ?_)
  refine lv_aload_n hx hb dM_L_law_1457 rfl (lv_at hl 4 rfl) ?_
  have hFc := va_free (wc := [(m0, .inr (10, [r0_5, r1_6, r2_7, r3_8, r4_9, r5_10, r6_11, r7_12, r8_13, r9_14, r10_15, r11_16, r12_17, r13_18, r14_19, r15_20, .int 0]))]) hD hS hA [1] rfl
  refine va_calli (va_runV (As := []) (rest := []) ⟨hx, hb, hml, hown, hbg⟩ (c_M_thrown l dC dI m0 r0_5 r1_6 r2_7 r3_8 r4_9 r5_10 r6_11 r7_12 r8_13 r9_14 r10_15 r11_16 r12_17 r13_18 r14_19 r15_20 0 _ ) (cwV 0 hbg (gd_V (fun _ h => h) wd_2190 wd_2191 wd_2192 wd_12 (gd_wm (fun _ h => h) wd_2193)) rfl rfl rfl (by decide +kernel) ⟨Nat.le_of_ble_eq_true rfl, Nat.le_of_ble_eq_true rfl⟩) (nPreV [1] hP hD hK hN hS hA (by decide) rfl 1 rfl rfl) rfl rfl hl.1 rfl (lv_room (Nat.le_of_ble_eq_true rfl)) dM_L_law_1458 ⟨Nat.le_of_ble_eq_true rfl, Nat.le_of_ble_eq_true rfl⟩) hS (fun q _ h => hFc q h) hFc (fun r_21 u t H1 locs ht hvm hw hB hz1 hk1 hS => ?_)
  obtain ⟨rfl, rfl⟩ := hw
  obtain ⟨r0_23, r1_24, r2_25, r3_26, r4_27, r5_28, r6_29, r7_30, r8_31, r9_32, r10_33, r11_34, r12_35, r13_36, r14_37, r15_38, hP1, hD1⟩ := hB
  rw [ht] at hP1
  obtain ⟨hP, hD⟩ := va_join (wr := [(ou, .inl (dC 101, 1, .inr (.inl (vp_updL f0 (0 : Int32).toNatClampNeg 0))))]) (w1 := [(m0, .inr (10, [r0_23, r1_24, r2_25, r3_26, r4_27, r5_28, r6_29, r7_30, r8_31, r9_32, r10_33, r11_34, r12_35, r13_36, r14_37, r15_38, .int 0]))]) hP hD [1] [0] rfl rfl (by decide) (by decide) hk1 hFc hP1 hD1
  generalize H1 = H at hP hS ⊢
  have hP : va_P (dC, dI) classes [(ou, .inl (dC 101, 1, .inr (.inl (vp_updL f0 (0 : Int32).toNatClampNeg 0)))), (m0, .inr (10, [r0_23, r1_24, r2_25, r3_26, r4_27, r5_28, r6_29, r7_30, r8_31, r9_32, r10_33, r11_34, r12_35, r13_36, r14_37, r15_38, .int 0]))] H := hP
  have hD : va_D A [(ou, .inl (dC 101, 1, .inr (.inl (vp_updL f0 (0 : Int32).toNatClampNeg 0)))), (m0, .inr (10, [r0_23, r1_24, r2_25, r3_26, r4_27, r5_28, r6_29, r7_30, r8_31, r9_32, r10_33, r11_34, r12_35, r13_36, r14_37, r15_38, .int 0]))] := hD
  refine W.widen (k := 403) (n := 120029) (Nat.le_of_ble_eq_true rfl) (Nat.le_of_ble_eq_true rfl) ?_
  refine lv_iload hx hb dM_L_law_1461 (lv_at hl 1 rfl) ?_
  refine lv_icmp_eq (tgt := 1468) hx hb dM_L_law_1463 (by decide) (fun _ => ?_) (fun q => absurd (by decide) q)
  refine lv_iload hx hb dM_L_law_1468 (lv_at hl 1 rfl) ?_
  refine lv_if_ne (tgt := 1485) hx hb dM_L_law_1470 (by decide) (fun q => absurd (by decide) q) (fun _ => ?_)
  refine lv_aload_n hx hb dM_L_law_1473 rfl (lv_at hl 5 rfl) ?_
  refine lv_iconst (v := 0) hx hb dM_L_law_1474 (by decide) ?_
  refine va_lald hx hb hK.1 hP 0 1 rfl rfl (by unfold vp_in; decide) dM_L_law_1475 ?_
  rw [pk_uLs]
  refine lv_iload hx hb dM_L_law_1476 (lv_at hl 0 rfl) ?_
  refine lv_i2l (v := 0) hx hb dM_L_law_1478 (by decide) ?_
  refine W.lcmp hx hb dM_L_law_1479 ?_
  refine lv_topi (fun y_39 ey_39 => ?_)
  obtain rfl : y_39 = 0 := ey_39.trans (by decide)
  refine lv_if_eq (tgt := 1485) hx hb dM_L_law_1480 (by decide) (fun _ => ?_) (fun q => absurd (by decide) q)
  refine lv_goto (tgt := 3410) hx hb dM_L_law_1485 (by decide) ?_
  refine W.widen (k := 600002) (n := 7302232) (Nat.le_of_ble_eq_true rfl) (Nat.le_of_ble_eq_true rfl) ?_
  exact hend _ _ _ hS (lv_sub hl [6, 2] rfl)
set_option maxHeartbeats 4000000 in
set_option maxRecDepth 100000 in
theorem lawc_17 {p : Program} {e : Env} {s : State} {m : MethodId} {below : List Frame} {meth : Method} {c : Code} {Z : State → Prop} (l : Launch) (hl9 : l.stackTraces = false) (dC : Nat → ClassId) (dI : Nat → Nat → Nat) {A : Nat → Prop} {b L : Nat} {xs : Nat → Int32} (hL : L = 8) (hx : p.tables.exec = Jvm.exec) (hb : c.code = cM_L_law) (hml : c.maxLocals = 8) (hown : s.vm.findClass "NoteDocumentLaw" = some m.cls) (hbg : ∀ w ∈ BIG, w.before #[Value.ref b] s = true) (hK : nK (dC, dI) s) (hN : nS A s s.heap) (hA : ∀ q : Nat, s.heap.size ≤ q → A q) (hX : va_X b L xs s s.heap) (hbl : b < s.heap.size) (hbA : ¬ A b) {H : Heap} {locs : List Loc} {ls : Array Slot} {h0 : Nat} {m0 : Nat} {ou : Nat} {st : Nat} {v1 : Value} {v2 : Value} {v3 : Value} {v4 : Value} {v5 : Value} {v6 : Value} {v7 : Value} {v8 : Value} {v9 : Value} {v10 : Value} {w3 : Value} {w4 : Value} {w5 : Value} {w6 : Value} {w7 : Value} {w8 : Value} {w9 : Value} {w10 : Value} {w11 : Value} {w12 : Value} {w13 : Value} {w14 : Value} {w15 : Value} {w16 : Value} {w17 : Value} {w18 : Value} {w19 : Value} {f0 : Nat → Int64} {nw : Nat} {z1 : Value} {z2 : Value} {z3 : Value} {z4 : Value} {z5 : Value} {z6 : Value} {z7 : Value} {z8 : Value} {z9 : Value} {z10 : Value} {z11 : Value} {z12 : Value} {z13 : Value} {z14 : Value} {z15 : Value} {z16 : Value} {t0 : Value} {t1 : Value} {t3 : Value} {t4 : Value} {t5 : Value} {t6 : Value} {t7 : Value} {t8 : Value} {t9 : Value} {t10 : Value} {t12 : Value} {t13 : Value} {t14 : Value} {t15 : Value} {t16 : Value} {t17 : Value} {t18 : Value} {t20 : Value} {t21 : Value} (hP : va_P (dC, dI) classes [(h0, .inr (0, [.ref st, v1, v2, v3, v4, v5, v6, v7, v8, v9, v10])), (st, .inr (8, [.int 0, .int 0, .int 0, w3, w4, w5, w6, w7, w8, w9, w10, w11, w12, w13, w14, w15, w16, w17, w18, w19])), (ou, .inl (dC 101, 1, .inr (.inl f0))), (m0, .inr (10, [.ref nw, z1, z2, z3, z4, z5, z6, z7, z8, z9, z10, z11, z12, z13, z14, z15, z16])), (nw, .inr (12, [t0, t1, .int 0, t3, t4, t5, t6, t7, t8, t9, t10, .int 0, t12, t13, t14, t15, t16, t17, t18, .int 0, t20, t21]))] H) (hD : va_D A [(h0, .inr (0, [.ref st, v1, v2, v3, v4, v5, v6, v7, v8, v9, v10])), (st, .inr (8, [.int 0, .int 0, .int 0, w3, w4, w5, w6, w7, w8, w9, w10, w11, w12, w13, w14, w15, w16, w17, w18, w19])), (ou, .inl (dC 101, 1, .inr (.inl f0))), (m0, .inr (10, [.ref nw, z1, z2, z3, z4, z5, z6, z7, z8, z9, z10, z11, z12, z13, z14, z15, z16])), (nw, .inr (12, [t0, t1, .int 0, t3, t4, t5, t6, t7, t8, t9, t10, .int 0, t12, t13, t14, t15, t16, t17, t18, .int 0, t20, t21]))]) (hS : va_S A s.heap H locs) (hl : lv_has ls 8 [(0, .ref b), (1, .ref h0), (2, .ref m0), (3, .ref ou), (4, .int 0)]) (hend : ∀ (H : Heap) (locs : List Loc) (ls : Array Slot), va_S A s.heap H locs → lv_has ls 8 [(4, .int 0), (0, .ref b)] → W p l e room_1 s m #[Value.ref b] below meth c H locs 600002 7302232 Z (F0 m 3410 ls [])) : W p l e room_1 s m #[Value.ref b] below meth c H locs 403 120029 Z (F0 m 1488 ls []) := by
  subst hL
  refine lv_aload_n hx hb dM_L_law_1488 rfl (lv_at hl 1 rfl) ?_
  refine lv_aload_n hx hb dM_L_law_1489 rfl (lv_at hl 0 rfl) ?_
  refine lv_iload hx hb dM_L_law_1490 (lv_at hl 4 rfl) ?_
  refine lv_iconst (v := 1) hx hb dM_L_law_1492 (by decide) ?_
  refine lv_iadd hx hb dM_L_law_1493 ?_
  refine lv_topi (fun y_1 ey_1 => ?_)
  obtain rfl : y_1 = 1 := ey_1.trans (by decide)
  refine va_sld hx hb hX hbl hbA hS (by unfold vp_in; decide) dM_L_law_1494 ?_
  refine lv_topi (fun y_2 ey_2 => ?_)
  refine lv_aload_n hx hb dM_L_law_1495 rfl (lv_at hl 0 rfl) ?_
  refine lv_iload hx hb dM_L_law_1496 (lv_at hl 4 rfl) ?_
  refine lv_iconst (v := 2) hx hb dM_L_law_1498 (by decide) ?_
  refine lv_iadd hx hb dM_L_law_1499 ?_
  refine lv_topi (fun y_3 ey_3 => ?_)
  obtain rfl : y_3 = 2 := ey_3.trans (by decide)
  refine va_sld hx hb hX hbl hbA hS (by unfold vp_in; decide) dM_L_law_1500 ?_
  refine lv_topi (fun y_4 ey_4 => ?_)
  refine lv_aload_n hx hb dM_L_law_1501 rfl (lv_at hl 3 rfl) ?_
  have hFc := va_free (wc := [(h0, .inr (0, [.ref st, v1, v2, v3, v4, v5, v6, v7, v8, v9, v10])), (st, .inr (8, [.int 0, .int 0, .int 0, w3, w4, w5, w6, w7, w8, w9, w10, w11, w12, w13, w14, w15, w16, w17, w18, w19])), (ou, .inl (dC 101, 1, .inr (.inl f0)))]) hD hS hA [0, 1, 2] rfl
  refine va_calli (vx_runSW (As := [.ref h0, .int y_2, .int y_4, .ref ou]) (rest := []) ⟨hx, hb, hml, hown, hbg⟩ (c_L_say l hl9 dC dI h0 y_2 y_4 ou st v1 v2 v3 v4 v5 v6 v7 v8 v9 v10 w3 w4 w5 w6 w7 w8 w9 w10 w11 w12 w13 w14 w15 w16 w17 w18 w19 f0 _ ) (vx_cwSW 4 hbg (gd_S (fun _ h => h) wd_1327 wd_1328 wd_0 (gd_wmW (fun _ h => h) wd_1329)) rfl rfl rfl (by decide +kernel) ⟨Nat.le_of_ble_eq_true rfl, Nat.le_of_ble_eq_true rfl⟩) (nPreS [0, 1, 2] hP hD hK hN hS hA (by decide) rfl) rfl rfl hl.1 rfl (lv_room (Nat.le_of_ble_eq_true rfl)) dM_L_law_1502 ⟨Nat.le_of_ble_eq_true rfl, Nat.le_of_ble_eq_true rfl⟩) hS (fun q _ h => hFc q h) hFc (fun r_5 u t H1 locs ht hvm hw hB hz1 hk1 hS => ?_)
  obtain ⟨rfl, hu_7⟩ := hw
  obtain rfl := hu_7.symm
  obtain ⟨hP1, hD1⟩ := hB
  rw [ht] at hP1
  obtain ⟨hP, hD⟩ := va_join (wr := [(m0, .inr (10, [.ref nw, z1, z2, z3, z4, z5, z6, z7, z8, z9, z10, z11, z12, z13, z14, z15, z16])), (nw, .inr (12, [t0, t1, .int 0, t3, t4, t5, t6, t7, t8, t9, t10, .int 0, t12, t13, t14, t15, t16, t17, t18, .int 0, t20, t21]))]) (w1 := [(ou, .inl (dC 101, 1, .inr (.inl f0)))]) hP hD [0, 1, 2] [3, 4] rfl rfl (by decide) (by decide) hk1 hFc hP1 hD1
  generalize H1 = H at hP hS ⊢
  have hP : va_P (dC, dI) classes [(m0, .inr (10, [.ref nw, z1, z2, z3, z4, z5, z6, z7, z8, z9, z10, z11, z12, z13, z14, z15, z16])), (nw, .inr (12, [t0, t1, .int 0, t3, t4, t5, t6, t7, t8, t9, t10, .int 0, t12, t13, t14, t15, t16, t17, t18, .int 0, t20, t21])), (ou, .inl (dC 101, 1, .inr (.inl f0)))] H := hP
  have hD : va_D A [(m0, .inr (10, [.ref nw, z1, z2, z3, z4, z5, z6, z7, z8, z9, z10, z11, z12, z13, z14, z15, z16])), (nw, .inr (12, [t0, t1, .int 0, t3, t4, t5, t6, t7, t8, t9, t10, .int 0, t12, t13, t14, t15, t16, t17, t18, .int 0, t20, t21])), (ou, .inl (dC 101, 1, .inr (.inl f0)))] := hD
  refine W.widen (k := 404) (n := 120035) (Nat.le_of_ble_eq_true rfl) (Nat.le_of_ble_eq_true rfl) ?_
  refine lv_istore (lv' := [(5, .int 1), (0, .ref b), (1, .ref h0), (2, .ref m0), (3, .ref ou), (4, .int 0)]) hx hb dM_L_law_1505 hl (by decide) rfl (fun ls hl => ?_)
  refine lv_aload_n hx hb dM_L_law_1507 rfl (lv_at hl 3 rfl) ?_
  refine lv_aload_n hx hb dM_L_law_1508 rfl (lv_at hl 1 rfl) ?_
  refine lv_iload hx hb dM_L_law_1509 (lv_at hl 5 rfl) ?_
  refine lv_iconst (v := 1) hx hb dM_L_law_1511 (by decide) ?_
  refine lv_iadd hx hb dM_L_law_1512 ?_
  refine lv_topi (fun y_8 ey_8 => ?_)
  obtain rfl : y_8 = 1 := ey_8.trans (by decide)
  refine va_sld hx hb hX hbl hbA hS (by unfold vp_in; decide) dM_L_law_1513 ?_
  refine lv_topi (fun y_9 ey_9 => ?_)
  obtain rfl : y_2 = y_9 := ey_2.trans ey_9.symm
  refine lv_aload_n hx hb dM_L_law_1514 rfl (lv_at hl 1 rfl) ?_
  refine lv_iload hx hb dM_L_law_1515 (lv_at hl 5 rfl) ?_
  refine lv_iconst (v := 2) hx hb dM_L_law_1517 (by decide) ?_
  refine lv_iadd hx hb dM_L_law_1518 ?_
  refine lv_topi (fun y_10 ey_10 => ?_)
  obtain rfl : y_10 = 2 := ey_10.trans (by decide)
  refine va_sld hx hb hX hbl hbA hS (by unfold vp_in; decide) dM_L_law_1519 ?_
  refine lv_topi (fun y_11 ey_11 => ?_)
  obtain rfl : y_4 = y_11 := ey_4.trans ey_11.symm
  have hFc := va_free (wc := [(m0, .inr (10, [.ref nw, z1, z2, z3, z4, z5, z6, z7, z8, z9, z10, z11, z12, z13, z14, z15, z16])), (nw, .inr (12, [t0, t1, .int 0, t3, t4, t5, t6, t7, t8, t9, t10, .int 0, t12, t13, t14, t15, t16, t17, t18, .int 0, t20, t21]))]) hD hS hA [0, 1] rfl
  refine va_calli (va_runV (As := [.int y_2, .int y_4]) (rest := []) ⟨hx, hb, hml, hown, hbg⟩ (c_M_say l dC dI m0 y_2 y_4 nw z1 z2 z3 z4 z5 z6 z7 z8 z9 z10 z11 z12 z13 z14 z15 z16 t0 t1 t3 t4 t5 t6 t7 t8 t9 t10 t12 t13 t14 t15 t16 t17 t18 t20 t21 _ ) (cwV 2 hbg (gd_V (fun _ h => h) wd_2656 wd_2657 wd_2658 wd_12 (gd_wm (fun _ h => h) wd_2659)) rfl rfl rfl (by decide +kernel) ⟨Nat.le_of_ble_eq_true rfl, Nat.le_of_ble_eq_true rfl⟩) (nPreV [0, 1] hP hD hK hN hS hA (by decide) rfl 0 rfl rfl) rfl rfl hl.1 rfl (lv_room (Nat.le_of_ble_eq_true rfl)) dM_L_law_1520 ⟨Nat.le_of_ble_eq_true rfl, Nat.le_of_ble_eq_true rfl⟩) hS (fun q _ h => hFc q h) hFc (fun r_12 u t H1 locs ht hvm hw hB hz1 hk1 hS => ?_)
  obtain ⟨rfl, rfl⟩ := hw
  obtain ⟨r0_14, r1_15, r2_16, r3_17, r4_18, r5_19, r6_20, r7_21, r8_22, r9_23, r10_24, r11_25, r12_26, r13_27, r14_28, r15_29, hP1, hD1⟩ := hB
  rw [ht] at hP1
  obtain ⟨hP, hD⟩ := va_join (wr := [(ou, .inl (dC 101, 1, .inr (.inl f0)))]) (w1 := [(m0, .inr (10, [r0_14, r1_15, r2_16, r3_17, r4_18, r5_19, r6_20, r7_21, r8_22, r9_23, r10_24, r11_25, r12_26, r13_27, r14_28, r15_29, .int 1]))]) hP hD [0, 1] [2] rfl rfl (by decide) (by decide) hk1 hFc hP1 hD1
  generalize H1 = H at hP hS ⊢
  have hP : va_P (dC, dI) classes [(ou, .inl (dC 101, 1, .inr (.inl f0))), (m0, .inr (10, [r0_14, r1_15, r2_16, r3_17, r4_18, r5_19, r6_20, r7_21, r8_22, r9_23, r10_24, r11_25, r12_26, r13_27, r14_28, r15_29, .int 1]))] H := hP
  have hD : va_D A [(ou, .inl (dC 101, 1, .inr (.inl f0))), (m0, .inr (10, [r0_14, r1_15, r2_16, r3_17, r4_18, r5_19, r6_20, r7_21, r8_22, r9_23, r10_24, r11_25, r12_26, r13_27, r14_28, r15_29, .int 1]))] := hD
  refine W.widen (k := 404) (n := 120035) (Nat.le_of_ble_eq_true rfl) (Nat.le_of_ble_eq_true rfl) ?_
  refine lv_istore (lv' := [(6, .int 0), (5, .int 1), (0, .ref b), (1, .ref h0), (2, .ref m0), (3, .ref ou), (4, .int 0)]) hx hb dM_L_law_1523 hl (by decide) rfl (fun ls hl => ?_)
  refine lv_aload_n hx hb dM_L_law_1525 rfl (lv_at hl 4 rfl) ?_
  have hFc := va_free (wc := [(m0, .inr (10, [r0_14, r1_15, r2_16, r3_17, r4_18, r5_19, r6_20, r7_21, r8_22, r9_23, r10_24, r11_25, r12_26, r13_27, r14_28, r15_29, .int 1]))]) hD hS hA [1] rfl
  refine va_calli (va_runV (As := []) (rest := []) ⟨hx, hb, hml, hown, hbg⟩ (c_M_thrown l dC dI m0 r0_14 r1_15 r2_16 r3_17 r4_18 r5_19 r6_20 r7_21 r8_22 r9_23 r10_24 r11_25 r12_26 r13_27 r14_28 r15_29 1 _ ) (cwV 0 hbg (gd_V (fun _ h => h) wd_2190 wd_2191 wd_2192 wd_12 (gd_wm (fun _ h => h) wd_2193)) rfl rfl rfl (by decide +kernel) ⟨Nat.le_of_ble_eq_true rfl, Nat.le_of_ble_eq_true rfl⟩) (nPreV [1] hP hD hK hN hS hA (by decide) rfl 1 rfl rfl) rfl rfl hl.1 rfl (lv_room (Nat.le_of_ble_eq_true rfl)) dM_L_law_1526 ⟨Nat.le_of_ble_eq_true rfl, Nat.le_of_ble_eq_true rfl⟩) hS (fun q _ h => hFc q h) hFc (fun r_30 u t H1 locs ht hvm hw hB hz1 hk1 hS => ?_)
  obtain ⟨rfl, rfl⟩ := hw
  obtain ⟨r0_32, r1_33, r2_34, r3_35, r4_36, r5_37, r6_38, r7_39, r8_40, r9_41, r10_42, r11_43, r12_44, r13_45, r14_46, r15_47, hP1, hD1⟩ := hB
  rw [ht] at hP1
  obtain ⟨hP, hD⟩ := va_join (wr := [(ou, .inl (dC 101, 1, .inr (.inl f0)))]) (w1 := [(m0, .inr (10, [r0_32, r1_33, r2_34, r3_35, r4_36, r5_37, r6_38, r7_39, r8_40, r9_41, r10_42, r11_43, r12_44, r13_45, r14_46, r15_47, .int 1]))]) hP hD [1] [0] rfl rfl (by decide) (by decide) hk1 hFc hP1 hD1
  generalize H1 = H at hP hS ⊢
  have hP : va_P (dC, dI) classes [(ou, .inl (dC 101, 1, .inr (.inl f0))), (m0, .inr (10, [r0_32, r1_33, r2_34, r3_35, r4_36, r5_37, r6_38, r7_39, r8_40, r9_41, r10_42, r11_43, r12_44, r13_45, r14_46, r15_47, .int 1]))] H := hP
  have hD : va_D A [(ou, .inl (dC 101, 1, .inr (.inl f0))), (m0, .inr (10, [r0_32, r1_33, r2_34, r3_35, r4_36, r5_37, r6_38, r7_39, r8_40, r9_41, r10_42, r11_43, r12_44, r13_45, r14_46, r15_47, .int 1]))] := hD
  refine W.widen (k := 404) (n := 120035) (Nat.le_of_ble_eq_true rfl) (Nat.le_of_ble_eq_true rfl) ?_
  refine lv_iload hx hb dM_L_law_1529 (lv_at hl 1 rfl) ?_
  refine lv_icmp_eq (tgt := 1536) hx hb dM_L_law_1531 (by decide) (fun _ => ?_) (fun q => absurd (by decide) q)
  refine lv_iload hx hb dM_L_law_1536 (lv_at hl 1 rfl) ?_
  refine lv_if_ne (tgt := 1553) hx hb dM_L_law_1538 (by decide) (fun _ => ?_) (fun q => absurd q (by decide))
  refine lv_goto (tgt := 3410) hx hb dM_L_law_1553 (by decide) ?_
  refine W.widen (k := 600002) (n := 7302232) (Nat.le_of_ble_eq_true rfl) (Nat.le_of_ble_eq_true rfl) ?_
  exact hend _ _ _ hS (lv_sub hl [6, 2] rfl)
set_option maxHeartbeats 4000000 in
set_option maxRecDepth 100000 in
theorem lawc_18 {p : Program} {e : Env} {s : State} {m : MethodId} {below : List Frame} {meth : Method} {c : Code} {Z : State → Prop} (l : Launch) (hl9 : l.stackTraces = false) (dC : Nat → ClassId) (dI : Nat → Nat → Nat) {A : Nat → Prop} {b L : Nat} {xs : Nat → Int32} (hL : L = 8) (hx : p.tables.exec = Jvm.exec) (hb : c.code = cM_L_law) (hml : c.maxLocals = 8) (hown : s.vm.findClass "NoteDocumentLaw" = some m.cls) (hbg : ∀ w ∈ BIG, w.before #[Value.ref b] s = true) (hK : nK (dC, dI) s) (hN : nS A s s.heap) (hA : ∀ q : Nat, s.heap.size ≤ q → A q) (hX : va_X b L xs s s.heap) (hbl : b < s.heap.size) (hbA : ¬ A b) {H : Heap} {locs : List Loc} {ls : Array Slot} {h0 : Nat} {m0 : Nat} {ou : Nat} {st : Nat} {v1 : Value} {v2 : Value} {v3 : Value} {v4 : Value} {v5 : Value} {v6 : Value} {v7 : Value} {v8 : Value} {v9 : Value} {v10 : Value} {w3 : Value} {w4 : Value} {w5 : Value} {w6 : Value} {w7 : Value} {w8 : Value} {w9 : Value} {w10 : Value} {w11 : Value} {w12 : Value} {w13 : Value} {w14 : Value} {w15 : Value} {w16 : Value} {w17 : Value} {w18 : Value} {w19 : Value} {f0 : Nat → Int64} {nw : Nat} {z1 : Value} {z2 : Value} {z3 : Value} {z4 : Value} {z5 : Value} {z6 : Value} {z7 : Value} {z8 : Value} {z9 : Value} {z10 : Value} {z11 : Value} {z12 : Value} {z13 : Value} {z14 : Value} {z15 : Value} {z16 : Value} {t0 : Value} {t1 : Value} {t3 : Value} {t4 : Value} {t5 : Value} {t6 : Value} {t7 : Value} {t8 : Value} {t9 : Value} {t10 : Value} {t12 : Value} {t13 : Value} {t14 : Value} {t15 : Value} {t16 : Value} {t17 : Value} {t18 : Value} {t20 : Value} {t21 : Value} (hP : va_P (dC, dI) classes [(h0, .inr (0, [.ref st, v1, v2, v3, v4, v5, v6, v7, v8, v9, v10])), (st, .inr (8, [.int 0, .int 0, .int 0, w3, w4, w5, w6, w7, w8, w9, w10, w11, w12, w13, w14, w15, w16, w17, w18, w19])), (ou, .inl (dC 101, 1, .inr (.inl f0))), (m0, .inr (10, [.ref nw, z1, z2, z3, z4, z5, z6, z7, z8, z9, z10, z11, z12, z13, z14, z15, z16])), (nw, .inr (12, [t0, t1, .int 0, t3, t4, t5, t6, t7, t8, t9, t10, .int 0, t12, t13, t14, t15, t16, t17, t18, .int 0, t20, t21]))] H) (hD : va_D A [(h0, .inr (0, [.ref st, v1, v2, v3, v4, v5, v6, v7, v8, v9, v10])), (st, .inr (8, [.int 0, .int 0, .int 0, w3, w4, w5, w6, w7, w8, w9, w10, w11, w12, w13, w14, w15, w16, w17, w18, w19])), (ou, .inl (dC 101, 1, .inr (.inl f0))), (m0, .inr (10, [.ref nw, z1, z2, z3, z4, z5, z6, z7, z8, z9, z10, z11, z12, z13, z14, z15, z16])), (nw, .inr (12, [t0, t1, .int 0, t3, t4, t5, t6, t7, t8, t9, t10, .int 0, t12, t13, t14, t15, t16, t17, t18, .int 0, t20, t21]))]) (hS : va_S A s.heap H locs) (hl : lv_has ls 8 [(0, .ref b), (1, .ref h0), (2, .ref m0), (3, .ref ou), (4, .int 0)]) (hend : ∀ (H : Heap) (locs : List Loc) (ls : Array Slot), va_S A s.heap H locs → lv_has ls 8 [(4, .int 0), (0, .ref b)] → W p l e room_1 s m #[Value.ref b] below meth c H locs 600002 7302232 Z (F0 m 3410 ls [])) : W p l e room_1 s m #[Value.ref b] below meth c H locs 403 120029 Z (F0 m 1556 ls []) := by
  subst hL
  refine lv_aload_n hx hb dM_L_law_1556 rfl (lv_at hl 1 rfl) ?_
  refine lv_aload_n hx hb dM_L_law_1557 rfl (lv_at hl 0 rfl) ?_
  refine lv_iload hx hb dM_L_law_1558 (lv_at hl 4 rfl) ?_
  refine lv_iconst (v := 1) hx hb dM_L_law_1560 (by decide) ?_
  refine lv_iadd hx hb dM_L_law_1561 ?_
  refine lv_topi (fun y_1 ey_1 => ?_)
  obtain rfl : y_1 = 1 := ey_1.trans (by decide)
  refine va_sld hx hb hX hbl hbA hS (by unfold vp_in; decide) dM_L_law_1562 ?_
  refine lv_topi (fun y_2 ey_2 => ?_)
  refine lv_aload_n hx hb dM_L_law_1563 rfl (lv_at hl 0 rfl) ?_
  refine lv_iload hx hb dM_L_law_1564 (lv_at hl 4 rfl) ?_
  refine lv_iconst (v := 2) hx hb dM_L_law_1566 (by decide) ?_
  refine lv_iadd hx hb dM_L_law_1567 ?_
  refine lv_topi (fun y_3 ey_3 => ?_)
  obtain rfl : y_3 = 2 := ey_3.trans (by decide)
  refine va_sld hx hb hX hbl hbA hS (by unfold vp_in; decide) dM_L_law_1568 ?_
  refine lv_topi (fun y_4 ey_4 => ?_)
  refine lv_aload_n hx hb dM_L_law_1569 rfl (lv_at hl 0 rfl) ?_
  refine lv_iload hx hb dM_L_law_1570 (lv_at hl 4 rfl) ?_
  refine lv_iconst (v := 3) hx hb dM_L_law_1572 (by decide) ?_
  refine lv_iadd hx hb dM_L_law_1573 ?_
  refine lv_topi (fun y_5 ey_5 => ?_)
  obtain rfl : y_5 = 3 := ey_5.trans (by decide)
  refine va_sld hx hb hX hbl hbA hS (by unfold vp_in; decide) dM_L_law_1574 ?_
  refine lv_topi (fun y_6 ey_6 => ?_)
  refine lv_aload_n hx hb dM_L_law_1575 rfl (lv_at hl 0 rfl) ?_
  refine lv_iload hx hb dM_L_law_1576 (lv_at hl 4 rfl) ?_
  refine lv_iconst (v := 4) hx hb dM_L_law_1578 (by decide) ?_
  refine lv_iadd hx hb dM_L_law_1579 ?_
  refine lv_topi (fun y_7 ey_7 => ?_)
  obtain rfl : y_7 = 4 := ey_7.trans (by decide)
  refine va_sld hx hb hX hbl hbA hS (by unfold vp_in; decide) dM_L_law_1580 ?_
  refine lv_topi (fun y_8 ey_8 => ?_)
  refine lv_aload_n hx hb dM_L_law_1581 rfl (lv_at hl 0 rfl) ?_
  refine lv_iload hx hb dM_L_law_1582 (lv_at hl 4 rfl) ?_
  refine lv_iconst (v := 5) hx hb dM_L_law_1584 (by decide) ?_
  refine lv_iadd hx hb dM_L_law_1585 ?_
  refine lv_topi (fun y_9 ey_9 => ?_)
  obtain rfl : y_9 = 5 := ey_9.trans (by decide)
  refine va_sld hx hb hX hbl hbA hS (by unfold vp_in; decide) dM_L_law_1586 ?_
  refine lv_topi (fun y_10 ey_10 => ?_)
  refine lv_aload_n hx hb dM_L_law_1587 rfl (lv_at hl 3 rfl) ?_
  have hFc := va_free (wc := [(h0, .inr (0, [.ref st, v1, v2, v3, v4, v5, v6, v7, v8, v9, v10])), (st, .inr (8, [.int 0, .int 0, .int 0, w3, w4, w5, w6, w7, w8, w9, w10, w11, w12, w13, w14, w15, w16, w17, w18, w19])), (ou, .inl (dC 101, 1, .inr (.inl f0)))]) hD hS hA [0, 1, 2] rfl
  refine va_calli (vx_runSW (As := [.ref h0, .int y_2, .int y_4, .int y_6, .int y_8, .int y_10, .ref ou]) (rest := []) ⟨hx, hb, hml, hown, hbg⟩ (c_L_show l hl9 dC dI h0 y_2 y_4 y_6 y_8 y_10 ou st v1 v2 v3 v4 v5 v6 v7 v8 v9 v10 w3 w4 w5 w6 w7 w8 w9 w10 w11 w12 w13 w14 w15 w16 w17 w18 w19 f0 _ ) (vx_cwSW 7 hbg (gd_S (fun _ h => h) wd_1349 wd_1350 wd_0 (gd_wmW (fun _ h => h) wd_1351)) rfl rfl rfl (by decide +kernel) ⟨Nat.le_of_ble_eq_true rfl, Nat.le_of_ble_eq_true rfl⟩) (nPreS [0, 1, 2] hP hD hK hN hS hA (by decide) rfl) rfl rfl hl.1 rfl (lv_room (Nat.le_of_ble_eq_true rfl)) dM_L_law_1588 ⟨Nat.le_of_ble_eq_true rfl, Nat.le_of_ble_eq_true rfl⟩) hS (fun q _ h => hFc q h) hFc (fun r_11 u t H1 locs ht hvm hw hB hz1 hk1 hS => ?_)
  obtain ⟨rfl, hu_13⟩ := hw
  obtain rfl := hu_13.symm
  obtain ⟨hP1, hD1⟩ := hB
  rw [ht] at hP1
  obtain ⟨hP, hD⟩ := va_join (wr := [(m0, .inr (10, [.ref nw, z1, z2, z3, z4, z5, z6, z7, z8, z9, z10, z11, z12, z13, z14, z15, z16])), (nw, .inr (12, [t0, t1, .int 0, t3, t4, t5, t6, t7, t8, t9, t10, .int 0, t12, t13, t14, t15, t16, t17, t18, .int 0, t20, t21]))]) (w1 := [(ou, .inl (dC 101, 1, .inr (.inl f0)))]) hP hD [0, 1, 2] [3, 4] rfl rfl (by decide) (by decide) hk1 hFc hP1 hD1
  generalize H1 = H at hP hS ⊢
  have hP : va_P (dC, dI) classes [(m0, .inr (10, [.ref nw, z1, z2, z3, z4, z5, z6, z7, z8, z9, z10, z11, z12, z13, z14, z15, z16])), (nw, .inr (12, [t0, t1, .int 0, t3, t4, t5, t6, t7, t8, t9, t10, .int 0, t12, t13, t14, t15, t16, t17, t18, .int 0, t20, t21])), (ou, .inl (dC 101, 1, .inr (.inl f0)))] H := hP
  have hD : va_D A [(m0, .inr (10, [.ref nw, z1, z2, z3, z4, z5, z6, z7, z8, z9, z10, z11, z12, z13, z14, z15, z16])), (nw, .inr (12, [t0, t1, .int 0, t3, t4, t5, t6, t7, t8, t9, t10, .int 0, t12, t13, t14, t15, t16, t17, t18, .int 0, t20, t21])), (ou, .inl (dC 101, 1, .inr (.inl f0)))] := hD
  refine W.widen (k := 404) (n := 120035) (Nat.le_of_ble_eq_true rfl) (Nat.le_of_ble_eq_true rfl) ?_
  refine lv_istore (lv' := [(5, .int 1), (0, .ref b), (1, .ref h0), (2, .ref m0), (3, .ref ou), (4, .int 0)]) hx hb dM_L_law_1591 hl (by decide) rfl (fun ls hl => ?_)
  refine lv_aload_n hx hb dM_L_law_1593 rfl (lv_at hl 3 rfl) ?_
  refine lv_aload_n hx hb dM_L_law_1594 rfl (lv_at hl 1 rfl) ?_
  refine lv_iload hx hb dM_L_law_1595 (lv_at hl 5 rfl) ?_
  refine lv_iconst (v := 1) hx hb dM_L_law_1597 (by decide) ?_
  refine lv_iadd hx hb dM_L_law_1598 ?_
  refine lv_topi (fun y_14 ey_14 => ?_)
  obtain rfl : y_14 = 1 := ey_14.trans (by decide)
  refine va_sld hx hb hX hbl hbA hS (by unfold vp_in; decide) dM_L_law_1599 ?_
  refine lv_topi (fun y_15 ey_15 => ?_)
  obtain rfl : y_2 = y_15 := ey_2.trans ey_15.symm
  refine lv_aload_n hx hb dM_L_law_1600 rfl (lv_at hl 1 rfl) ?_
  refine lv_iload hx hb dM_L_law_1601 (lv_at hl 5 rfl) ?_
  refine lv_iconst (v := 2) hx hb dM_L_law_1603 (by decide) ?_
  refine lv_iadd hx hb dM_L_law_1604 ?_
  refine lv_topi (fun y_16 ey_16 => ?_)
  obtain rfl : y_16 = 2 := ey_16.trans (by decide)
  refine va_sld hx hb hX hbl hbA hS (by unfold vp_in; decide) dM_L_law_1605 ?_
  refine lv_topi (fun y_17 ey_17 => ?_)
  obtain rfl : y_4 = y_17 := ey_4.trans ey_17.symm
  refine lv_aload_n hx hb dM_L_law_1606 rfl (lv_at hl 1 rfl) ?_
  refine lv_iload hx hb dM_L_law_1607 (lv_at hl 5 rfl) ?_
  refine lv_iconst (v := 3) hx hb dM_L_law_1609 (by decide) ?_
  refine lv_iadd hx hb dM_L_law_1610 ?_
  refine lv_topi (fun y_18 ey_18 => ?_)
  obtain rfl : y_18 = 3 := ey_18.trans (by decide)
  refine va_sld hx hb hX hbl hbA hS (by unfold vp_in; decide) dM_L_law_1611 ?_
  refine lv_topi (fun y_19 ey_19 => ?_)
  obtain rfl : y_6 = y_19 := ey_6.trans ey_19.symm
  refine lv_aload_n hx hb dM_L_law_1612 rfl (lv_at hl 1 rfl) ?_
  refine lv_iload hx hb dM_L_law_1613 (lv_at hl 5 rfl) ?_
  refine lv_iconst (v := 4) hx hb dM_L_law_1615 (by decide) ?_
  refine lv_iadd hx hb dM_L_law_1616 ?_
  refine lv_topi (fun y_20 ey_20 => ?_)
  obtain rfl : y_20 = 4 := ey_20.trans (by decide)
  refine va_sld hx hb hX hbl hbA hS (by unfold vp_in; decide) dM_L_law_1617 ?_
  refine lv_topi (fun y_21 ey_21 => ?_)
  obtain rfl : y_8 = y_21 := ey_8.trans ey_21.symm
  refine lv_aload_n hx hb dM_L_law_1618 rfl (lv_at hl 1 rfl) ?_
  refine lv_iload hx hb dM_L_law_1619 (lv_at hl 5 rfl) ?_
  refine lv_iconst (v := 5) hx hb dM_L_law_1621 (by decide) ?_
  refine lv_iadd hx hb dM_L_law_1622 ?_
  refine lv_topi (fun y_22 ey_22 => ?_)
  obtain rfl : y_22 = 5 := ey_22.trans (by decide)
  refine va_sld hx hb hX hbl hbA hS (by unfold vp_in; decide) dM_L_law_1623 ?_
  refine lv_topi (fun y_23 ey_23 => ?_)
  obtain rfl : y_10 = y_23 := ey_10.trans ey_23.symm
  have hFc := va_free (wc := [(m0, .inr (10, [.ref nw, z1, z2, z3, z4, z5, z6, z7, z8, z9, z10, z11, z12, z13, z14, z15, z16])), (nw, .inr (12, [t0, t1, .int 0, t3, t4, t5, t6, t7, t8, t9, t10, .int 0, t12, t13, t14, t15, t16, t17, t18, .int 0, t20, t21]))]) hD hS hA [0, 1] rfl
  refine va_calli (va_runV (As := [.int y_2, .int y_4, .int y_6, .int y_8, .int y_10]) (rest := []) ⟨hx, hb, hml, hown, hbg⟩ (c_M_show l dC dI m0 y_2 y_4 y_6 y_8 y_10 nw z1 z2 z3 z4 z5 z6 z7 z8 z9 z10 z11 z12 z13 z14 z15 z16 t0 t1 t3 t4 t5 t6 t7 t8 t9 t10 t12 t13 t14 t15 t16 t17 t18 t20 t21 _ ) (cwV 5 hbg (gd_V (fun _ h => h) wd_2669 wd_2670 wd_2671 wd_12 (gd_wm (fun _ h => h) wd_2672)) rfl rfl rfl (by decide +kernel) ⟨Nat.le_of_ble_eq_true rfl, Nat.le_of_ble_eq_true rfl⟩) (nPreV [0, 1] hP hD hK hN hS hA (by decide) rfl 0 rfl rfl) rfl rfl hl.1 rfl (lv_room (Nat.le_of_ble_eq_true rfl)) dM_L_law_1624 ⟨Nat.le_of_ble_eq_true rfl, Nat.le_of_ble_eq_true rfl⟩) hS (fun q _ h => hFc q h) hFc (fun r_24 u t H1 locs ht hvm hw hB hz1 hk1 hS => ?_)
  obtain ⟨rfl, rfl⟩ := hw
  obtain ⟨r0_26, r1_27, r2_28, r3_29, r4_30, r5_31, r6_32, r7_33, r8_34, r9_35, r10_36, r11_37, r12_38, r13_39, r14_40, r15_41, hP1, hD1⟩ := hB
  rw [ht] at hP1
  obtain ⟨hP, hD⟩ := va_join (wr := [(ou, .inl (dC 101, 1, .inr (.inl f0)))]) (w1 := [(m0, .inr (10, [r0_26, r1_27, r2_28, r3_29, r4_30, r5_31, r6_32, r7_33, r8_34, r9_35, r10_36, r11_37, r12_38, r13_39, r14_40, r15_41, .int 1]))]) hP hD [0, 1] [2] rfl rfl (by decide) (by decide) hk1 hFc hP1 hD1
  generalize H1 = H at hP hS ⊢
  have hP : va_P (dC, dI) classes [(ou, .inl (dC 101, 1, .inr (.inl f0))), (m0, .inr (10, [r0_26, r1_27, r2_28, r3_29, r4_30, r5_31, r6_32, r7_33, r8_34, r9_35, r10_36, r11_37, r12_38, r13_39, r14_40, r15_41, .int 1]))] H := hP
  have hD : va_D A [(ou, .inl (dC 101, 1, .inr (.inl f0))), (m0, .inr (10, [r0_26, r1_27, r2_28, r3_29, r4_30, r5_31, r6_32, r7_33, r8_34, r9_35, r10_36, r11_37, r12_38, r13_39, r14_40, r15_41, .int 1]))] := hD
  refine W.widen (k := 404) (n := 120035) (Nat.le_of_ble_eq_true rfl) (Nat.le_of_ble_eq_true rfl) ?_
  refine lv_istore (lv' := [(6, .int 0), (5, .int 1), (0, .ref b), (1, .ref h0), (2, .ref m0), (3, .ref ou), (4, .int 0)]) hx hb dM_L_law_1627 hl (by decide) rfl (fun ls hl => ?_)
  refine lv_aload_n hx hb dM_L_law_1629 rfl (lv_at hl 4 rfl) ?_
  have hFc := va_free (wc := [(m0, .inr (10, [r0_26, r1_27, r2_28, r3_29, r4_30, r5_31, r6_32, r7_33, r8_34, r9_35, r10_36, r11_37, r12_38, r13_39, r14_40, r15_41, .int 1]))]) hD hS hA [1] rfl
  refine va_calli (va_runV (As := []) (rest := []) ⟨hx, hb, hml, hown, hbg⟩ (c_M_thrown l dC dI m0 r0_26 r1_27 r2_28 r3_29 r4_30 r5_31 r6_32 r7_33 r8_34 r9_35 r10_36 r11_37 r12_38 r13_39 r14_40 r15_41 1 _ ) (cwV 0 hbg (gd_V (fun _ h => h) wd_2190 wd_2191 wd_2192 wd_12 (gd_wm (fun _ h => h) wd_2193)) rfl rfl rfl (by decide +kernel) ⟨Nat.le_of_ble_eq_true rfl, Nat.le_of_ble_eq_true rfl⟩) (nPreV [1] hP hD hK hN hS hA (by decide) rfl 1 rfl rfl) rfl rfl hl.1 rfl (lv_room (Nat.le_of_ble_eq_true rfl)) dM_L_law_1630 ⟨Nat.le_of_ble_eq_true rfl, Nat.le_of_ble_eq_true rfl⟩) hS (fun q _ h => hFc q h) hFc (fun r_42 u t H1 locs ht hvm hw hB hz1 hk1 hS => ?_)
  obtain ⟨rfl, rfl⟩ := hw
  obtain ⟨r0_44, r1_45, r2_46, r3_47, r4_48, r5_49, r6_50, r7_51, r8_52, r9_53, r10_54, r11_55, r12_56, r13_57, r14_58, r15_59, hP1, hD1⟩ := hB
  rw [ht] at hP1
  obtain ⟨hP, hD⟩ := va_join (wr := [(ou, .inl (dC 101, 1, .inr (.inl f0)))]) (w1 := [(m0, .inr (10, [r0_44, r1_45, r2_46, r3_47, r4_48, r5_49, r6_50, r7_51, r8_52, r9_53, r10_54, r11_55, r12_56, r13_57, r14_58, r15_59, .int 1]))]) hP hD [1] [0] rfl rfl (by decide) (by decide) hk1 hFc hP1 hD1
  generalize H1 = H at hP hS ⊢
  have hP : va_P (dC, dI) classes [(ou, .inl (dC 101, 1, .inr (.inl f0))), (m0, .inr (10, [r0_44, r1_45, r2_46, r3_47, r4_48, r5_49, r6_50, r7_51, r8_52, r9_53, r10_54, r11_55, r12_56, r13_57, r14_58, r15_59, .int 1]))] H := hP
  have hD : va_D A [(ou, .inl (dC 101, 1, .inr (.inl f0))), (m0, .inr (10, [r0_44, r1_45, r2_46, r3_47, r4_48, r5_49, r6_50, r7_51, r8_52, r9_53, r10_54, r11_55, r12_56, r13_57, r14_58, r15_59, .int 1]))] := hD
  refine W.widen (k := 404) (n := 120035) (Nat.le_of_ble_eq_true rfl) (Nat.le_of_ble_eq_true rfl) ?_
  refine lv_iload hx hb dM_L_law_1633 (lv_at hl 1 rfl) ?_
  refine lv_icmp_eq (tgt := 1640) hx hb dM_L_law_1635 (by decide) (fun _ => ?_) (fun q => absurd (by decide) q)
  refine lv_iload hx hb dM_L_law_1640 (lv_at hl 1 rfl) ?_
  refine lv_if_ne (tgt := 1657) hx hb dM_L_law_1642 (by decide) (fun _ => ?_) (fun q => absurd q (by decide))
  refine lv_goto (tgt := 3410) hx hb dM_L_law_1657 (by decide) ?_
  refine W.widen (k := 600002) (n := 7302232) (Nat.le_of_ble_eq_true rfl) (Nat.le_of_ble_eq_true rfl) ?_
  exact hend _ _ _ hS (lv_sub hl [6, 2] rfl)
set_option maxHeartbeats 4000000 in
set_option maxRecDepth 100000 in
theorem lawc_19 {p : Program} {e : Env} {s : State} {m : MethodId} {below : List Frame} {meth : Method} {c : Code} {Z : State → Prop} (l : Launch) (hl9 : l.stackTraces = false) (dC : Nat → ClassId) (dI : Nat → Nat → Nat) {A : Nat → Prop} {b L : Nat} {xs : Nat → Int32} (hL : L = 8) (hx : p.tables.exec = Jvm.exec) (hb : c.code = cM_L_law) (hml : c.maxLocals = 8) (hown : s.vm.findClass "NoteDocumentLaw" = some m.cls) (hbg : ∀ w ∈ BIG, w.before #[Value.ref b] s = true) (hK : nK (dC, dI) s) (hN : nS A s s.heap) (hA : ∀ q : Nat, s.heap.size ≤ q → A q) (hX : va_X b L xs s s.heap) (hbl : b < s.heap.size) (hbA : ¬ A b) {H : Heap} {locs : List Loc} {ls : Array Slot} {h0 : Nat} {m0 : Nat} {ou : Nat} {st : Nat} {no : Nat} {ch : Nat} {he : Nat} {de : Nat} {fi : Nat} {v6 : Value} {kp : Nat} {a_columns : Nat} {a_rows : Nat} {a_content : Nat} {a_held : Nat} {a_other : Nat} {a_named : Nat} {a_body : Nat} {a_parts : Nat} {a_partCount : Nat} {a_refRow : Nat} {a_refColumn : Nat} {a_refToRow : Nat} {a_torn : Nat} {a_record : Nat} {g_columns : Nat → Int32} {g_rows : Nat → Int32} {g_content : Nat → Int64} {g_held : Nat → Int64} {g_other : Nat → Int64} {g_named : Nat → Int32} {g_body : Nat → Int32} {g_parts : Nat → Int32} {g_partCount : Nat → Int32} {g_refRow : Nat → Int32} {g_refColumn : Nat → Int32} {g_refToRow : Nat → Int32} {g_torn : Nat → Int32} {g_record : Nat → Int32} {gk : Nat → Option Nat} {k0 : Nat} {ak_columns : Nat} {ak_rows : Nat} {ak_content : Nat} {ak_held : Nat} {ak_other : Nat} {ak_named : Nat} {ak_body : Nat} {ak_parts : Nat} {ak_partCount : Nat} {ak_refRow : Nat} {ak_refColumn : Nat} {ak_refToRow : Nat} {ak_torn : Nat} {ak_record : Nat} {gk_columns : Nat → Int32} {gk_rows : Nat → Int32} {gk_content : Nat → Int64} {gk_held : Nat → Int64} {gk_other : Nat → Int64} {gk_named : Nat → Int32} {gk_body : Nat → Int32} {gk_parts : Nat → Int32} {gk_partCount : Nat → Int32} {gk_refRow : Nat → Int32} {gk_refColumn : Nat → Int32} {gk_refToRow : Nat → Int32} {gk_torn : Nat → Int32} {gk_record : Nat → Int32} {x2 : Value} {x4 : Value} {x6 : Value} {x7 : Value} {x8 : Value} {x9 : Value} {x10 : Value} {x11 : Value} {x12 : Value} {x13 : Value} {x14 : Value} {x15 : Value} {x16 : Value} {x17 : Value} {x18 : Value} {f0 : Nat → Int64} {nw : Nat} {kq : Nat} {z4 : Value} {z5 : Value} {z6 : Value} {z7 : Value} {z8 : Value} {z9 : Value} {z10 : Value} {z11 : Value} {z12 : Value} {en : Nat} {z14 : Value} {z15 : Value} {z16 : Value} {b_rows : Nat} {b_columns : Nat} {b_types : Nat} {b_numbers : Nat} {b_formulas : Nat} {b_held : Nat} {b_holds : Nat} {b_found : Nat} {b_names : Nat} {b_bodies : Nat} {b_parts : Nat} {b_noteParts : Nat} {b_over : Nat} {b_overs : Nat} {b_places : Nat} {b_torn : Nat} {f_rows : Nat → Int32} {f_columns : Nat → Int32} {f_types : Nat → Int32} {f_numbers : Nat → Int64} {f_formulas : Nat → Int32} {f_held : Nat → Int32} {f_holds : Nat → Int64} {f_found : Nat → Option Nat} {f_names : Nat → Int32} {f_bodies : Nat → Int32} {f_parts : Nat → Int32} {f_noteParts : Nat → Int32} {f_over : Nat → Int32} {f_overs : Nat → Int64} {f_places : Nat → Int32} {f_torn : Nat → Int32} {fq : Nat → Option Nat} {k9 : Nat} {bk_rows : Nat} {bk_columns : Nat} {bk_types : Nat} {bk_numbers : Nat} {bk_formulas : Nat} {bk_held : Nat} {bk_holds : Nat} {bk_found : Nat} {bk_names : Nat} {bk_bodies : Nat} {bk_parts : Nat} {bk_noteParts : Nat} {bk_over : Nat} {bk_overs : Nat} {bk_places : Nat} {bk_torn : Nat} {fk_rows : Nat → Int32} {fk_columns : Nat → Int32} {fk_types : Nat → Int32} {fk_numbers : Nat → Int64} {fk_formulas : Nat → Int32} {fk_held : Nat → Int32} {fk_holds : Nat → Int64} {fk_found : Nat → Option Nat} {fk_names : Nat → Int32} {fk_bodies : Nat → Int32} {fk_parts : Nat → Int32} {fk_noteParts : Nat → Int32} {fk_over : Nat → Int32} {fk_overs : Nat → Int64} {fk_places : Nat → Int32} {fk_torn : Nat → Int32} {e0 : Value} {e1 : Value} {e2 : Value} {e3 : Value} {e4 : Value} {cg : Int32} {e6 : Value} {e7 : Value} {e8 : Value} {e9 : Value} {e10 : Value} {e11 : Value} {e12 : Value} {e13 : Value} {e14 : Value} {e15 : Value} {e16 : Value} {e17 : Value} {e18 : Value} {e19 : Value} {e20 : Value} {e21 : Value} {e22 : Value} {e23 : Value} {e24 : Value} {e25 : Value} {e26 : Value} (hP : va_P (dC, dI) classes [(h0, .inr (0, [.ref st, .ref no, .ref ch, .ref he, .ref de, .ref fi, v6, .ref kp, .int 0, .int 0, .int 0])), (st, .inr (8, [.int 0, .int 0, .int 0, .ref a_columns, .ref a_rows, .ref a_content, .ref a_held, .ref a_other, .ref a_named, .ref a_body, .ref a_parts, .ref a_partCount, .ref a_refRow, .ref a_refColumn, .ref a_refToRow, .ref a_torn, .ref a_record, .int 0, .int 0, .int 0])), (a_columns, .inl (dC 100, 4, .inl g_columns)), (a_rows, .inl (dC 100, 4, .inl g_rows)), (a_content, .inl (dC 101, 200, .inr (.inl g_content))), (a_held, .inl (dC 101, 200, .inr (.inl g_held))), (a_other, .inl (dC 101, 600, .inr (.inl g_other))), (a_named, .inl (dC 100, 6, .inl g_named)), (a_body, .inl (dC 100, 4, .inl g_body)), (a_parts, .inl (dC 100, 24, .inl g_parts)), (a_partCount, .inl (dC 100, 3, .inl g_partCount)), (a_refRow, .inl (dC 100, 150, .inl g_refRow)), (a_refColumn, .inl (dC 100, 150, .inl g_refColumn)), (a_refToRow, .inl (dC 100, 150, .inl g_refToRow)), (a_torn, .inl (dC 102, 150, .inl g_torn)), (a_record, .inl (dC 100, 885, .inl g_record)), (kp, .inl (dC 103, 5, .inr (.inr (.inr (.inr gk))))), (k0, .inr (8, [.int 0, .int 0, .int 0, .ref ak_columns, .ref ak_rows, .ref ak_content, .ref ak_held, .ref ak_other, .ref ak_named, .ref ak_body, .ref ak_parts, .ref ak_partCount, .ref ak_refRow, .ref ak_refColumn, .ref ak_refToRow, .ref ak_torn, .ref ak_record, .int 0, .int 0, .int 0])), (ak_columns, .inl (dC 100, 4, .inl gk_columns)), (ak_rows, .inl (dC 100, 4, .inl gk_rows)), (ak_content, .inl (dC 101, 200, .inr (.inl gk_content))), (ak_held, .inl (dC 101, 200, .inr (.inl gk_held))), (ak_other, .inl (dC 101, 600, .inr (.inl gk_other))), (ak_named, .inl (dC 100, 6, .inl gk_named)), (ak_body, .inl (dC 100, 4, .inl gk_body)), (ak_parts, .inl (dC 100, 24, .inl gk_parts)), (ak_partCount, .inl (dC 100, 3, .inl gk_partCount)), (ak_refRow, .inl (dC 100, 150, .inl gk_refRow)), (ak_refColumn, .inl (dC 100, 150, .inl gk_refColumn)), (ak_refToRow, .inl (dC 100, 150, .inl gk_refToRow)), (ak_torn, .inl (dC 102, 150, .inl gk_torn)), (ak_record, .inl (dC 100, 885, .inl gk_record)), (de, .inr (2, [.ref st, .ref he, x2, .int 1, x4, .int 0, x6, x7, x8, x9, x10, x11, x12, x13, x14, x15, x16, x17, x18])), (ou, .inl (dC 101, 1, .inr (.inl f0))), (m0, .inr (10, [.ref nw, .ref kq, .int 0, .int 0, z4, z5, z6, z7, z8, z9, z10, z11, z12, .ref en, z14, z15, z16])), (nw, .inr (12, [.ref b_rows, .ref b_columns, .int 0, .ref b_types, .ref b_numbers, .ref b_formulas, .ref b_held, .ref b_holds, .ref b_found, .ref b_names, .ref b_bodies, .int 0, .ref b_parts, .ref b_noteParts, .ref b_over, .ref b_overs, .long 0, .long 0, .int 0, .int 0, .ref b_places, .ref b_torn])), (b_rows, .inl (dC 100, 4, .inl f_rows)), (b_columns, .inl (dC 100, 4, .inl f_columns)), (b_types, .inl (dC 100, 200, .inl f_types)), (b_numbers, .inl (dC 101, 200, .inr (.inl f_numbers))), (b_formulas, .inl (dC 100, 200, .inl f_formulas)), (b_held, .inl (dC 102, 200, .inl f_held)), (b_holds, .inl (dC 101, 200, .inr (.inl f_holds))), (b_found, .inl (dC 105, 885, .inr (.inr (.inr (.inr f_found))))), (b_names, .inl (dC 100, 6, .inl f_names)), (b_bodies, .inl (dC 100, 4, .inl f_bodies)), (b_parts, .inl (dC 100, 3, .inl f_parts)), (b_noteParts, .inl (dC 100, 72, .inl f_noteParts)), (b_over, .inl (dC 102, 600, .inl f_over)), (b_overs, .inl (dC 101, 600, .inr (.inl f_overs))), (b_places, .inl (dC 100, 750, .inl f_places)), (b_torn, .inl (dC 102, 150, .inl f_torn)), (kq, .inl (dC 104, 5, .inr (.inr (.inr (.inr fq))))), (k9, .inr (12, [.ref bk_rows, .ref bk_columns, .int 0, .ref bk_types, .ref bk_numbers, .ref bk_formulas, .ref bk_held, .ref bk_holds, .ref bk_found, .ref bk_names, .ref bk_bodies, .int 0, .ref bk_parts, .ref bk_noteParts, .ref bk_over, .ref bk_overs, .long 0, .long 0, .int 0, .int 0, .ref bk_places, .ref bk_torn])), (bk_rows, .inl (dC 100, 4, .inl fk_rows)), (bk_columns, .inl (dC 100, 4, .inl fk_columns)), (bk_types, .inl (dC 100, 200, .inl fk_types)), (bk_numbers, .inl (dC 101, 200, .inr (.inl fk_numbers))), (bk_formulas, .inl (dC 100, 200, .inl fk_formulas)), (bk_held, .inl (dC 102, 200, .inl fk_held)), (bk_holds, .inl (dC 101, 200, .inr (.inl fk_holds))), (bk_found, .inl (dC 105, 885, .inr (.inr (.inr (.inr fk_found))))), (bk_names, .inl (dC 100, 6, .inl fk_names)), (bk_bodies, .inl (dC 100, 4, .inl fk_bodies)), (bk_parts, .inl (dC 100, 3, .inl fk_parts)), (bk_noteParts, .inl (dC 100, 72, .inl fk_noteParts)), (bk_over, .inl (dC 102, 600, .inl fk_over)), (bk_overs, .inl (dC 101, 600, .inr (.inl fk_overs))), (bk_places, .inl (dC 100, 750, .inl fk_places)), (bk_torn, .inl (dC 102, 150, .inl fk_torn)), (en, .inr (11, [e0, e1, e2, e3, e4, .int cg, e6, e7, e8, e9, e10, e11, e12, e13, e14, e15, e16, e17, e18, e19, e20, e21, e22, e23, e24, e25, e26]))] H) (hD : va_D A [(h0, .inr (0, [.ref st, .ref no, .ref ch, .ref he, .ref de, .ref fi, v6, .ref kp, .int 0, .int 0, .int 0])), (st, .inr (8, [.int 0, .int 0, .int 0, .ref a_columns, .ref a_rows, .ref a_content, .ref a_held, .ref a_other, .ref a_named, .ref a_body, .ref a_parts, .ref a_partCount, .ref a_refRow, .ref a_refColumn, .ref a_refToRow, .ref a_torn, .ref a_record, .int 0, .int 0, .int 0])), (a_columns, .inl (dC 100, 4, .inl g_columns)), (a_rows, .inl (dC 100, 4, .inl g_rows)), (a_content, .inl (dC 101, 200, .inr (.inl g_content))), (a_held, .inl (dC 101, 200, .inr (.inl g_held))), (a_other, .inl (dC 101, 600, .inr (.inl g_other))), (a_named, .inl (dC 100, 6, .inl g_named)), (a_body, .inl (dC 100, 4, .inl g_body)), (a_parts, .inl (dC 100, 24, .inl g_parts)), (a_partCount, .inl (dC 100, 3, .inl g_partCount)), (a_refRow, .inl (dC 100, 150, .inl g_refRow)), (a_refColumn, .inl (dC 100, 150, .inl g_refColumn)), (a_refToRow, .inl (dC 100, 150, .inl g_refToRow)), (a_torn, .inl (dC 102, 150, .inl g_torn)), (a_record, .inl (dC 100, 885, .inl g_record)), (kp, .inl (dC 103, 5, .inr (.inr (.inr (.inr gk))))), (k0, .inr (8, [.int 0, .int 0, .int 0, .ref ak_columns, .ref ak_rows, .ref ak_content, .ref ak_held, .ref ak_other, .ref ak_named, .ref ak_body, .ref ak_parts, .ref ak_partCount, .ref ak_refRow, .ref ak_refColumn, .ref ak_refToRow, .ref ak_torn, .ref ak_record, .int 0, .int 0, .int 0])), (ak_columns, .inl (dC 100, 4, .inl gk_columns)), (ak_rows, .inl (dC 100, 4, .inl gk_rows)), (ak_content, .inl (dC 101, 200, .inr (.inl gk_content))), (ak_held, .inl (dC 101, 200, .inr (.inl gk_held))), (ak_other, .inl (dC 101, 600, .inr (.inl gk_other))), (ak_named, .inl (dC 100, 6, .inl gk_named)), (ak_body, .inl (dC 100, 4, .inl gk_body)), (ak_parts, .inl (dC 100, 24, .inl gk_parts)), (ak_partCount, .inl (dC 100, 3, .inl gk_partCount)), (ak_refRow, .inl (dC 100, 150, .inl gk_refRow)), (ak_refColumn, .inl (dC 100, 150, .inl gk_refColumn)), (ak_refToRow, .inl (dC 100, 150, .inl gk_refToRow)), (ak_torn, .inl (dC 102, 150, .inl gk_torn)), (ak_record, .inl (dC 100, 885, .inl gk_record)), (de, .inr (2, [.ref st, .ref he, x2, .int 1, x4, .int 0, x6, x7, x8, x9, x10, x11, x12, x13, x14, x15, x16, x17, x18])), (ou, .inl (dC 101, 1, .inr (.inl f0))), (m0, .inr (10, [.ref nw, .ref kq, .int 0, .int 0, z4, z5, z6, z7, z8, z9, z10, z11, z12, .ref en, z14, z15, z16])), (nw, .inr (12, [.ref b_rows, .ref b_columns, .int 0, .ref b_types, .ref b_numbers, .ref b_formulas, .ref b_held, .ref b_holds, .ref b_found, .ref b_names, .ref b_bodies, .int 0, .ref b_parts, .ref b_noteParts, .ref b_over, .ref b_overs, .long 0, .long 0, .int 0, .int 0, .ref b_places, .ref b_torn])), (b_rows, .inl (dC 100, 4, .inl f_rows)), (b_columns, .inl (dC 100, 4, .inl f_columns)), (b_types, .inl (dC 100, 200, .inl f_types)), (b_numbers, .inl (dC 101, 200, .inr (.inl f_numbers))), (b_formulas, .inl (dC 100, 200, .inl f_formulas)), (b_held, .inl (dC 102, 200, .inl f_held)), (b_holds, .inl (dC 101, 200, .inr (.inl f_holds))), (b_found, .inl (dC 105, 885, .inr (.inr (.inr (.inr f_found))))), (b_names, .inl (dC 100, 6, .inl f_names)), (b_bodies, .inl (dC 100, 4, .inl f_bodies)), (b_parts, .inl (dC 100, 3, .inl f_parts)), (b_noteParts, .inl (dC 100, 72, .inl f_noteParts)), (b_over, .inl (dC 102, 600, .inl f_over)), (b_overs, .inl (dC 101, 600, .inr (.inl f_overs))), (b_places, .inl (dC 100, 750, .inl f_places)), (b_torn, .inl (dC 102, 150, .inl f_torn)), (kq, .inl (dC 104, 5, .inr (.inr (.inr (.inr fq))))), (k9, .inr (12, [.ref bk_rows, .ref bk_columns, .int 0, .ref bk_types, .ref bk_numbers, .ref bk_formulas, .ref bk_held, .ref bk_holds, .ref bk_found, .ref bk_names, .ref bk_bodies, .int 0, .ref bk_parts, .ref bk_noteParts, .ref bk_over, .ref bk_overs, .long 0, .long 0, .int 0, .int 0, .ref bk_places, .ref bk_torn])), (bk_rows, .inl (dC 100, 4, .inl fk_rows)), (bk_columns, .inl (dC 100, 4, .inl fk_columns)), (bk_types, .inl (dC 100, 200, .inl fk_types)), (bk_numbers, .inl (dC 101, 200, .inr (.inl fk_numbers))), (bk_formulas, .inl (dC 100, 200, .inl fk_formulas)), (bk_held, .inl (dC 102, 200, .inl fk_held)), (bk_holds, .inl (dC 101, 200, .inr (.inl fk_holds))), (bk_found, .inl (dC 105, 885, .inr (.inr (.inr (.inr fk_found))))), (bk_names, .inl (dC 100, 6, .inl fk_names)), (bk_bodies, .inl (dC 100, 4, .inl fk_bodies)), (bk_parts, .inl (dC 100, 3, .inl fk_parts)), (bk_noteParts, .inl (dC 100, 72, .inl fk_noteParts)), (bk_over, .inl (dC 102, 600, .inl fk_over)), (bk_overs, .inl (dC 101, 600, .inr (.inl fk_overs))), (bk_places, .inl (dC 100, 750, .inl fk_places)), (bk_torn, .inl (dC 102, 150, .inl fk_torn)), (en, .inr (11, [e0, e1, e2, e3, e4, .int cg, e6, e7, e8, e9, e10, e11, e12, e13, e14, e15, e16, e17, e18, e19, e20, e21, e22, e23, e24, e25, e26]))]) (hS : va_S A s.heap H locs) (hl : lv_has ls 8 [(0, .ref b), (1, .ref h0), (2, .ref m0), (3, .ref ou), (4, .int 0)]) (hk0 : gk (0 : Int32).toNatClampNeg = some k0) (hfd : ∀ j, j < 885 → f_found j = none) (hk9 : fq (0 : Int32).toNatClampNeg = some k9) (hend : ∀ (H : Heap) (locs : List Loc) (ls : Array Slot), va_S A s.heap H locs → lv_has ls 8 [(4, .int 0), (0, .ref b)] → W p l e room_1 s m #[Value.ref b] below meth c H locs 600002 7302232 Z (F0 m 3410 ls [])) : W p l e room_1 s m #[Value.ref b] below meth c H locs 403 120029 Z (F0 m 1660 ls []) := by
  subst hL
  refine lv_aload_n hx hb dM_L_law_1660 rfl (lv_at hl 1 rfl) ?_
  refine lv_aload_n hx hb dM_L_law_1661 rfl (lv_at hl 0 rfl) ?_
  refine lv_iload hx hb dM_L_law_1662 (lv_at hl 4 rfl) ?_
  refine lv_iconst (v := 1) hx hb dM_L_law_1664 (by decide) ?_
  refine lv_iadd hx hb dM_L_law_1665 ?_
  refine lv_topi (fun y_1 ey_1 => ?_)
  obtain rfl : y_1 = 1 := ey_1.trans (by decide)
  refine va_sld hx hb hX hbl hbA hS (by unfold vp_in; decide) dM_L_law_1666 ?_
  refine lv_topi (fun y_2 ey_2 => ?_)
  refine lv_aload_n hx hb dM_L_law_1667 rfl (lv_at hl 0 rfl) ?_
  refine lv_iload hx hb dM_L_law_1668 (lv_at hl 4 rfl) ?_
  refine lv_iconst (v := 2) hx hb dM_L_law_1670 (by decide) ?_
  refine lv_iadd hx hb dM_L_law_1671 ?_
  refine lv_topi (fun y_3 ey_3 => ?_)
  obtain rfl : y_3 = 2 := ey_3.trans (by decide)
  refine va_sld hx hb hX hbl hbA hS (by unfold vp_in; decide) dM_L_law_1672 ?_
  refine lv_topi (fun y_4 ey_4 => ?_)
  refine lv_aload_n hx hb dM_L_law_1673 rfl (lv_at hl 3 rfl) ?_
  have hFc := va_free (wc := [(h0, .inr (0, [.ref st, .ref no, .ref ch, .ref he, .ref de, .ref fi, v6, .ref kp, .int 0, .int 0, .int 0])), (st, .inr (8, [.int 0, .int 0, .int 0, .ref a_columns, .ref a_rows, .ref a_content, .ref a_held, .ref a_other, .ref a_named, .ref a_body, .ref a_parts, .ref a_partCount, .ref a_refRow, .ref a_refColumn, .ref a_refToRow, .ref a_torn, .ref a_record, .int 0, .int 0, .int 0])), (a_columns, .inl (dC 100, 4, .inl g_columns)), (a_rows, .inl (dC 100, 4, .inl g_rows)), (a_content, .inl (dC 101, 200, .inr (.inl g_content))), (a_held, .inl (dC 101, 200, .inr (.inl g_held))), (a_other, .inl (dC 101, 600, .inr (.inl g_other))), (a_named, .inl (dC 100, 6, .inl g_named)), (a_body, .inl (dC 100, 4, .inl g_body)), (a_parts, .inl (dC 100, 24, .inl g_parts)), (a_partCount, .inl (dC 100, 3, .inl g_partCount)), (a_refRow, .inl (dC 100, 150, .inl g_refRow)), (a_refColumn, .inl (dC 100, 150, .inl g_refColumn)), (a_refToRow, .inl (dC 100, 150, .inl g_refToRow)), (a_torn, .inl (dC 102, 150, .inl g_torn)), (a_record, .inl (dC 100, 885, .inl g_record)), (kp, .inl (dC 103, 5, .inr (.inr (.inr (.inr gk))))), (k0, .inr (8, [.int 0, .int 0, .int 0, .ref ak_columns, .ref ak_rows, .ref ak_content, .ref ak_held, .ref ak_other, .ref ak_named, .ref ak_body, .ref ak_parts, .ref ak_partCount, .ref ak_refRow, .ref ak_refColumn, .ref ak_refToRow, .ref ak_torn, .ref ak_record, .int 0, .int 0, .int 0])), (ak_columns, .inl (dC 100, 4, .inl gk_columns)), (ak_rows, .inl (dC 100, 4, .inl gk_rows)), (ak_content, .inl (dC 101, 200, .inr (.inl gk_content))), (ak_held, .inl (dC 101, 200, .inr (.inl gk_held))), (ak_other, .inl (dC 101, 600, .inr (.inl gk_other))), (ak_named, .inl (dC 100, 6, .inl gk_named)), (ak_body, .inl (dC 100, 4, .inl gk_body)), (ak_parts, .inl (dC 100, 24, .inl gk_parts)), (ak_partCount, .inl (dC 100, 3, .inl gk_partCount)), (ak_refRow, .inl (dC 100, 150, .inl gk_refRow)), (ak_refColumn, .inl (dC 100, 150, .inl gk_refColumn)), (ak_refToRow, .inl (dC 100, 150, .inl gk_refToRow)), (ak_torn, .inl (dC 102, 150, .inl gk_torn)), (ak_record, .inl (dC 100, 885, .inl gk_record)), (de, .inr (2, [.ref st, .ref he, x2, .int 1, x4, .int 0, x6, x7, x8, x9, x10, x11, x12, x13, x14, x15, x16, x17, x18])), (ou, .inl (dC 101, 1, .inr (.inl f0)))]) hD hS hA [0, 1, 2, 3, 4, 5, 6, 7, 8, 9, 10, 11, 12, 13, 14, 15, 16, 17, 18, 19, 20, 21, 22, 23, 24, 25, 26, 27, 28, 29, 30, 31, 32, 33] rfl
  refine va_calli (vx_runSW (As := [.ref h0, .int y_2, .int y_4, .ref ou]) (rest := []) ⟨hx, hb, hml, hown, hbg⟩ (c_L_tick l hl9 dC dI h0 y_2 y_4 ou st no ch he de fi v6 kp a_columns a_rows a_content a_held a_other a_named a_body a_parts a_partCount a_refRow a_refColumn a_refToRow a_torn a_record g_columns g_rows g_content g_held g_other g_named g_body g_parts g_partCount g_refRow g_refColumn g_refToRow g_torn g_record gk k0 ak_columns ak_rows ak_content ak_held ak_other ak_named ak_body ak_parts ak_partCount ak_refRow ak_refColumn ak_refToRow ak_torn ak_record gk_columns gk_rows gk_content gk_held gk_other gk_named gk_body gk_parts gk_partCount gk_refRow gk_refColumn gk_refToRow gk_torn gk_record x2 x4 x6 x7 x8 x9 x10 x11 x12 x13 x14 x15 x16 x17 x18 f0 _ (hk0)) (vx_cwSW 4 hbg (gd_S (fun _ h => h) wd_1357 wd_1358 wd_0 (gd_wmW (fun _ h => h) wd_1359)) rfl rfl rfl (by decide +kernel) ⟨Nat.le_of_ble_eq_true rfl, Nat.le_of_ble_eq_true rfl⟩) (nPreS [0, 1, 2, 3, 4, 5, 6, 7, 8, 9, 10, 11, 12, 13, 14, 15, 16, 17, 18, 19, 20, 21, 22, 23, 24, 25, 26, 27, 28, 29, 30, 31, 32, 33] hP hD hK hN hS hA (by decide) rfl) rfl rfl hl.1 rfl (lv_room (Nat.le_of_ble_eq_true rfl)) dM_L_law_1674 ⟨Nat.le_of_ble_eq_true rfl, Nat.le_of_ble_eq_true rfl⟩) hS (fun q _ h => hFc q h) hFc (fun r_5 u t H1 locs ht hvm hw hB hz1 hk1 hS => ?_)
  rcases hw with ⟨c_6, rfl, rfl⟩ | ⟨c_7, rfl, hu_8⟩
  · --
    obtain ⟨hP1, hD1⟩ := hB
    rw [ht] at hP1
    obtain ⟨hP, hD⟩ := va_join (wr := [(m0, .inr (10, [.ref nw, .ref kq, .int 0, .int 0, z4, z5, z6, z7, z8, z9, z10, z11, z12, .ref en, z14, z15, z16])), (nw, .inr (12, [.ref b_rows, .ref b_columns, .int 0, .ref b_types, .ref b_numbers, .ref b_formulas, .ref b_held, .ref b_holds, .ref b_found, .ref b_names, .ref b_bodies, .int 0, .ref b_parts, .ref b_noteParts, .ref b_over, .ref b_overs, .long 0, .long 0, .int 0, .int 0, .ref b_places, .ref b_torn])), (b_rows, .inl (dC 100, 4, .inl f_rows)), (b_columns, .inl (dC 100, 4, .inl f_columns)), (b_types, .inl (dC 100, 200, .inl f_types)), (b_numbers, .inl (dC 101, 200, .inr (.inl f_numbers))), (b_formulas, .inl (dC 100, 200, .inl f_formulas)), (b_held, .inl (dC 102, 200, .inl f_held)), (b_holds, .inl (dC 101, 200, .inr (.inl f_holds))), (b_found, .inl (dC 105, 885, .inr (.inr (.inr (.inr f_found))))), (b_names, .inl (dC 100, 6, .inl f_names)), (b_bodies, .inl (dC 100, 4, .inl f_bodies)), (b_parts, .inl (dC 100, 3, .inl f_parts)), (b_noteParts, .inl (dC 100, 72, .inl f_noteParts)), (b_over, .inl (dC 102, 600, .inl f_over)), (b_overs, .inl (dC 101, 600, .inr (.inl f_overs))), (b_places, .inl (dC 100, 750, .inl f_places)), (b_torn, .inl (dC 102, 150, .inl f_torn)), (kq, .inl (dC 104, 5, .inr (.inr (.inr (.inr fq))))), (k9, .inr (12, [.ref bk_rows, .ref bk_columns, .int 0, .ref bk_types, .ref bk_numbers, .ref bk_formulas, .ref bk_held, .ref bk_holds, .ref bk_found, .ref bk_names, .ref bk_bodies, .int 0, .ref bk_parts, .ref bk_noteParts, .ref bk_over, .ref bk_overs, .long 0, .long 0, .int 0, .int 0, .ref bk_places, .ref bk_torn])), (bk_rows, .inl (dC 100, 4, .inl fk_rows)), (bk_columns, .inl (dC 100, 4, .inl fk_columns)), (bk_types, .inl (dC 100, 200, .inl fk_types)), (bk_numbers, .inl (dC 101, 200, .inr (.inl fk_numbers))), (bk_formulas, .inl (dC 100, 200, .inl fk_formulas)), (bk_held, .inl (dC 102, 200, .inl fk_held)), (bk_holds, .inl (dC 101, 200, .inr (.inl fk_holds))), (bk_found, .inl (dC 105, 885, .inr (.inr (.inr (.inr fk_found))))), (bk_names, .inl (dC 100, 6, .inl fk_names)), (bk_bodies, .inl (dC 100, 4, .inl fk_bodies)), (bk_parts, .inl (dC 100, 3, .inl fk_parts)), (bk_noteParts, .inl (dC 100, 72, .inl fk_noteParts)), (bk_over, .inl (dC 102, 600, .inl fk_over)), (bk_overs, .inl (dC 101, 600, .inr (.inl fk_overs))), (bk_places, .inl (dC 100, 750, .inl fk_places)), (bk_torn, .inl (dC 102, 150, .inl fk_torn)), (en, .inr (11, [e0, e1, e2, e3, e4, .int cg, e6, e7, e8, e9, e10, e11, e12, e13, e14, e15, e16, e17, e18, e19, e20, e21, e22, e23, e24, e25, e26]))]) (w1 := [(ou, .inl (dC 101, 1, .inr (.inl (vp_updL f0 (0 : Int32).toNatClampNeg 1))))]) hP hD [0, 1, 2, 3, 4, 5, 6, 7, 8, 9, 10, 11, 12, 13, 14, 15, 16, 17, 18, 19, 20, 21, 22, 23, 24, 25, 26, 27, 28, 29, 30, 31, 32, 33] [34, 35, 36, 37, 38, 39, 40, 41, 42, 43, 44, 45, 46, 47, 48, 49, 50, 51, 52, 53, 54, 55, 56, 57, 58, 59, 60, 61, 62, 63, 64, 65, 66, 67, 68, 69, 70] rfl rfl (by decide) (by decide) hk1 hFc hP1 hD1
    generalize H1 = H at hP hS ⊢
    have hP : va_P (dC, dI) classes [(m0, .inr (10, [.ref nw, .ref kq, .int 0, .int 0, z4, z5, z6, z7, z8, z9, z10, z11, z12, .ref en, z14, z15, z16])), (nw, .inr (12, [.ref b_rows, .ref b_columns, .int 0, .ref b_types, .ref b_numbers, .ref b_formulas, .ref b_held, .ref b_holds, .ref b_found, .ref b_names, .ref b_bodies, .int 0, .ref b_parts, .ref b_noteParts, .ref b_over, .ref b_overs, .long 0, .long 0, .int 0, .int 0, .ref b_places, .ref b_torn])), (b_rows, .inl (dC 100, 4, .inl f_rows)), (b_columns, .inl (dC 100, 4, .inl f_columns)), (b_types, .inl (dC 100, 200, .inl f_types)), (b_numbers, .inl (dC 101, 200, .inr (.inl f_numbers))), (b_formulas, .inl (dC 100, 200, .inl f_formulas)), (b_held, .inl (dC 102, 200, .inl f_held)), (b_holds, .inl (dC 101, 200, .inr (.inl f_holds))), (b_found, .inl (dC 105, 885, .inr (.inr (.inr (.inr f_found))))), (b_names, .inl (dC 100, 6, .inl f_names)), (b_bodies, .inl (dC 100, 4, .inl f_bodies)), (b_parts, .inl (dC 100, 3, .inl f_parts)), (b_noteParts, .inl (dC 100, 72, .inl f_noteParts)), (b_over, .inl (dC 102, 600, .inl f_over)), (b_overs, .inl (dC 101, 600, .inr (.inl f_overs))), (b_places, .inl (dC 100, 750, .inl f_places)), (b_torn, .inl (dC 102, 150, .inl f_torn)), (kq, .inl (dC 104, 5, .inr (.inr (.inr (.inr fq))))), (k9, .inr (12, [.ref bk_rows, .ref bk_columns, .int 0, .ref bk_types, .ref bk_numbers, .ref bk_formulas, .ref bk_held, .ref bk_holds, .ref bk_found, .ref bk_names, .ref bk_bodies, .int 0, .ref bk_parts, .ref bk_noteParts, .ref bk_over, .ref bk_overs, .long 0, .long 0, .int 0, .int 0, .ref bk_places, .ref bk_torn])), (bk_rows, .inl (dC 100, 4, .inl fk_rows)), (bk_columns, .inl (dC 100, 4, .inl fk_columns)), (bk_types, .inl (dC 100, 200, .inl fk_types)), (bk_numbers, .inl (dC 101, 200, .inr (.inl fk_numbers))), (bk_formulas, .inl (dC 100, 200, .inl fk_formulas)), (bk_held, .inl (dC 102, 200, .inl fk_held)), (bk_holds, .inl (dC 101, 200, .inr (.inl fk_holds))), (bk_found, .inl (dC 105, 885, .inr (.inr (.inr (.inr fk_found))))), (bk_names, .inl (dC 100, 6, .inl fk_names)), (bk_bodies, .inl (dC 100, 4, .inl fk_bodies)), (bk_parts, .inl (dC 100, 3, .inl fk_parts)), (bk_noteParts, .inl (dC 100, 72, .inl fk_noteParts)), (bk_over, .inl (dC 102, 600, .inl fk_over)), (bk_overs, .inl (dC 101, 600, .inr (.inl fk_overs))), (bk_places, .inl (dC 100, 750, .inl fk_places)), (bk_torn, .inl (dC 102, 150, .inl fk_torn)), (en, .inr (11, [e0, e1, e2, e3, e4, .int cg, e6, e7, e8, e9, e10, e11, e12, e13, e14, e15, e16, e17, e18, e19, e20, e21, e22, e23, e24, e25, e26])), (ou, .inl (dC 101, 1, .inr (.inl (vp_updL f0 (0 : Int32).toNatClampNeg 1))))] H := hP
    have hD : va_D A [(m0, .inr (10, [.ref nw, .ref kq, .int 0, .int 0, z4, z5, z6, z7, z8, z9, z10, z11, z12, .ref en, z14, z15, z16])), (nw, .inr (12, [.ref b_rows, .ref b_columns, .int 0, .ref b_types, .ref b_numbers, .ref b_formulas, .ref b_held, .ref b_holds, .ref b_found, .ref b_names, .ref b_bodies, .int 0, .ref b_parts, .ref b_noteParts, .ref b_over, .ref b_overs, .long 0, .long 0, .int 0, .int 0, .ref b_places, .ref b_torn])), (b_rows, .inl (dC 100, 4, .inl f_rows)), (b_columns, .inl (dC 100, 4, .inl f_columns)), (b_types, .inl (dC 100, 200, .inl f_types)), (b_numbers, .inl (dC 101, 200, .inr (.inl f_numbers))), (b_formulas, .inl (dC 100, 200, .inl f_formulas)), (b_held, .inl (dC 102, 200, .inl f_held)), (b_holds, .inl (dC 101, 200, .inr (.inl f_holds))), (b_found, .inl (dC 105, 885, .inr (.inr (.inr (.inr f_found))))), (b_names, .inl (dC 100, 6, .inl f_names)), (b_bodies, .inl (dC 100, 4, .inl f_bodies)), (b_parts, .inl (dC 100, 3, .inl f_parts)), (b_noteParts, .inl (dC 100, 72, .inl f_noteParts)), (b_over, .inl (dC 102, 600, .inl f_over)), (b_overs, .inl (dC 101, 600, .inr (.inl f_overs))), (b_places, .inl (dC 100, 750, .inl f_places)), (b_torn, .inl (dC 102, 150, .inl f_torn)), (kq, .inl (dC 104, 5, .inr (.inr (.inr (.inr fq))))), (k9, .inr (12, [.ref bk_rows, .ref bk_columns, .int 0, .ref bk_types, .ref bk_numbers, .ref bk_formulas, .ref bk_held, .ref bk_holds, .ref bk_found, .ref bk_names, .ref bk_bodies, .int 0, .ref bk_parts, .ref bk_noteParts, .ref bk_over, .ref bk_overs, .long 0, .long 0, .int 0, .int 0, .ref bk_places, .ref bk_torn])), (bk_rows, .inl (dC 100, 4, .inl fk_rows)), (bk_columns, .inl (dC 100, 4, .inl fk_columns)), (bk_types, .inl (dC 100, 200, .inl fk_types)), (bk_numbers, .inl (dC 101, 200, .inr (.inl fk_numbers))), (bk_formulas, .inl (dC 100, 200, .inl fk_formulas)), (bk_held, .inl (dC 102, 200, .inl fk_held)), (bk_holds, .inl (dC 101, 200, .inr (.inl fk_holds))), (bk_found, .inl (dC 105, 885, .inr (.inr (.inr (.inr fk_found))))), (bk_names, .inl (dC 100, 6, .inl fk_names)), (bk_bodies, .inl (dC 100, 4, .inl fk_bodies)), (bk_parts, .inl (dC 100, 3, .inl fk_parts)), (bk_noteParts, .inl (dC 100, 72, .inl fk_noteParts)), (bk_over, .inl (dC 102, 600, .inl fk_over)), (bk_overs, .inl (dC 101, 600, .inr (.inl fk_overs))), (bk_places, .inl (dC 100, 750, .inl fk_places)), (bk_torn, .inl (dC 102, 150, .inl fk_torn)), (en, .inr (11, [e0, e1, e2, e3, e4, .int cg, e6, e7, e8, e9, e10, e11, e12, e13, e14, e15, e16, e17, e18, e19, e20, e21, e22, e23, e24, e25, e26])), (ou, .inl (dC 101, 1, .inr (.inl (vp_updL f0 (0 : Int32).toNatClampNeg 1))))] := hD
    refine W.widen (k := 404) (n := 120035) (Nat.le_of_ble_eq_true rfl) (Nat.le_of_ble_eq_true rfl) ?_
    refine lv_istore (lv' := [(5, .int 0), (0, .ref b), (1, .ref h0), (2, .ref m0), (3, .ref ou), (4, .int 0)]) hx hb dM_L_law_1677 hl (by decide) rfl (fun ls hl => ?_)
    refine lv_aload_n hx hb dM_L_law_1679 rfl (lv_at hl 3 rfl) ?_
    refine lv_aload_n hx hb dM_L_law_1680 rfl (lv_at hl 1 rfl) ?_
    refine lv_iload hx hb dM_L_law_1681 (lv_at hl 5 rfl) ?_
    refine lv_iconst (v := 1) hx hb dM_L_law_1683 (by decide) ?_
    refine lv_iadd hx hb dM_L_law_1684 ?_
    refine lv_topi (fun y_9 ey_9 => ?_)
    obtain rfl : y_9 = 1 := ey_9.trans (by decide)
    refine va_sld hx hb hX hbl hbA hS (by unfold vp_in; decide) dM_L_law_1685 ?_
    refine lv_topi (fun y_10 ey_10 => ?_)
    obtain rfl : y_2 = y_10 := ey_2.trans ey_10.symm
    refine lv_aload_n hx hb dM_L_law_1686 rfl (lv_at hl 1 rfl) ?_
    refine lv_iload hx hb dM_L_law_1687 (lv_at hl 5 rfl) ?_
    refine lv_iconst (v := 2) hx hb dM_L_law_1689 (by decide) ?_
    refine lv_iadd hx hb dM_L_law_1690 ?_
    refine lv_topi (fun y_11 ey_11 => ?_)
    obtain rfl : y_11 = 2 := ey_11.trans (by decide)
    refine va_sld hx hb hX hbl hbA hS (by unfold vp_in; decide) dM_L_law_1691 ?_
    refine lv_topi (fun y_12 ey_12 => ?_)
    obtain rfl : y_4 = y_12 := ey_4.trans ey_12.symm
    have hFc := va_free (wc := [(m0, .inr (10, [.ref nw, .ref kq, .int 0, .int 0, z4, z5, z6, z7, z8, z9, z10, z11, z12, .ref en, z14, z15, z16])), (nw, .inr (12, [.ref b_rows, .ref b_columns, .int 0, .ref b_types, .ref b_numbers, .ref b_formulas, .ref b_held, .ref b_holds, .ref b_found, .ref b_names, .ref b_bodies, .int 0, .ref b_parts, .ref b_noteParts, .ref b_over, .ref b_overs, .long 0, .long 0, .int 0, .int 0, .ref b_places, .ref b_torn])), (b_rows, .inl (dC 100, 4, .inl f_rows)), (b_columns, .inl (dC 100, 4, .inl f_columns)), (b_types, .inl (dC 100, 200, .inl f_types)), (b_numbers, .inl (dC 101, 200, .inr (.inl f_numbers))), (b_formulas, .inl (dC 100, 200, .inl f_formulas)), (b_held, .inl (dC 102, 200, .inl f_held)), (b_holds, .inl (dC 101, 200, .inr (.inl f_holds))), (b_found, .inl (dC 105, 885, .inr (.inr (.inr (.inr f_found))))), (b_names, .inl (dC 100, 6, .inl f_names)), (b_bodies, .inl (dC 100, 4, .inl f_bodies)), (b_parts, .inl (dC 100, 3, .inl f_parts)), (b_noteParts, .inl (dC 100, 72, .inl f_noteParts)), (b_over, .inl (dC 102, 600, .inl f_over)), (b_overs, .inl (dC 101, 600, .inr (.inl f_overs))), (b_places, .inl (dC 100, 750, .inl f_places)), (b_torn, .inl (dC 102, 150, .inl f_torn)), (kq, .inl (dC 104, 5, .inr (.inr (.inr (.inr fq))))), (k9, .inr (12, [.ref bk_rows, .ref bk_columns, .int 0, .ref bk_types, .ref bk_numbers, .ref bk_formulas, .ref bk_held, .ref bk_holds, .ref bk_found, .ref bk_names, .ref bk_bodies, .int 0, .ref bk_parts, .ref bk_noteParts, .ref bk_over, .ref bk_overs, .long 0, .long 0, .int 0, .int 0, .ref bk_places, .ref bk_torn])), (bk_rows, .inl (dC 100, 4, .inl fk_rows)), (bk_columns, .inl (dC 100, 4, .inl fk_columns)), (bk_types, .inl (dC 100, 200, .inl fk_types)), (bk_numbers, .inl (dC 101, 200, .inr (.inl fk_numbers))), (bk_formulas, .inl (dC 100, 200, .inl fk_formulas)), (bk_held, .inl (dC 102, 200, .inl fk_held)), (bk_holds, .inl (dC 101, 200, .inr (.inl fk_holds))), (bk_found, .inl (dC 105, 885, .inr (.inr (.inr (.inr fk_found))))), (bk_names, .inl (dC 100, 6, .inl fk_names)), (bk_bodies, .inl (dC 100, 4, .inl fk_bodies)), (bk_parts, .inl (dC 100, 3, .inl fk_parts)), (bk_noteParts, .inl (dC 100, 72, .inl fk_noteParts)), (bk_over, .inl (dC 102, 600, .inl fk_over)), (bk_overs, .inl (dC 101, 600, .inr (.inl fk_overs))), (bk_places, .inl (dC 100, 750, .inl fk_places)), (bk_torn, .inl (dC 102, 150, .inl fk_torn)), (en, .inr (11, [e0, e1, e2, e3, e4, .int cg, e6, e7, e8, e9, e10, e11, e12, e13, e14, e15, e16, e17, e18, e19, e20, e21, e22, e23, e24, e25, e26]))]) hD hS hA [0, 1, 2, 3, 4, 5, 6, 7, 8, 9, 10, 11, 12, 13, 14, 15, 16, 17, 18, 19, 20, 21, 22, 23, 24, 25, 26, 27, 28, 29, 30, 31, 32, 33, 34, 35, 36] rfl
    refine va_calli (va_runV (As := [.int y_2, .int y_4]) (rest := []) ⟨hx, hb, hml, hown, hbg⟩ (c_M_tick l dC dI m0 y_2 y_4 nw kq z4 z5 z6 z7 z8 z9 z10 z11 z12 en z14 z15 z16 b_rows b_columns b_types b_numbers b_formulas b_held b_holds b_found b_names b_bodies b_parts b_noteParts b_over b_overs b_places b_torn f_rows f_columns f_types f_numbers f_formulas f_held f_holds f_found f_names f_bodies f_parts f_noteParts f_over f_overs f_places f_torn fq k9 bk_rows bk_columns bk_types bk_numbers bk_formulas bk_held bk_holds bk_found bk_names bk_bodies bk_parts bk_noteParts bk_over bk_overs bk_places bk_torn fk_rows fk_columns fk_types fk_numbers fk_formulas fk_held fk_holds fk_found fk_names fk_bodies fk_parts fk_noteParts fk_over fk_overs fk_places fk_torn e0 e1 e2 e3 e4 cg e6 e7 e8 e9 e10 e11 e12 e13 e14 e15 e16 e17 e18 e19 e20 e21 e22 e23 e24 e25 e26 _ (hfd) (hk9)) (cwV 2 hbg (gd_V (fun _ h => h) wd_2674 wd_2675 wd_2676 wd_12 (gd_wm (fun _ h => h) wd_2677)) rfl rfl rfl (by decide +kernel) ⟨Nat.le_of_ble_eq_true rfl, Nat.le_of_ble_eq_true rfl⟩) (nPreV [0, 1, 2, 3, 4, 5, 6, 7, 8, 9, 10, 11, 12, 13, 14, 15, 16, 17, 18, 19, 20, 21, 22, 23, 24, 25, 26, 27, 28, 29, 30, 31, 32, 33, 34, 35, 36] hP hD hK hN hS hA (by decide) rfl 0 rfl rfl) rfl rfl hl.1 rfl (lv_room (Nat.le_of_ble_eq_true rfl)) dM_L_law_1692 ⟨Nat.le_of_ble_eq_true rfl, Nat.le_of_ble_eq_true rfl⟩) hS (fun q _ h => hFc q h) hFc (fun r_13 u t H1 locs ht hvm hw hB hz1 hk1 hS => ?_)
    rcases hw with ⟨c_14, rfl, rfl⟩ | ⟨c_15, rfl, rfl⟩
    · --
      obtain ⟨r0_16, r1_17, r2_18, r3_19, r4_20, r5_21, r6_22, r7_23, r8_24, r9_25, r10_26, r11_27, r12_28, r13_29, r14_30, r15_31, hP1, hD1⟩ := hB
      rw [ht] at hP1
      obtain ⟨hP, hD⟩ := va_join (wr := [(ou, .inl (dC 101, 1, .inr (.inl (vp_updL f0 (0 : Int32).toNatClampNeg 1))))]) (w1 := [(m0, .inr (10, [r0_16, r1_17, r2_18, r3_19, r4_20, r5_21, r6_22, r7_23, r8_24, r9_25, r10_26, r11_27, r12_28, r13_29, r14_30, r15_31, .int 0]))]) hP hD [0, 1, 2, 3, 4, 5, 6, 7, 8, 9, 10, 11, 12, 13, 14, 15, 16, 17, 18, 19, 20, 21, 22, 23, 24, 25, 26, 27, 28, 29, 30, 31, 32, 33, 34, 35, 36] [37] rfl rfl (by decide) (by decide) hk1 hFc hP1 hD1
      generalize H1 = H at hP hS ⊢
      have hP : va_P (dC, dI) classes [(ou, .inl (dC 101, 1, .inr (.inl (vp_updL f0 (0 : Int32).toNatClampNeg 1)))), (m0, .inr (10, [r0_16, r1_17, r2_18, r3_19, r4_20, r5_21, r6_22, r7_23, r8_24, r9_25, r10_26, r11_27, r12_28, r13_29, r14_30, r15_31, .int 0]))] H := hP
      have hD : va_D A [(ou, .inl (dC 101, 1, .inr (.inl (vp_updL f0 (0 : Int32).toNatClampNeg 1)))), (m0, .inr (10, [r0_16, r1_17, r2_18, r3_19, r4_20, r5_21, r6_22, r7_23, r8_24, r9_25, r10_26, r11_27, r12_28, r13_29, r14_30, r15_31, .int 0]))] := hD
      refine W.widen (k := 404) (n := 120035) (Nat.le_of_ble_eq_true rfl) (Nat.le_of_ble_eq_true rfl) ?_
      refine lv_istore (lv' := [(6, .int 1), (5, .int 0), (0, .ref b), (1, .ref h0), (2, .ref m0), (3, .ref ou), (4, .int 0)]) hx hb dM_L_law_1695 hl (by decide) rfl (fun ls hl => ?_)
      refine lv_aload_n hx hb dM_L_law_1697 rfl (lv_at hl 4 rfl) ?_
      have hFc := va_free (wc := [(m0, .inr (10, [r0_16, r1_17, r2_18, r3_19, r4_20, r5_21, r6_22, r7_23, r8_24, r9_25, r10_26, r11_27, r12_28, r13_29, r14_30, r15_31, .int 0]))]) hD hS hA [1] rfl
      refine va_calli (va_runV (As := []) (rest := []) ⟨hx, hb, hml, hown, hbg⟩ (c_M_thrown l dC dI m0 r0_16 r1_17 r2_18 r3_19 r4_20 r5_21 r6_22 r7_23 r8_24 r9_25 r10_26 r11_27 r12_28 r13_29 r14_30 r15_31 0 _ ) (cwV 0 hbg (gd_V (fun _ h => h) wd_2190 wd_2191 wd_2192 wd_12 (gd_wm (fun _ h => h) wd_2193)) rfl rfl rfl (by decide +kernel) ⟨Nat.le_of_ble_eq_true rfl, Nat.le_of_ble_eq_true rfl⟩) (nPreV [1] hP hD hK hN hS hA (by decide) rfl 1 rfl rfl) rfl rfl hl.1 rfl (lv_room (Nat.le_of_ble_eq_true rfl)) dM_L_law_1698 ⟨Nat.le_of_ble_eq_true rfl, Nat.le_of_ble_eq_true rfl⟩) hS (fun q _ h => hFc q h) hFc (fun r_32 u t H1 locs ht hvm hw hB hz1 hk1 hS => ?_)
      obtain ⟨rfl, rfl⟩ := hw
      obtain ⟨r0_34, r1_35, r2_36, r3_37, r4_38, r5_39, r6_40, r7_41, r8_42, r9_43, r10_44, r11_45, r12_46, r13_47, r14_48, r15_49, hP1, hD1⟩ := hB
      rw [ht] at hP1
      obtain ⟨hP, hD⟩ := va_join (wr := [(ou, .inl (dC 101, 1, .inr (.inl (vp_updL f0 (0 : Int32).toNatClampNeg 1))))]) (w1 := [(m0, .inr (10, [r0_34, r1_35, r2_36, r3_37, r4_38, r5_39, r6_40, r7_41, r8_42, r9_43, r10_44, r11_45, r12_46, r13_47, r14_48, r15_49, .int 0]))]) hP hD [1] [0] rfl rfl (by decide) (by decide) hk1 hFc hP1 hD1
      generalize H1 = H at hP hS ⊢
      have hP : va_P (dC, dI) classes [(ou, .inl (dC 101, 1, .inr (.inl (vp_updL f0 (0 : Int32).toNatClampNeg 1)))), (m0, .inr (10, [r0_34, r1_35, r2_36, r3_37, r4_38, r5_39, r6_40, r7_41, r8_42, r9_43, r10_44, r11_45, r12_46, r13_47, r14_48, r15_49, .int 0]))] H := hP
      have hD : va_D A [(ou, .inl (dC 101, 1, .inr (.inl (vp_updL f0 (0 : Int32).toNatClampNeg 1)))), (m0, .inr (10, [r0_34, r1_35, r2_36, r3_37, r4_38, r5_39, r6_40, r7_41, r8_42, r9_43, r10_44, r11_45, r12_46, r13_47, r14_48, r15_49, .int 0]))] := hD
      refine W.widen (k := 404) (n := 120035) (Nat.le_of_ble_eq_true rfl) (Nat.le_of_ble_eq_true rfl) ?_
      refine lv_iload hx hb dM_L_law_1701 (lv_at hl 1 rfl) ?_
      refine lv_icmp_eq (tgt := 1708) hx hb dM_L_law_1703 (by decide) (fun _ => ?_) (fun q => absurd (by decide) q)
      refine lv_iload hx hb dM_L_law_1708 (lv_at hl 1 rfl) ?_
      refine lv_if_ne (tgt := 1725) hx hb dM_L_law_1710 (by decide) (fun q => absurd (by decide) q) (fun _ => ?_)
      refine lv_aload_n hx hb dM_L_law_1713 rfl (lv_at hl 5 rfl) ?_
      refine lv_iconst (v := 0) hx hb dM_L_law_1714 (by decide) ?_
      refine va_lald hx hb hK.1 hP 0 1 rfl rfl (by unfold vp_in; decide) dM_L_law_1715 ?_
      rw [pk_uLs]
      refine lv_iload hx hb dM_L_law_1716 (lv_at hl 0 rfl) ?_
      refine lv_i2l (v := 1) hx hb dM_L_law_1718 (by decide) ?_
      refine W.lcmp hx hb dM_L_law_1719 ?_
      refine lv_topi (fun y_50 ey_50 => ?_)
      obtain rfl : y_50 = 0 := ey_50.trans (by decide)
      refine lv_if_eq (tgt := 1725) hx hb dM_L_law_1720 (by decide) (fun _ => ?_) (fun q => absurd (by decide) q)
      refine lv_goto (tgt := 3410) hx hb dM_L_law_1725 (by decide) ?_
      refine W.widen (k := 600002) (n := 7302232) (Nat.le_of_ble_eq_true rfl) (Nat.le_of_ble_eq_true rfl) ?_
      exact hend _ _ _ hS (lv_sub hl [6, 2] rfl)
    · --
      exact absurd c_6 c_15
  · --
    obtain rfl := hu_8.symm
    obtain ⟨hP1, hD1⟩ := hB
    rw [ht] at hP1
    obtain ⟨hP, hD⟩ := va_join (wr := [(m0, .inr (10, [.ref nw, .ref kq, .int 0, .int 0, z4, z5, z6, z7, z8, z9, z10, z11, z12, .ref en, z14, z15, z16])), (nw, .inr (12, [.ref b_rows, .ref b_columns, .int 0, .ref b_types, .ref b_numbers, .ref b_formulas, .ref b_held, .ref b_holds, .ref b_found, .ref b_names, .ref b_bodies, .int 0, .ref b_parts, .ref b_noteParts, .ref b_over, .ref b_overs, .long 0, .long 0, .int 0, .int 0, .ref b_places, .ref b_torn])), (b_rows, .inl (dC 100, 4, .inl f_rows)), (b_columns, .inl (dC 100, 4, .inl f_columns)), (b_types, .inl (dC 100, 200, .inl f_types)), (b_numbers, .inl (dC 101, 200, .inr (.inl f_numbers))), (b_formulas, .inl (dC 100, 200, .inl f_formulas)), (b_held, .inl (dC 102, 200, .inl f_held)), (b_holds, .inl (dC 101, 200, .inr (.inl f_holds))), (b_found, .inl (dC 105, 885, .inr (.inr (.inr (.inr f_found))))), (b_names, .inl (dC 100, 6, .inl f_names)), (b_bodies, .inl (dC 100, 4, .inl f_bodies)), (b_parts, .inl (dC 100, 3, .inl f_parts)), (b_noteParts, .inl (dC 100, 72, .inl f_noteParts)), (b_over, .inl (dC 102, 600, .inl f_over)), (b_overs, .inl (dC 101, 600, .inr (.inl f_overs))), (b_places, .inl (dC 100, 750, .inl f_places)), (b_torn, .inl (dC 102, 150, .inl f_torn)), (kq, .inl (dC 104, 5, .inr (.inr (.inr (.inr fq))))), (k9, .inr (12, [.ref bk_rows, .ref bk_columns, .int 0, .ref bk_types, .ref bk_numbers, .ref bk_formulas, .ref bk_held, .ref bk_holds, .ref bk_found, .ref bk_names, .ref bk_bodies, .int 0, .ref bk_parts, .ref bk_noteParts, .ref bk_over, .ref bk_overs, .long 0, .long 0, .int 0, .int 0, .ref bk_places, .ref bk_torn])), (bk_rows, .inl (dC 100, 4, .inl fk_rows)), (bk_columns, .inl (dC 100, 4, .inl fk_columns)), (bk_types, .inl (dC 100, 200, .inl fk_types)), (bk_numbers, .inl (dC 101, 200, .inr (.inl fk_numbers))), (bk_formulas, .inl (dC 100, 200, .inl fk_formulas)), (bk_held, .inl (dC 102, 200, .inl fk_held)), (bk_holds, .inl (dC 101, 200, .inr (.inl fk_holds))), (bk_found, .inl (dC 105, 885, .inr (.inr (.inr (.inr fk_found))))), (bk_names, .inl (dC 100, 6, .inl fk_names)), (bk_bodies, .inl (dC 100, 4, .inl fk_bodies)), (bk_parts, .inl (dC 100, 3, .inl fk_parts)), (bk_noteParts, .inl (dC 100, 72, .inl fk_noteParts)), (bk_over, .inl (dC 102, 600, .inl fk_over)), (bk_overs, .inl (dC 101, 600, .inr (.inl fk_overs))), (bk_places, .inl (dC 100, 750, .inl fk_places)), (bk_torn, .inl (dC 102, 150, .inl fk_torn)), (en, .inr (11, [e0, e1, e2, e3, e4, .int cg, e6, e7, e8, e9, e10, e11, e12, e13, e14, e15, e16, e17, e18, e19, e20, e21, e22, e23, e24, e25, e26]))]) (w1 := [(ou, .inl (dC 101, 1, .inr (.inl f0)))]) hP hD [0, 1, 2, 3, 4, 5, 6, 7, 8, 9, 10, 11, 12, 13, 14, 15, 16, 17, 18, 19, 20, 21, 22, 23, 24, 25, 26, 27, 28, 29, 30, 31, 32, 33] [34, 35, 36, 37, 38, 39, 40, 41, 42, 43, 44, 45, 46, 47, 48, 49, 50, 51, 52, 53, 54, 55, 56, 57, 58, 59, 60, 61, 62, 63, 64, 65, 66, 67, 68, 69, 70] rfl rfl (by decide) (by decide) hk1 hFc hP1 hD1
    generalize H1 = H at hP hS ⊢
    have hP : va_P (dC, dI) classes [(m0, .inr (10, [.ref nw, .ref kq, .int 0, .int 0, z4, z5, z6, z7, z8, z9, z10, z11, z12, .ref en, z14, z15, z16])), (nw, .inr (12, [.ref b_rows, .ref b_columns, .int 0, .ref b_types, .ref b_numbers, .ref b_formulas, .ref b_held, .ref b_holds, .ref b_found, .ref b_names, .ref b_bodies, .int 0, .ref b_parts, .ref b_noteParts, .ref b_over, .ref b_overs, .long 0, .long 0, .int 0, .int 0, .ref b_places, .ref b_torn])), (b_rows, .inl (dC 100, 4, .inl f_rows)), (b_columns, .inl (dC 100, 4, .inl f_columns)), (b_types, .inl (dC 100, 200, .inl f_types)), (b_numbers, .inl (dC 101, 200, .inr (.inl f_numbers))), (b_formulas, .inl (dC 100, 200, .inl f_formulas)), (b_held, .inl (dC 102, 200, .inl f_held)), (b_holds, .inl (dC 101, 200, .inr (.inl f_holds))), (b_found, .inl (dC 105, 885, .inr (.inr (.inr (.inr f_found))))), (b_names, .inl (dC 100, 6, .inl f_names)), (b_bodies, .inl (dC 100, 4, .inl f_bodies)), (b_parts, .inl (dC 100, 3, .inl f_parts)), (b_noteParts, .inl (dC 100, 72, .inl f_noteParts)), (b_over, .inl (dC 102, 600, .inl f_over)), (b_overs, .inl (dC 101, 600, .inr (.inl f_overs))), (b_places, .inl (dC 100, 750, .inl f_places)), (b_torn, .inl (dC 102, 150, .inl f_torn)), (kq, .inl (dC 104, 5, .inr (.inr (.inr (.inr fq))))), (k9, .inr (12, [.ref bk_rows, .ref bk_columns, .int 0, .ref bk_types, .ref bk_numbers, .ref bk_formulas, .ref bk_held, .ref bk_holds, .ref bk_found, .ref bk_names, .ref bk_bodies, .int 0, .ref bk_parts, .ref bk_noteParts, .ref bk_over, .ref bk_overs, .long 0, .long 0, .int 0, .int 0, .ref bk_places, .ref bk_torn])), (bk_rows, .inl (dC 100, 4, .inl fk_rows)), (bk_columns, .inl (dC 100, 4, .inl fk_columns)), (bk_types, .inl (dC 100, 200, .inl fk_types)), (bk_numbers, .inl (dC 101, 200, .inr (.inl fk_numbers))), (bk_formulas, .inl (dC 100, 200, .inl fk_formulas)), (bk_held, .inl (dC 102, 200, .inl fk_held)), (bk_holds, .inl (dC 101, 200, .inr (.inl fk_holds))), (bk_found, .inl (dC 105, 885, .inr (.inr (.inr (.inr fk_found))))), (bk_names, .inl (dC 100, 6, .inl fk_names)), (bk_bodies, .inl (dC 100, 4, .inl fk_bodies)), (bk_parts, .inl (dC 100, 3, .inl fk_parts)), (bk_noteParts, .inl (dC 100, 72, .inl fk_noteParts)), (bk_over, .inl (dC 102, 600, .inl fk_over)), (bk_overs, .inl (dC 101, 600, .inr (.inl fk_overs))), (bk_places, .inl (dC 100, 750, .inl fk_places)), (bk_torn, .inl (dC 102, 150, .inl fk_torn)), (en, .inr (11, [e0, e1, e2, e3, e4, .int cg, e6, e7, e8, e9, e10, e11, e12, e13, e14, e15, e16, e17, e18, e19, e20, e21, e22, e23, e24, e25, e26])), (ou, .inl (dC 101, 1, .inr (.inl f0)))] H := hP
    have hD : va_D A [(m0, .inr (10, [.ref nw, .ref kq, .int 0, .int 0, z4, z5, z6, z7, z8, z9, z10, z11, z12, .ref en, z14, z15, z16])), (nw, .inr (12, [.ref b_rows, .ref b_columns, .int 0, .ref b_types, .ref b_numbers, .ref b_formulas, .ref b_held, .ref b_holds, .ref b_found, .ref b_names, .ref b_bodies, .int 0, .ref b_parts, .ref b_noteParts, .ref b_over, .ref b_overs, .long 0, .long 0, .int 0, .int 0, .ref b_places, .ref b_torn])), (b_rows, .inl (dC 100, 4, .inl f_rows)), (b_columns, .inl (dC 100, 4, .inl f_columns)), (b_types, .inl (dC 100, 200, .inl f_types)), (b_numbers, .inl (dC 101, 200, .inr (.inl f_numbers))), (b_formulas, .inl (dC 100, 200, .inl f_formulas)), (b_held, .inl (dC 102, 200, .inl f_held)), (b_holds, .inl (dC 101, 200, .inr (.inl f_holds))), (b_found, .inl (dC 105, 885, .inr (.inr (.inr (.inr f_found))))), (b_names, .inl (dC 100, 6, .inl f_names)), (b_bodies, .inl (dC 100, 4, .inl f_bodies)), (b_parts, .inl (dC 100, 3, .inl f_parts)), (b_noteParts, .inl (dC 100, 72, .inl f_noteParts)), (b_over, .inl (dC 102, 600, .inl f_over)), (b_overs, .inl (dC 101, 600, .inr (.inl f_overs))), (b_places, .inl (dC 100, 750, .inl f_places)), (b_torn, .inl (dC 102, 150, .inl f_torn)), (kq, .inl (dC 104, 5, .inr (.inr (.inr (.inr fq))))), (k9, .inr (12, [.ref bk_rows, .ref bk_columns, .int 0, .ref bk_types, .ref bk_numbers, .ref bk_formulas, .ref bk_held, .ref bk_holds, .ref bk_found, .ref bk_names, .ref bk_bodies, .int 0, .ref bk_parts, .ref bk_noteParts, .ref bk_over, .ref bk_overs, .long 0, .long 0, .int 0, .int 0, .ref bk_places, .ref bk_torn])), (bk_rows, .inl (dC 100, 4, .inl fk_rows)), (bk_columns, .inl (dC 100, 4, .inl fk_columns)), (bk_types, .inl (dC 100, 200, .inl fk_types)), (bk_numbers, .inl (dC 101, 200, .inr (.inl fk_numbers))), (bk_formulas, .inl (dC 100, 200, .inl fk_formulas)), (bk_held, .inl (dC 102, 200, .inl fk_held)), (bk_holds, .inl (dC 101, 200, .inr (.inl fk_holds))), (bk_found, .inl (dC 105, 885, .inr (.inr (.inr (.inr fk_found))))), (bk_names, .inl (dC 100, 6, .inl fk_names)), (bk_bodies, .inl (dC 100, 4, .inl fk_bodies)), (bk_parts, .inl (dC 100, 3, .inl fk_parts)), (bk_noteParts, .inl (dC 100, 72, .inl fk_noteParts)), (bk_over, .inl (dC 102, 600, .inl fk_over)), (bk_overs, .inl (dC 101, 600, .inr (.inl fk_overs))), (bk_places, .inl (dC 100, 750, .inl fk_places)), (bk_torn, .inl (dC 102, 150, .inl fk_torn)), (en, .inr (11, [e0, e1, e2, e3, e4, .int cg, e6, e7, e8, e9, e10, e11, e12, e13, e14, e15, e16, e17, e18, e19, e20, e21, e22, e23, e24, e25, e26])), (ou, .inl (dC 101, 1, .inr (.inl f0)))] := hD
    refine W.widen (k := 404) (n := 120035) (Nat.le_of_ble_eq_true rfl) (Nat.le_of_ble_eq_true rfl) ?_
    refine lv_istore (lv' := [(5, .int 1), (0, .ref b), (1, .ref h0), (2, .ref m0), (3, .ref ou), (4, .int 0)]) hx hb dM_L_law_1677 hl (by decide) rfl (fun ls hl => ?_)
    refine lv_aload_n hx hb dM_L_law_1679 rfl (lv_at hl 3 rfl) ?_
    refine lv_aload_n hx hb dM_L_law_1680 rfl (lv_at hl 1 rfl) ?_
    refine lv_iload hx hb dM_L_law_1681 (lv_at hl 5 rfl) ?_
    refine lv_iconst (v := 1) hx hb dM_L_law_1683 (by decide) ?_
    refine lv_iadd hx hb dM_L_law_1684 ?_
    refine lv_topi (fun y_51 ey_51 => ?_)
    obtain rfl : y_51 = 1 := ey_51.trans (by decide)
    refine va_sld hx hb hX hbl hbA hS (by unfold vp_in; decide) dM_L_law_1685 ?_
    refine lv_topi (fun y_52 ey_52 => ?_)
    obtain rfl : y_2 = y_52 := ey_2.trans ey_52.symm
    refine lv_aload_n hx hb dM_L_law_1686 rfl (lv_at hl 1 rfl) ?_
    refine lv_iload hx hb dM_L_law_1687 (lv_at hl 5 rfl) ?_
    refine lv_iconst (v := 2) hx hb dM_L_law_1689 (by decide) ?_
    refine lv_iadd hx hb dM_L_law_1690 ?_
    refine lv_topi (fun y_53 ey_53 => ?_)
    obtain rfl : y_53 = 2 := ey_53.trans (by decide)
    refine va_sld hx hb hX hbl hbA hS (by unfold vp_in; decide) dM_L_law_1691 ?_
    refine lv_topi (fun y_54 ey_54 => ?_)
    obtain rfl : y_4 = y_54 := ey_4.trans ey_54.symm
    have hFc := va_free (wc := [(m0, .inr (10, [.ref nw, .ref kq, .int 0, .int 0, z4, z5, z6, z7, z8, z9, z10, z11, z12, .ref en, z14, z15, z16])), (nw, .inr (12, [.ref b_rows, .ref b_columns, .int 0, .ref b_types, .ref b_numbers, .ref b_formulas, .ref b_held, .ref b_holds, .ref b_found, .ref b_names, .ref b_bodies, .int 0, .ref b_parts, .ref b_noteParts, .ref b_over, .ref b_overs, .long 0, .long 0, .int 0, .int 0, .ref b_places, .ref b_torn])), (b_rows, .inl (dC 100, 4, .inl f_rows)), (b_columns, .inl (dC 100, 4, .inl f_columns)), (b_types, .inl (dC 100, 200, .inl f_types)), (b_numbers, .inl (dC 101, 200, .inr (.inl f_numbers))), (b_formulas, .inl (dC 100, 200, .inl f_formulas)), (b_held, .inl (dC 102, 200, .inl f_held)), (b_holds, .inl (dC 101, 200, .inr (.inl f_holds))), (b_found, .inl (dC 105, 885, .inr (.inr (.inr (.inr f_found))))), (b_names, .inl (dC 100, 6, .inl f_names)), (b_bodies, .inl (dC 100, 4, .inl f_bodies)), (b_parts, .inl (dC 100, 3, .inl f_parts)), (b_noteParts, .inl (dC 100, 72, .inl f_noteParts)), (b_over, .inl (dC 102, 600, .inl f_over)), (b_overs, .inl (dC 101, 600, .inr (.inl f_overs))), (b_places, .inl (dC 100, 750, .inl f_places)), (b_torn, .inl (dC 102, 150, .inl f_torn)), (kq, .inl (dC 104, 5, .inr (.inr (.inr (.inr fq))))), (k9, .inr (12, [.ref bk_rows, .ref bk_columns, .int 0, .ref bk_types, .ref bk_numbers, .ref bk_formulas, .ref bk_held, .ref bk_holds, .ref bk_found, .ref bk_names, .ref bk_bodies, .int 0, .ref bk_parts, .ref bk_noteParts, .ref bk_over, .ref bk_overs, .long 0, .long 0, .int 0, .int 0, .ref bk_places, .ref bk_torn])), (bk_rows, .inl (dC 100, 4, .inl fk_rows)), (bk_columns, .inl (dC 100, 4, .inl fk_columns)), (bk_types, .inl (dC 100, 200, .inl fk_types)), (bk_numbers, .inl (dC 101, 200, .inr (.inl fk_numbers))), (bk_formulas, .inl (dC 100, 200, .inl fk_formulas)), (bk_held, .inl (dC 102, 200, .inl fk_held)), (bk_holds, .inl (dC 101, 200, .inr (.inl fk_holds))), (bk_found, .inl (dC 105, 885, .inr (.inr (.inr (.inr fk_found))))), (bk_names, .inl (dC 100, 6, .inl fk_names)), (bk_bodies, .inl (dC 100, 4, .inl fk_bodies)), (bk_parts, .inl (dC 100, 3, .inl fk_parts)), (bk_noteParts, .inl (dC 100, 72, .inl fk_noteParts)), (bk_over, .inl (dC 102, 600, .inl fk_over)), (bk_overs, .inl (dC 101, 600, .inr (.inl fk_overs))), (bk_places, .inl (dC 100, 750, .inl fk_places)), (bk_torn, .inl (dC 102, 150, .inl fk_torn)), (en, .inr (11, [e0, e1, e2, e3, e4, .int cg, e6, e7, e8, e9, e10, e11, e12, e13, e14, e15, e16, e17, e18, e19, e20, e21, e22, e23, e24, e25, e26]))]) hD hS hA [0, 1, 2, 3, 4, 5, 6, 7, 8, 9, 10, 11, 12, 13, 14, 15, 16, 17, 18, 19, 20, 21, 22, 23, 24, 25, 26, 27, 28, 29, 30, 31, 32, 33, 34, 35, 36] rfl
    refine va_calli (va_runV (As := [.int y_2, .int y_4]) (rest := []) ⟨hx, hb, hml, hown, hbg⟩ (c_M_tick l dC dI m0 y_2 y_4 nw kq z4 z5 z6 z7 z8 z9 z10 z11 z12 en z14 z15 z16 b_rows b_columns b_types b_numbers b_formulas b_held b_holds b_found b_names b_bodies b_parts b_noteParts b_over b_overs b_places b_torn f_rows f_columns f_types f_numbers f_formulas f_held f_holds f_found f_names f_bodies f_parts f_noteParts f_over f_overs f_places f_torn fq k9 bk_rows bk_columns bk_types bk_numbers bk_formulas bk_held bk_holds bk_found bk_names bk_bodies bk_parts bk_noteParts bk_over bk_overs bk_places bk_torn fk_rows fk_columns fk_types fk_numbers fk_formulas fk_held fk_holds fk_found fk_names fk_bodies fk_parts fk_noteParts fk_over fk_overs fk_places fk_torn e0 e1 e2 e3 e4 cg e6 e7 e8 e9 e10 e11 e12 e13 e14 e15 e16 e17 e18 e19 e20 e21 e22 e23 e24 e25 e26 _ (hfd) (hk9)) (cwV 2 hbg (gd_V (fun _ h => h) wd_2674 wd_2675 wd_2676 wd_12 (gd_wm (fun _ h => h) wd_2677)) rfl rfl rfl (by decide +kernel) ⟨Nat.le_of_ble_eq_true rfl, Nat.le_of_ble_eq_true rfl⟩) (nPreV [0, 1, 2, 3, 4, 5, 6, 7, 8, 9, 10, 11, 12, 13, 14, 15, 16, 17, 18, 19, 20, 21, 22, 23, 24, 25, 26, 27, 28, 29, 30, 31, 32, 33, 34, 35, 36] hP hD hK hN hS hA (by decide) rfl 0 rfl rfl) rfl rfl hl.1 rfl (lv_room (Nat.le_of_ble_eq_true rfl)) dM_L_law_1692 ⟨Nat.le_of_ble_eq_true rfl, Nat.le_of_ble_eq_true rfl⟩) hS (fun q _ h => hFc q h) hFc (fun r_55 u t H1 locs ht hvm hw hB hz1 hk1 hS => ?_)
    rcases hw with ⟨c_56, rfl, rfl⟩ | ⟨c_57, rfl, rfl⟩
    · --
      exact absurd c_56 c_7
    · --
      obtain ⟨r0_58, r1_59, r2_60, r3_61, r4_62, r5_63, r6_64, r7_65, r8_66, r9_67, r10_68, r11_69, r12_70, r13_71, r14_72, r15_73, hP1, hD1⟩ := hB
      rw [ht] at hP1
      obtain ⟨hP, hD⟩ := va_join (wr := [(ou, .inl (dC 101, 1, .inr (.inl f0)))]) (w1 := [(m0, .inr (10, [r0_58, r1_59, r2_60, r3_61, r4_62, r5_63, r6_64, r7_65, r8_66, r9_67, r10_68, r11_69, r12_70, r13_71, r14_72, r15_73, .int 1]))]) hP hD [0, 1, 2, 3, 4, 5, 6, 7, 8, 9, 10, 11, 12, 13, 14, 15, 16, 17, 18, 19, 20, 21, 22, 23, 24, 25, 26, 27, 28, 29, 30, 31, 32, 33, 34, 35, 36] [37] rfl rfl (by decide) (by decide) hk1 hFc hP1 hD1
      generalize H1 = H at hP hS ⊢
      have hP : va_P (dC, dI) classes [(ou, .inl (dC 101, 1, .inr (.inl f0))), (m0, .inr (10, [r0_58, r1_59, r2_60, r3_61, r4_62, r5_63, r6_64, r7_65, r8_66, r9_67, r10_68, r11_69, r12_70, r13_71, r14_72, r15_73, .int 1]))] H := hP
      have hD : va_D A [(ou, .inl (dC 101, 1, .inr (.inl f0))), (m0, .inr (10, [r0_58, r1_59, r2_60, r3_61, r4_62, r5_63, r6_64, r7_65, r8_66, r9_67, r10_68, r11_69, r12_70, r13_71, r14_72, r15_73, .int 1]))] := hD
      refine W.widen (k := 404) (n := 120035) (Nat.le_of_ble_eq_true rfl) (Nat.le_of_ble_eq_true rfl) ?_
      refine lv_istore (lv' := [(6, .int 0), (5, .int 1), (0, .ref b), (1, .ref h0), (2, .ref m0), (3, .ref ou), (4, .int 0)]) hx hb dM_L_law_1695 hl (by decide) rfl (fun ls hl => ?_)
      refine lv_aload_n hx hb dM_L_law_1697 rfl (lv_at hl 4 rfl) ?_
      have hFc := va_free (wc := [(m0, .inr (10, [r0_58, r1_59, r2_60, r3_61, r4_62, r5_63, r6_64, r7_65, r8_66, r9_67, r10_68, r11_69, r12_70, r13_71, r14_72, r15_73, .int 1]))]) hD hS hA [1] rfl
      refine va_calli (va_runV (As := []) (rest := []) ⟨hx, hb, hml, hown, hbg⟩ (c_M_thrown l dC dI m0 r0_58 r1_59 r2_60 r3_61 r4_62 r5_63 r6_64 r7_65 r8_66 r9_67 r10_68 r11_69 r12_70 r13_71 r14_72 r15_73 1 _ ) (cwV 0 hbg (gd_V (fun _ h => h) wd_2190 wd_2191 wd_2192 wd_12 (gd_wm (fun _ h => h) wd_2193)) rfl rfl rfl (by decide +kernel) ⟨Nat.le_of_ble_eq_true rfl, Nat.le_of_ble_eq_true rfl⟩) (nPreV [1] hP hD hK hN hS hA (by decide) rfl 1 rfl rfl) rfl rfl hl.1 rfl (lv_room (Nat.le_of_ble_eq_true rfl)) dM_L_law_1698 ⟨Nat.le_of_ble_eq_true rfl, Nat.le_of_ble_eq_true rfl⟩) hS (fun q _ h => hFc q h) hFc (fun r_74 u t H1 locs ht hvm hw hB hz1 hk1 hS => ?_)
      obtain ⟨rfl, rfl⟩ := hw
      obtain ⟨r0_76, r1_77, r2_78, r3_79, r4_80, r5_81, r6_82, r7_83, r8_84, r9_85, r10_86, r11_87, r12_88, r13_89, r14_90, r15_91, hP1, hD1⟩ := hB
      rw [ht] at hP1
      obtain ⟨hP, hD⟩ := va_join (wr := [(ou, .inl (dC 101, 1, .inr (.inl f0)))]) (w1 := [(m0, .inr (10, [r0_76, r1_77, r2_78, r3_79, r4_80, r5_81, r6_82, r7_83, r8_84, r9_85, r10_86, r11_87, r12_88, r13_89, r14_90, r15_91, .int 1]))]) hP hD [1] [0] rfl rfl (by decide) (by decide) hk1 hFc hP1 hD1
      generalize H1 = H at hP hS ⊢
      have hP : va_P (dC, dI) classes [(ou, .inl (dC 101, 1, .inr (.inl f0))), (m0, .inr (10, [r0_76, r1_77, r2_78, r3_79, r4_80, r5_81, r6_82, r7_83, r8_84, r9_85, r10_86, r11_87, r12_88, r13_89, r14_90, r15_91, .int 1]))] H := hP
      have hD : va_D A [(ou, .inl (dC 101, 1, .inr (.inl f0))), (m0, .inr (10, [r0_76, r1_77, r2_78, r3_79, r4_80, r5_81, r6_82, r7_83, r8_84, r9_85, r10_86, r11_87, r12_88, r13_89, r14_90, r15_91, .int 1]))] := hD
      refine W.widen (k := 404) (n := 120035) (Nat.le_of_ble_eq_true rfl) (Nat.le_of_ble_eq_true rfl) ?_
      refine lv_iload hx hb dM_L_law_1701 (lv_at hl 1 rfl) ?_
      refine lv_icmp_eq (tgt := 1708) hx hb dM_L_law_1703 (by decide) (fun _ => ?_) (fun q => absurd (by decide) q)
      refine lv_iload hx hb dM_L_law_1708 (lv_at hl 1 rfl) ?_
      refine lv_if_ne (tgt := 1725) hx hb dM_L_law_1710 (by decide) (fun _ => ?_) (fun q => absurd q (by decide))
      refine lv_goto (tgt := 3410) hx hb dM_L_law_1725 (by decide) ?_
      refine W.widen (k := 600002) (n := 7302232) (Nat.le_of_ble_eq_true rfl) (Nat.le_of_ble_eq_true rfl) ?_
      exact hend _ _ _ hS (lv_sub hl [6, 2] rfl)
set_option maxHeartbeats 4000000 in
set_option maxRecDepth 100000 in
theorem lawc_20 {p : Program} {e : Env} {s : State} {m : MethodId} {below : List Frame} {meth : Method} {c : Code} {Z : State → Prop} (l : Launch) (hl9 : l.stackTraces = false) (dC : Nat → ClassId) (dI : Nat → Nat → Nat) {A : Nat → Prop} {b L : Nat} {xs : Nat → Int32} (hL : L = 8) (hx : p.tables.exec = Jvm.exec) (hb : c.code = cM_L_law) (hml : c.maxLocals = 8) (hown : s.vm.findClass "NoteDocumentLaw" = some m.cls) (hbg : ∀ w ∈ BIG, w.before #[Value.ref b] s = true) (hK : nK (dC, dI) s) (hN : nS A s s.heap) (hA : ∀ q : Nat, s.heap.size ≤ q → A q) (hX : va_X b L xs s s.heap) (hbl : b < s.heap.size) (hbA : ¬ A b) {H : Heap} {locs : List Loc} {ls : Array Slot} {h0 : Nat} {m0 : Nat} {ou : Nat} {st : Nat} {no : Nat} {ch : Nat} {he : Nat} {de : Nat} {fi : Nat} {v6 : Value} {kp : Nat} {aw : Nat} {gw : Nat → Int64} {ac_cell : Nat} {ac_behind : Nat} {ac_size : Nat} {ac_nextLikely : Nat} {ac_firstLikely : Nat} {gc : Nat → Int32} {a_columns : Nat} {a_rows : Nat} {a_content : Nat} {a_held : Nat} {a_other : Nat} {a_named : Nat} {a_body : Nat} {a_parts : Nat} {a_partCount : Nat} {a_refRow : Nat} {a_refColumn : Nat} {a_refToRow : Nat} {a_torn : Nat} {a_record : Nat} {g_content : Nat → Int64} {f0 : Nat → Int64} {nw : Nat} {z1 : Value} {z2 : Value} {z4 : Value} {z5 : Value} {z6 : Value} {z7 : Value} {z8 : Value} {z9 : Value} {z10 : Value} {z11 : Value} {z12 : Value} {z13 : Value} {z14 : Value} {z15 : Value} {z16 : Value} {t0 : Value} {t1 : Value} {t2 : Value} {b_types : Nat} {t4 : Value} {t5 : Value} {t6 : Value} {t7 : Value} {t8 : Value} {t9 : Value} {t10 : Value} {t12 : Value} {t13 : Value} {t14 : Value} {t15 : Value} {t16 : Value} {t17 : Value} {t18 : Value} {t19 : Value} {t20 : Value} {t21 : Value} {f_types : Nat → Int32} (hP : va_P (dC, dI) classes [(h0, .inr (0, [.ref st, .ref no, .ref ch, .ref he, .ref de, .ref fi, v6, .ref kp, .int 0, .int 0, .int 0])), (he, .inr (4, [.ref aw, .int 1])), (aw, .inl (dC 101, 8192, .inr (.inl gw))), (ch, .inr (1, [.ref ac_cell, .ref ac_behind, .ref ac_size, .ref ac_nextLikely, .ref ac_firstLikely, .int (nI (200 + 1))])), (ac_cell, .inl (dC 100, 512, .inl gc)), (st, .inr (8, [.int 0, .int 0, .int 0, .ref a_columns, .ref a_rows, .ref a_content, .ref a_held, .ref a_other, .ref a_named, .ref a_body, .ref a_parts, .ref a_partCount, .ref a_refRow, .ref a_refColumn, .ref a_refToRow, .ref a_torn, .ref a_record, .int 0, .int 0, .int 0])), (a_content, .inl (dC 101, 200, .inr (.inl g_content))), (ou, .inl (dC 101, 1, .inr (.inl f0))), (m0, .inr (10, [.ref nw, z1, z2, .int 0, z4, z5, z6, z7, z8, z9, z10, z11, z12, z13, z14, z15, z16])), (nw, .inr (12, [t0, t1, t2, .ref b_types, t4, t5, t6, t7, t8, t9, t10, .int 0, t12, t13, t14, t15, t16, t17, t18, t19, t20, t21])), (b_types, .inl (dC 100, 200, .inl f_types))] H) (hD : va_D A [(h0, .inr (0, [.ref st, .ref no, .ref ch, .ref he, .ref de, .ref fi, v6, .ref kp, .int 0, .int 0, .int 0])), (he, .inr (4, [.ref aw, .int 1])), (aw, .inl (dC 101, 8192, .inr (.inl gw))), (ch, .inr (1, [.ref ac_cell, .ref ac_behind, .ref ac_size, .ref ac_nextLikely, .ref ac_firstLikely, .int (nI (200 + 1))])), (ac_cell, .inl (dC 100, 512, .inl gc)), (st, .inr (8, [.int 0, .int 0, .int 0, .ref a_columns, .ref a_rows, .ref a_content, .ref a_held, .ref a_other, .ref a_named, .ref a_body, .ref a_parts, .ref a_partCount, .ref a_refRow, .ref a_refColumn, .ref a_refToRow, .ref a_torn, .ref a_record, .int 0, .int 0, .int 0])), (a_content, .inl (dC 101, 200, .inr (.inl g_content))), (ou, .inl (dC 101, 1, .inr (.inl f0))), (m0, .inr (10, [.ref nw, z1, z2, .int 0, z4, z5, z6, z7, z8, z9, z10, z11, z12, z13, z14, z15, z16])), (nw, .inr (12, [t0, t1, t2, .ref b_types, t4, t5, t6, t7, t8, t9, t10, .int 0, t12, t13, t14, t15, t16, t17, t18, t19, t20, t21])), (b_types, .inl (dC 100, 200, .inl f_types))]) (hS : va_S A s.heap H locs) (hl : lv_has ls 8 [(0, .ref b), (1, .ref h0), (2, .ref m0), (3, .ref ou), (4, .int 0)]) (hcont : ∀ j, j < 200 → g_content j = 1125899906842624) (hty : ∀ j, j < 200 → f_types j = 0) (hend : ∀ (H : Heap) (locs : List Loc) (ls : Array Slot), va_S A s.heap H locs → lv_has ls 8 [(4, .int 0), (0, .ref b)] → W p l e room_1 s m #[Value.ref b] below meth c H locs 600002 7302232 Z (F0 m 3410 ls [])) : W p l e room_1 s m #[Value.ref b] below meth c H locs 403 120029 Z (F0 m 1728 ls []) := by
  subst hL
  refine lv_aload_n hx hb dM_L_law_1728 rfl (lv_at hl 1 rfl) ?_
  refine lv_aload_n hx hb dM_L_law_1729 rfl (lv_at hl 0 rfl) ?_
  refine lv_iload hx hb dM_L_law_1730 (lv_at hl 4 rfl) ?_
  refine lv_iconst (v := 1) hx hb dM_L_law_1732 (by decide) ?_
  refine lv_iadd hx hb dM_L_law_1733 ?_
  refine lv_topi (fun y_1 ey_1 => ?_)
  obtain rfl : y_1 = 1 := ey_1.trans (by decide)
  refine va_sld hx hb hX hbl hbA hS (by unfold vp_in; decide) dM_L_law_1734 ?_
  refine lv_topi (fun y_2 ey_2 => ?_)
  refine lv_aload_n hx hb dM_L_law_1735 rfl (lv_at hl 3 rfl) ?_
  have hFc := va_free (wc := [(h0, .inr (0, [.ref st, .ref no, .ref ch, .ref he, .ref de, .ref fi, v6, .ref kp, .int 0, .int 0, .int 0])), (he, .inr (4, [.ref aw, .int 1])), (aw, .inl (dC 101, 8192, .inr (.inl gw))), (ch, .inr (1, [.ref ac_cell, .ref ac_behind, .ref ac_size, .ref ac_nextLikely, .ref ac_firstLikely, .int (nI (200 + 1))])), (ac_cell, .inl (dC 100, 512, .inl gc)), (st, .inr (8, [.int 0, .int 0, .int 0, .ref a_columns, .ref a_rows, .ref a_content, .ref a_held, .ref a_other, .ref a_named, .ref a_body, .ref a_parts, .ref a_partCount, .ref a_refRow, .ref a_refColumn, .ref a_refToRow, .ref a_torn, .ref a_record, .int 0, .int 0, .int 0])), (a_content, .inl (dC 101, 200, .inr (.inl g_content))), (ou, .inl (dC 101, 1, .inr (.inl f0)))]) hD hS hA [0, 1, 2, 3, 4, 5, 6, 7] rfl
  refine va_calli (vx_runSW (As := [.ref h0, .int y_2, .ref ou]) (rest := []) ⟨hx, hb, hml, hown, hbg⟩ (c_L_setWay l hl9 dC dI h0 y_2 ou st no ch he de fi v6 kp aw gw ac_cell ac_behind ac_size ac_nextLikely ac_firstLikely gc a_columns a_rows a_content a_held a_other a_named a_body a_parts a_partCount a_refRow a_refColumn a_refToRow a_torn a_record g_content f0 _ (hcont)) (vx_cwSW 3 hbg (gd_S (fun _ h => h) wd_1367 wd_1368 wd_0 (gd_wmW (fun _ h => h) wd_1369)) rfl rfl rfl (by decide +kernel) ⟨Nat.le_of_ble_eq_true rfl, Nat.le_of_ble_eq_true rfl⟩) (nPreS [0, 1, 2, 3, 4, 5, 6, 7] hP hD hK hN hS hA (by decide) rfl) rfl rfl hl.1 rfl (lv_room (Nat.le_of_ble_eq_true rfl)) dM_L_law_1736 ⟨Nat.le_of_ble_eq_true rfl, Nat.le_of_ble_eq_true rfl⟩) hS (fun q _ h => hFc q h) hFc (fun r_3 u t H1 locs ht hvm hw hB hz1 hk1 hS => ?_)
  rcases hw with ⟨c_4, rfl, rfl⟩ | ⟨c_5, rfl, hu_6⟩
  · --
    obtain ⟨hP1, hD1⟩ := hB
    rw [ht] at hP1
    obtain ⟨hP, hD⟩ := va_join (wr := [(m0, .inr (10, [.ref nw, z1, z2, .int 0, z4, z5, z6, z7, z8, z9, z10, z11, z12, z13, z14, z15, z16])), (nw, .inr (12, [t0, t1, t2, .ref b_types, t4, t5, t6, t7, t8, t9, t10, .int 0, t12, t13, t14, t15, t16, t17, t18, t19, t20, t21])), (b_types, .inl (dC 100, 200, .inl f_types))]) (w1 := [(ou, .inl (dC 101, 1, .inr (.inl (vp_updL f0 (0 : Int32).toNatClampNeg 0))))]) hP hD [0, 1, 2, 3, 4, 5, 6, 7] [8, 9, 10] rfl rfl (by decide) (by decide) hk1 hFc hP1 hD1
    generalize H1 = H at hP hS ⊢
    have hP : va_P (dC, dI) classes [(m0, .inr (10, [.ref nw, z1, z2, .int 0, z4, z5, z6, z7, z8, z9, z10, z11, z12, z13, z14, z15, z16])), (nw, .inr (12, [t0, t1, t2, .ref b_types, t4, t5, t6, t7, t8, t9, t10, .int 0, t12, t13, t14, t15, t16, t17, t18, t19, t20, t21])), (b_types, .inl (dC 100, 200, .inl f_types)), (ou, .inl (dC 101, 1, .inr (.inl (vp_updL f0 (0 : Int32).toNatClampNeg 0))))] H := hP
    have hD : va_D A [(m0, .inr (10, [.ref nw, z1, z2, .int 0, z4, z5, z6, z7, z8, z9, z10, z11, z12, z13, z14, z15, z16])), (nw, .inr (12, [t0, t1, t2, .ref b_types, t4, t5, t6, t7, t8, t9, t10, .int 0, t12, t13, t14, t15, t16, t17, t18, t19, t20, t21])), (b_types, .inl (dC 100, 200, .inl f_types)), (ou, .inl (dC 101, 1, .inr (.inl (vp_updL f0 (0 : Int32).toNatClampNeg 0))))] := hD
    refine W.widen (k := 404) (n := 120035) (Nat.le_of_ble_eq_true rfl) (Nat.le_of_ble_eq_true rfl) ?_
    refine lv_istore (lv' := [(5, .int 0), (0, .ref b), (1, .ref h0), (2, .ref m0), (3, .ref ou), (4, .int 0)]) hx hb dM_L_law_1739 hl (by decide) rfl (fun ls hl => ?_)
    refine lv_aload_n hx hb dM_L_law_1741 rfl (lv_at hl 3 rfl) ?_
    refine lv_aload_n hx hb dM_L_law_1742 rfl (lv_at hl 1 rfl) ?_
    refine lv_iload hx hb dM_L_law_1743 (lv_at hl 5 rfl) ?_
    refine lv_iconst (v := 1) hx hb dM_L_law_1745 (by decide) ?_
    refine lv_iadd hx hb dM_L_law_1746 ?_
    refine lv_topi (fun y_7 ey_7 => ?_)
    obtain rfl : y_7 = 1 := ey_7.trans (by decide)
    refine va_sld hx hb hX hbl hbA hS (by unfold vp_in; decide) dM_L_law_1747 ?_
    refine lv_topi (fun y_8 ey_8 => ?_)
    obtain rfl : y_2 = y_8 := ey_2.trans ey_8.symm
    have hFc := va_free (wc := [(m0, .inr (10, [.ref nw, z1, z2, .int 0, z4, z5, z6, z7, z8, z9, z10, z11, z12, z13, z14, z15, z16])), (nw, .inr (12, [t0, t1, t2, .ref b_types, t4, t5, t6, t7, t8, t9, t10, .int 0, t12, t13, t14, t15, t16, t17, t18, t19, t20, t21])), (b_types, .inl (dC 100, 200, .inl f_types))]) hD hS hA [0, 1, 2] rfl
    refine va_calli (va_runV (As := [.int y_2]) (rest := []) ⟨hx, hb, hml, hown, hbg⟩ (c_M_setWay l dC dI m0 y_2 nw z1 z2 z4 z5 z6 z7 z8 z9 z10 z11 z12 z13 z14 z15 z16 t0 t1 t2 b_types t4 t5 t6 t7 t8 t9 t10 t12 t13 t14 t15 t16 t17 t18 t19 t20 t21 f_types _ (hty)) (cwV 1 hbg (gd_V (fun _ h => h) wd_2679 wd_2680 wd_2681 wd_12 (gd_wm (fun _ h => h) wd_2682)) rfl rfl rfl (by decide +kernel) ⟨Nat.le_of_ble_eq_true rfl, Nat.le_of_ble_eq_true rfl⟩) (nPreV [0, 1, 2] hP hD hK hN hS hA (by decide) rfl 0 rfl rfl) rfl rfl hl.1 rfl (lv_room (Nat.le_of_ble_eq_true rfl)) dM_L_law_1748 ⟨Nat.le_of_ble_eq_true rfl, Nat.le_of_ble_eq_true rfl⟩) hS (fun q _ h => hFc q h) hFc (fun r_9 u t H1 locs ht hvm hw hB hz1 hk1 hS => ?_)
    rcases hw with ⟨c_10, rfl, rfl⟩ | ⟨c_11, rfl, rfl⟩
    · --
      obtain ⟨r0_12, r1_13, r2_14, r3_15, r4_16, r5_17, r6_18, r7_19, r8_20, r9_21, r10_22, r11_23, r12_24, r13_25, r14_26, r15_27, hP1, hD1⟩ := hB
      rw [ht] at hP1
      obtain ⟨hP, hD⟩ := va_join (wr := [(ou, .inl (dC 101, 1, .inr (.inl (vp_updL f0 (0 : Int32).toNatClampNeg 0))))]) (w1 := [(m0, .inr (10, [r0_12, r1_13, r2_14, r3_15, r4_16, r5_17, r6_18, r7_19, r8_20, r9_21, r10_22, r11_23, r12_24, r13_25, r14_26, r15_27, .int 0]))]) hP hD [0, 1, 2] [3] rfl rfl (by decide) (by decide) hk1 hFc hP1 hD1
      generalize H1 = H at hP hS ⊢
      have hP : va_P (dC, dI) classes [(ou, .inl (dC 101, 1, .inr (.inl (vp_updL f0 (0 : Int32).toNatClampNeg 0)))), (m0, .inr (10, [r0_12, r1_13, r2_14, r3_15, r4_16, r5_17, r6_18, r7_19, r8_20, r9_21, r10_22, r11_23, r12_24, r13_25, r14_26, r15_27, .int 0]))] H := hP
      have hD : va_D A [(ou, .inl (dC 101, 1, .inr (.inl (vp_updL f0 (0 : Int32).toNatClampNeg 0)))), (m0, .inr (10, [r0_12, r1_13, r2_14, r3_15, r4_16, r5_17, r6_18, r7_19, r8_20, r9_21, r10_22, r11_23, r12_24, r13_25, r14_26, r15_27, .int 0]))] := hD
      refine W.widen (k := 404) (n := 120035) (Nat.le_of_ble_eq_true rfl) (Nat.le_of_ble_eq_true rfl) ?_
      refine lv_istore (lv' := [(6, .int 0), (5, .int 0), (0, .ref b), (1, .ref h0), (2, .ref m0), (3, .ref ou), (4, .int 0)]) hx hb dM_L_law_1751 hl (by decide) rfl (fun ls hl => ?_)
      refine lv_aload_n hx hb dM_L_law_1753 rfl (lv_at hl 4 rfl) ?_
      have hFc := va_free (wc := [(m0, .inr (10, [r0_12, r1_13, r2_14, r3_15, r4_16, r5_17, r6_18, r7_19, r8_20, r9_21, r10_22, r11_23, r12_24, r13_25, r14_26, r15_27, .int 0]))]) hD hS hA [1] rfl
      refine va_calli (va_runV (As := []) (rest := []) ⟨hx, hb, hml, hown, hbg⟩ (c_M_thrown l dC dI m0 r0_12 r1_13 r2_14 r3_15 r4_16 r5_17 r6_18 r7_19 r8_20 r9_21 r10_22 r11_23 r12_24 r13_25 r14_26 r15_27 0 _ ) (cwV 0 hbg (gd_V (fun _ h => h) wd_2190 wd_2191 wd_2192 wd_12 (gd_wm (fun _ h => h) wd_2193)) rfl rfl rfl (by decide +kernel) ⟨Nat.le_of_ble_eq_true rfl, Nat.le_of_ble_eq_true rfl⟩) (nPreV [1] hP hD hK hN hS hA (by decide) rfl 1 rfl rfl) rfl rfl hl.1 rfl (lv_room (Nat.le_of_ble_eq_true rfl)) dM_L_law_1754 ⟨Nat.le_of_ble_eq_true rfl, Nat.le_of_ble_eq_true rfl⟩) hS (fun q _ h => hFc q h) hFc (fun r_28 u t H1 locs ht hvm hw hB hz1 hk1 hS => ?_)
      obtain ⟨rfl, rfl⟩ := hw
      obtain ⟨r0_30, r1_31, r2_32, r3_33, r4_34, r5_35, r6_36, r7_37, r8_38, r9_39, r10_40, r11_41, r12_42, r13_43, r14_44, r15_45, hP1, hD1⟩ := hB
      rw [ht] at hP1
      obtain ⟨hP, hD⟩ := va_join (wr := [(ou, .inl (dC 101, 1, .inr (.inl (vp_updL f0 (0 : Int32).toNatClampNeg 0))))]) (w1 := [(m0, .inr (10, [r0_30, r1_31, r2_32, r3_33, r4_34, r5_35, r6_36, r7_37, r8_38, r9_39, r10_40, r11_41, r12_42, r13_43, r14_44, r15_45, .int 0]))]) hP hD [1] [0] rfl rfl (by decide) (by decide) hk1 hFc hP1 hD1
      generalize H1 = H at hP hS ⊢
      have hP : va_P (dC, dI) classes [(ou, .inl (dC 101, 1, .inr (.inl (vp_updL f0 (0 : Int32).toNatClampNeg 0)))), (m0, .inr (10, [r0_30, r1_31, r2_32, r3_33, r4_34, r5_35, r6_36, r7_37, r8_38, r9_39, r10_40, r11_41, r12_42, r13_43, r14_44, r15_45, .int 0]))] H := hP
      have hD : va_D A [(ou, .inl (dC 101, 1, .inr (.inl (vp_updL f0 (0 : Int32).toNatClampNeg 0)))), (m0, .inr (10, [r0_30, r1_31, r2_32, r3_33, r4_34, r5_35, r6_36, r7_37, r8_38, r9_39, r10_40, r11_41, r12_42, r13_43, r14_44, r15_45, .int 0]))] := hD
      refine W.widen (k := 404) (n := 120035) (Nat.le_of_ble_eq_true rfl) (Nat.le_of_ble_eq_true rfl) ?_
      refine lv_iload hx hb dM_L_law_1757 (lv_at hl 1 rfl) ?_
      refine lv_icmp_eq (tgt := 1764) hx hb dM_L_law_1759 (by decide) (fun _ => ?_) (fun q => absurd (by decide) q)
      refine lv_iload hx hb dM_L_law_1764 (lv_at hl 1 rfl) ?_
      refine lv_if_ne (tgt := 1781) hx hb dM_L_law_1766 (by decide) (fun q => absurd (by decide) q) (fun _ => ?_)
      refine lv_aload_n hx hb dM_L_law_1769 rfl (lv_at hl 5 rfl) ?_
      refine lv_iconst (v := 0) hx hb dM_L_law_1770 (by decide) ?_
      refine va_lald hx hb hK.1 hP 0 1 rfl rfl (by unfold vp_in; decide) dM_L_law_1771 ?_
      rw [pk_uLs]
      refine lv_iload hx hb dM_L_law_1772 (lv_at hl 0 rfl) ?_
      refine lv_i2l (v := 0) hx hb dM_L_law_1774 (by decide) ?_
      refine W.lcmp hx hb dM_L_law_1775 ?_
      refine lv_topi (fun y_46 ey_46 => ?_)
      obtain rfl : y_46 = 0 := ey_46.trans (by decide)
      refine lv_if_eq (tgt := 1781) hx hb dM_L_law_1776 (by decide) (fun _ => ?_) (fun q => absurd (by decide) q)
      refine lv_goto (tgt := 3410) hx hb dM_L_law_1781 (by decide) ?_
      refine W.widen (k := 600002) (n := 7302232) (Nat.le_of_ble_eq_true rfl) (Nat.le_of_ble_eq_true rfl) ?_
      exact hend _ _ _ hS (lv_sub hl [6, 2] rfl)
    · --
      exact absurd c_4 c_11
  · --
    obtain rfl := hu_6.symm
    obtain ⟨hP1, hD1⟩ := hB
    rw [ht] at hP1
    obtain ⟨hP, hD⟩ := va_join (wr := [(m0, .inr (10, [.ref nw, z1, z2, .int 0, z4, z5, z6, z7, z8, z9, z10, z11, z12, z13, z14, z15, z16])), (nw, .inr (12, [t0, t1, t2, .ref b_types, t4, t5, t6, t7, t8, t9, t10, .int 0, t12, t13, t14, t15, t16, t17, t18, t19, t20, t21])), (b_types, .inl (dC 100, 200, .inl f_types))]) (w1 := [(ou, .inl (dC 101, 1, .inr (.inl f0)))]) hP hD [0, 1, 2, 3, 4, 5, 6, 7] [8, 9, 10] rfl rfl (by decide) (by decide) hk1 hFc hP1 hD1
    generalize H1 = H at hP hS ⊢
    have hP : va_P (dC, dI) classes [(m0, .inr (10, [.ref nw, z1, z2, .int 0, z4, z5, z6, z7, z8, z9, z10, z11, z12, z13, z14, z15, z16])), (nw, .inr (12, [t0, t1, t2, .ref b_types, t4, t5, t6, t7, t8, t9, t10, .int 0, t12, t13, t14, t15, t16, t17, t18, t19, t20, t21])), (b_types, .inl (dC 100, 200, .inl f_types)), (ou, .inl (dC 101, 1, .inr (.inl f0)))] H := hP
    have hD : va_D A [(m0, .inr (10, [.ref nw, z1, z2, .int 0, z4, z5, z6, z7, z8, z9, z10, z11, z12, z13, z14, z15, z16])), (nw, .inr (12, [t0, t1, t2, .ref b_types, t4, t5, t6, t7, t8, t9, t10, .int 0, t12, t13, t14, t15, t16, t17, t18, t19, t20, t21])), (b_types, .inl (dC 100, 200, .inl f_types)), (ou, .inl (dC 101, 1, .inr (.inl f0)))] := hD
    refine W.widen (k := 404) (n := 120035) (Nat.le_of_ble_eq_true rfl) (Nat.le_of_ble_eq_true rfl) ?_
    refine lv_istore (lv' := [(5, .int 1), (0, .ref b), (1, .ref h0), (2, .ref m0), (3, .ref ou), (4, .int 0)]) hx hb dM_L_law_1739 hl (by decide) rfl (fun ls hl => ?_)
    refine lv_aload_n hx hb dM_L_law_1741 rfl (lv_at hl 3 rfl) ?_
    refine lv_aload_n hx hb dM_L_law_1742 rfl (lv_at hl 1 rfl) ?_
    refine lv_iload hx hb dM_L_law_1743 (lv_at hl 5 rfl) ?_
    refine lv_iconst (v := 1) hx hb dM_L_law_1745 (by decide) ?_
    refine lv_iadd hx hb dM_L_law_1746 ?_
    refine lv_topi (fun y_47 ey_47 => ?_)
    obtain rfl : y_47 = 1 := ey_47.trans (by decide)
    refine va_sld hx hb hX hbl hbA hS (by unfold vp_in; decide) dM_L_law_1747 ?_
    refine lv_topi (fun y_48 ey_48 => ?_)
    obtain rfl : y_2 = y_48 := ey_2.trans ey_48.symm
    have hFc := va_free (wc := [(m0, .inr (10, [.ref nw, z1, z2, .int 0, z4, z5, z6, z7, z8, z9, z10, z11, z12, z13, z14, z15, z16])), (nw, .inr (12, [t0, t1, t2, .ref b_types, t4, t5, t6, t7, t8, t9, t10, .int 0, t12, t13, t14, t15, t16, t17, t18, t19, t20, t21])), (b_types, .inl (dC 100, 200, .inl f_types))]) hD hS hA [0, 1, 2] rfl
    refine va_calli (va_runV (As := [.int y_2]) (rest := []) ⟨hx, hb, hml, hown, hbg⟩ (c_M_setWay l dC dI m0 y_2 nw z1 z2 z4 z5 z6 z7 z8 z9 z10 z11 z12 z13 z14 z15 z16 t0 t1 t2 b_types t4 t5 t6 t7 t8 t9 t10 t12 t13 t14 t15 t16 t17 t18 t19 t20 t21 f_types _ (hty)) (cwV 1 hbg (gd_V (fun _ h => h) wd_2679 wd_2680 wd_2681 wd_12 (gd_wm (fun _ h => h) wd_2682)) rfl rfl rfl (by decide +kernel) ⟨Nat.le_of_ble_eq_true rfl, Nat.le_of_ble_eq_true rfl⟩) (nPreV [0, 1, 2] hP hD hK hN hS hA (by decide) rfl 0 rfl rfl) rfl rfl hl.1 rfl (lv_room (Nat.le_of_ble_eq_true rfl)) dM_L_law_1748 ⟨Nat.le_of_ble_eq_true rfl, Nat.le_of_ble_eq_true rfl⟩) hS (fun q _ h => hFc q h) hFc (fun r_49 u t H1 locs ht hvm hw hB hz1 hk1 hS => ?_)
    rcases hw with ⟨c_50, rfl, rfl⟩ | ⟨c_51, rfl, rfl⟩
    · --
      exact absurd c_50 c_5
    · --
      obtain ⟨r0_52, r1_53, r2_54, r3_55, r4_56, r5_57, r6_58, r7_59, r8_60, r9_61, r10_62, r11_63, r12_64, r13_65, r14_66, r15_67, hP1, hD1⟩ := hB
      rw [ht] at hP1
      obtain ⟨hP, hD⟩ := va_join (wr := [(ou, .inl (dC 101, 1, .inr (.inl f0)))]) (w1 := [(m0, .inr (10, [r0_52, r1_53, r2_54, r3_55, r4_56, r5_57, r6_58, r7_59, r8_60, r9_61, r10_62, r11_63, r12_64, r13_65, r14_66, r15_67, .int 1]))]) hP hD [0, 1, 2] [3] rfl rfl (by decide) (by decide) hk1 hFc hP1 hD1
      generalize H1 = H at hP hS ⊢
      have hP : va_P (dC, dI) classes [(ou, .inl (dC 101, 1, .inr (.inl f0))), (m0, .inr (10, [r0_52, r1_53, r2_54, r3_55, r4_56, r5_57, r6_58, r7_59, r8_60, r9_61, r10_62, r11_63, r12_64, r13_65, r14_66, r15_67, .int 1]))] H := hP
      have hD : va_D A [(ou, .inl (dC 101, 1, .inr (.inl f0))), (m0, .inr (10, [r0_52, r1_53, r2_54, r3_55, r4_56, r5_57, r6_58, r7_59, r8_60, r9_61, r10_62, r11_63, r12_64, r13_65, r14_66, r15_67, .int 1]))] := hD
      refine W.widen (k := 404) (n := 120035) (Nat.le_of_ble_eq_true rfl) (Nat.le_of_ble_eq_true rfl) ?_
      refine lv_istore (lv' := [(6, .int 0), (5, .int 1), (0, .ref b), (1, .ref h0), (2, .ref m0), (3, .ref ou), (4, .int 0)]) hx hb dM_L_law_1751 hl (by decide) rfl (fun ls hl => ?_)
      refine lv_aload_n hx hb dM_L_law_1753 rfl (lv_at hl 4 rfl) ?_
      have hFc := va_free (wc := [(m0, .inr (10, [r0_52, r1_53, r2_54, r3_55, r4_56, r5_57, r6_58, r7_59, r8_60, r9_61, r10_62, r11_63, r12_64, r13_65, r14_66, r15_67, .int 1]))]) hD hS hA [1] rfl
      refine va_calli (va_runV (As := []) (rest := []) ⟨hx, hb, hml, hown, hbg⟩ (c_M_thrown l dC dI m0 r0_52 r1_53 r2_54 r3_55 r4_56 r5_57 r6_58 r7_59 r8_60 r9_61 r10_62 r11_63 r12_64 r13_65 r14_66 r15_67 1 _ ) (cwV 0 hbg (gd_V (fun _ h => h) wd_2190 wd_2191 wd_2192 wd_12 (gd_wm (fun _ h => h) wd_2193)) rfl rfl rfl (by decide +kernel) ⟨Nat.le_of_ble_eq_true rfl, Nat.le_of_ble_eq_true rfl⟩) (nPreV [1] hP hD hK hN hS hA (by decide) rfl 1 rfl rfl) rfl rfl hl.1 rfl (lv_room (Nat.le_of_ble_eq_true rfl)) dM_L_law_1754 ⟨Nat.le_of_ble_eq_true rfl, Nat.le_of_ble_eq_true rfl⟩) hS (fun q _ h => hFc q h) hFc (fun r_68 u t H1 locs ht hvm hw hB hz1 hk1 hS => ?_)
      obtain ⟨rfl, rfl⟩ := hw
      obtain ⟨r0_70, r1_71, r2_72, r3_73, r4_74, r5_75, r6_76, r7_77, r8_78, r9_79, r10_80, r11_81, r12_82, r13_83, r14_84, r15_85, hP1, hD1⟩ := hB
      rw [ht] at hP1
      obtain ⟨hP, hD⟩ := va_join (wr := [(ou, .inl (dC 101, 1, .inr (.inl f0)))]) (w1 := [(m0, .inr (10, [r0_70, r1_71, r2_72, r3_73, r4_74, r5_75, r6_76, r7_77, r8_78, r9_79, r10_80, r11_81, r12_82, r13_83, r14_84, r15_85, .int 1]))]) hP hD [1] [0] rfl rfl (by decide) (by decide) hk1 hFc hP1 hD1
      generalize H1 = H at hP hS ⊢
      have hP : va_P (dC, dI) classes [(ou, .inl (dC 101, 1, .inr (.inl f0))), (m0, .inr (10, [r0_70, r1_71, r2_72, r3_73, r4_74, r5_75, r6_76, r7_77, r8_78, r9_79, r10_80, r11_81, r12_82, r13_83, r14_84, r15_85, .int 1]))] H := hP
      have hD : va_D A [(ou, .inl (dC 101, 1, .inr (.inl f0))), (m0, .inr (10, [r0_70, r1_71, r2_72, r3_73, r4_74, r5_75, r6_76, r7_77, r8_78, r9_79, r10_80, r11_81, r12_82, r13_83, r14_84, r15_85, .int 1]))] := hD
      refine W.widen (k := 404) (n := 120035) (Nat.le_of_ble_eq_true rfl) (Nat.le_of_ble_eq_true rfl) ?_
      refine lv_iload hx hb dM_L_law_1757 (lv_at hl 1 rfl) ?_
      refine lv_icmp_eq (tgt := 1764) hx hb dM_L_law_1759 (by decide) (fun _ => ?_) (fun q => absurd (by decide) q)
      refine lv_iload hx hb dM_L_law_1764 (lv_at hl 1 rfl) ?_
      refine lv_if_ne (tgt := 1781) hx hb dM_L_law_1766 (by decide) (fun _ => ?_) (fun q => absurd q (by decide))
      refine lv_goto (tgt := 3410) hx hb dM_L_law_1781 (by decide) ?_
      refine W.widen (k := 600002) (n := 7302232) (Nat.le_of_ble_eq_true rfl) (Nat.le_of_ble_eq_true rfl) ?_
      exact hend _ _ _ hS (lv_sub hl [6, 2] rfl)
set_option maxHeartbeats 4000000 in
set_option maxRecDepth 100000 in
theorem lawc_21 {p : Program} {e : Env} {s : State} {m : MethodId} {below : List Frame} {meth : Method} {c : Code} {Z : State → Prop} (l : Launch) (hl9 : l.stackTraces = false) (dC : Nat → ClassId) (dI : Nat → Nat → Nat) {A : Nat → Prop} {b L : Nat} {xs : Nat → Int32} (hL : L = 8) (hx : p.tables.exec = Jvm.exec) (hb : c.code = cM_L_law) (hml : c.maxLocals = 8) (hown : s.vm.findClass "NoteDocumentLaw" = some m.cls) (hbg : ∀ w ∈ BIG, w.before #[Value.ref b] s = true) (hK : nK (dC, dI) s) (hN : nS A s s.heap) (hA : ∀ q : Nat, s.heap.size ≤ q → A q) (hX : va_X b L xs s s.heap) (hbl : b < s.heap.size) (hbA : ¬ A b) {H : Heap} {locs : List Loc} {ls : Array Slot} {h0 : Nat} {m0 : Nat} {ou : Nat} {st : Nat} {no : Nat} {ch : Nat} {he : Nat} {de : Nat} {fi : Nat} {v6 : Value} {kp : Nat} {aw : Nat} {gw : Nat → Int64} {ac_cell : Nat} {ac_behind : Nat} {ac_size : Nat} {ac_nextLikely : Nat} {ac_firstLikely : Nat} {gc : Nat → Int32} {a_columns : Nat} {a_rows : Nat} {a_content : Nat} {a_held : Nat} {a_other : Nat} {a_named : Nat} {a_body : Nat} {a_parts : Nat} {a_partCount : Nat} {a_refRow : Nat} {a_refColumn : Nat} {a_refToRow : Nat} {a_torn : Nat} {a_record : Nat} {g_content : Nat → Int64} {z0 : Value} {fz1 : Value} {fz2 : Value} {fz3 : Value} {z4 : Value} {fz5 : Value} {fz6 : Value} {fz7 : Value} {fz8 : Value} {fz9 : Value} {fz12 : Value} {fz13 : Value} {nw : Nat} {z1 : Value} {z2 : Value} {z3 : Value} {z5 : Value} {z6 : Value} {z7 : Value} {z8 : Value} {z9 : Value} {z10 : Value} {z11 : Value} {z12 : Value} {z13 : Value} {z14 : Value} {z15 : Value} {z16 : Value} {t0 : Value} {t1 : Value} {t2 : Value} {b_types : Nat} {t4 : Value} {t5 : Value} {t6 : Value} {t7 : Value} {t8 : Value} {t9 : Value} {t10 : Value} {t12 : Value} {t13 : Value} {t14 : Value} {t15 : Value} {t16 : Value} {t17 : Value} {t18 : Value} {t19 : Value} {t20 : Value} {t21 : Value} {f_types : Nat → Int32} (hP : va_P (dC, dI) classes [(h0, .inr (0, [.ref st, .ref no, .ref ch, .ref he, .ref de, .ref fi, v6, .ref kp, .int 0, .int 0, .int 0])), (he, .inr (4, [.ref aw, .int 1])), (aw, .inl (dC 101, 8192, .inr (.inl gw))), (ch, .inr (1, [.ref ac_cell, .ref ac_behind, .ref ac_size, .ref ac_nextLikely, .ref ac_firstLikely, .int (nI (200 + 1))])), (ac_cell, .inl (dC 100, 512, .inl gc)), (st, .inr (8, [.int 0, .int 0, .int 0, .ref a_columns, .ref a_rows, .ref a_content, .ref a_held, .ref a_other, .ref a_named, .ref a_body, .ref a_parts, .ref a_partCount, .ref a_refRow, .ref a_refColumn, .ref a_refToRow, .ref a_torn, .ref a_record, .int 0, .int 0, .int 0])), (a_content, .inl (dC 101, 200, .inr (.inl g_content))), (fi, .inr (3, [z0, fz1, fz2, fz3, z4, fz5, fz6, fz7, fz8, fz9, .int 0, .int 0, fz12, fz13])), (m0, .inr (10, [.ref nw, z1, z2, z3, .int 0, z5, z6, z7, z8, z9, z10, z11, z12, z13, z14, z15, z16])), (nw, .inr (12, [t0, t1, t2, .ref b_types, t4, t5, t6, t7, t8, t9, t10, .int 0, t12, t13, t14, t15, t16, t17, t18, t19, t20, t21])), (b_types, .inl (dC 100, 200, .inl f_types))] H) (hD : va_D A [(h0, .inr (0, [.ref st, .ref no, .ref ch, .ref he, .ref de, .ref fi, v6, .ref kp, .int 0, .int 0, .int 0])), (he, .inr (4, [.ref aw, .int 1])), (aw, .inl (dC 101, 8192, .inr (.inl gw))), (ch, .inr (1, [.ref ac_cell, .ref ac_behind, .ref ac_size, .ref ac_nextLikely, .ref ac_firstLikely, .int (nI (200 + 1))])), (ac_cell, .inl (dC 100, 512, .inl gc)), (st, .inr (8, [.int 0, .int 0, .int 0, .ref a_columns, .ref a_rows, .ref a_content, .ref a_held, .ref a_other, .ref a_named, .ref a_body, .ref a_parts, .ref a_partCount, .ref a_refRow, .ref a_refColumn, .ref a_refToRow, .ref a_torn, .ref a_record, .int 0, .int 0, .int 0])), (a_content, .inl (dC 101, 200, .inr (.inl g_content))), (fi, .inr (3, [z0, fz1, fz2, fz3, z4, fz5, fz6, fz7, fz8, fz9, .int 0, .int 0, fz12, fz13])), (m0, .inr (10, [.ref nw, z1, z2, z3, .int 0, z5, z6, z7, z8, z9, z10, z11, z12, z13, z14, z15, z16])), (nw, .inr (12, [t0, t1, t2, .ref b_types, t4, t5, t6, t7, t8, t9, t10, .int 0, t12, t13, t14, t15, t16, t17, t18, t19, t20, t21])), (b_types, .inl (dC 100, 200, .inl f_types))]) (hS : va_S A s.heap H locs) (hl : lv_has ls 8 [(0, .ref b), (1, .ref h0), (2, .ref m0), (3, .ref ou), (4, .int 0)]) (hcont : ∀ j, j < 200 → g_content j = 1125899906842624) (hty : ∀ j, j < 200 → f_types j = 0) (hend : ∀ (H : Heap) (locs : List Loc) (ls : Array Slot), va_S A s.heap H locs → lv_has ls 8 [(4, .int 0), (0, .ref b)] → W p l e room_1 s m #[Value.ref b] below meth c H locs 600002 7302232 Z (F0 m 3410 ls [])) : W p l e room_1 s m #[Value.ref b] below meth c H locs 403 120029 Z (F0 m 1784 ls []) := by
  subst hL
  refine lv_aload_n hx hb dM_L_law_1784 rfl (lv_at hl 1 rfl) ?_
  have hFc := va_free (wc := [(h0, .inr (0, [.ref st, .ref no, .ref ch, .ref he, .ref de, .ref fi, v6, .ref kp, .int 0, .int 0, .int 0])), (he, .inr (4, [.ref aw, .int 1])), (aw, .inl (dC 101, 8192, .inr (.inl gw))), (ch, .inr (1, [.ref ac_cell, .ref ac_behind, .ref ac_size, .ref ac_nextLikely, .ref ac_firstLikely, .int (nI (200 + 1))])), (ac_cell, .inl (dC 100, 512, .inl gc)), (st, .inr (8, [.int 0, .int 0, .int 0, .ref a_columns, .ref a_rows, .ref a_content, .ref a_held, .ref a_other, .ref a_named, .ref a_body, .ref a_parts, .ref a_partCount, .ref a_refRow, .ref a_refColumn, .ref a_refToRow, .ref a_torn, .ref a_record, .int 0, .int 0, .int 0])), (a_content, .inl (dC 101, 200, .inr (.inl g_content))), (fi, .inr (3, [z0, fz1, fz2, fz3, z4, fz5, fz6, fz7, fz8, fz9, .int 0, .int 0, fz12, fz13]))]) hD hS hA [0, 1, 2, 3, 4, 5, 6, 7] rfl
  refine va_calli (va_runV (As := []) (rest := []) ⟨hx, hb, hml, hown, hbg⟩ (c_D_calculate l dC dI h0 st no ch he de fi v6 kp aw gw ac_cell ac_behind ac_size ac_nextLikely ac_firstLikely gc a_columns a_rows a_content a_held a_other a_named a_body a_parts a_partCount a_refRow a_refColumn a_refToRow a_torn a_record g_content z0 fz1 fz2 fz3 z4 fz5 fz6 fz7 fz8 fz9 fz12 fz13 _ (hcont)) (cwV 0 hbg (gd_V (fun _ h => h) wd_498 wd_499 wd_500 wd_1 (gd_wm (fun _ h => h) wd_501)) rfl rfl rfl (by decide +kernel) ⟨Nat.le_of_ble_eq_true rfl, Nat.le_of_ble_eq_true rfl⟩) (nPreV [0, 1, 2, 3, 4, 5, 6, 7] hP hD hK hN hS hA (by decide) rfl 0 rfl rfl) rfl rfl hl.1 rfl (lv_room (Nat.le_of_ble_eq_true rfl)) dM_L_law_1785 ⟨Nat.le_of_ble_eq_true rfl, Nat.le_of_ble_eq_true rfl⟩) hS (fun q _ h => hFc q h) hFc (fun r_1 u t H1 locs ht hvm hw hB hz1 hk1 hS => ?_)
  obtain rfl := hw
  obtain ⟨hP, hD⟩ := va_join (wr := [(m0, .inr (10, [.ref nw, z1, z2, z3, .int 0, z5, z6, z7, z8, z9, z10, z11, z12, z13, z14, z15, z16])), (nw, .inr (12, [t0, t1, t2, .ref b_types, t4, t5, t6, t7, t8, t9, t10, .int 0, t12, t13, t14, t15, t16, t17, t18, t19, t20, t21])), (b_types, .inl (dC 100, 200, .inl f_types))]) (w1 := []) hP hD [0, 1, 2, 3, 4, 5, 6, 7] [8, 9, 10] rfl rfl (by decide) (by decide) hk1 hFc nP0 nD0
  generalize H1 = H at hP hS ⊢
  have hP : va_P (dC, dI) classes [(m0, .inr (10, [.ref nw, z1, z2, z3, .int 0, z5, z6, z7, z8, z9, z10, z11, z12, z13, z14, z15, z16])), (nw, .inr (12, [t0, t1, t2, .ref b_types, t4, t5, t6, t7, t8, t9, t10, .int 0, t12, t13, t14, t15, t16, t17, t18, t19, t20, t21])), (b_types, .inl (dC 100, 200, .inl f_types))] H := hP
  have hD : va_D A [(m0, .inr (10, [.ref nw, z1, z2, z3, .int 0, z5, z6, z7, z8, z9, z10, z11, z12, z13, z14, z15, z16])), (nw, .inr (12, [t0, t1, t2, .ref b_types, t4, t5, t6, t7, t8, t9, t10, .int 0, t12, t13, t14, t15, t16, t17, t18, t19, t20, t21])), (b_types, .inl (dC 100, 200, .inl f_types))] := hD
  refine W.widen (k := 403) (n := 120029) (Nat.le_of_ble_eq_true rfl) (Nat.le_of_ble_eq_true rfl) ?_
  refine lv_aload_n hx hb dM_L_law_1788 rfl (lv_at hl 2 rfl) ?_
  have hFc := va_free (wc := [(m0, .inr (10, [.ref nw, z1, z2, z3, .int 0, z5, z6, z7, z8, z9, z10, z11, z12, z13, z14, z15, z16])), (nw, .inr (12, [t0, t1, t2, .ref b_types, t4, t5, t6, t7, t8, t9, t10, .int 0, t12, t13, t14, t15, t16, t17, t18, t19, t20, t21])), (b_types, .inl (dC 100, 200, .inl f_types))]) hD hS hA [0, 1, 2] rfl
  refine va_calli (va_runV (As := []) (rest := [.int 0]) ⟨hx, hb, hml, hown, hbg⟩ (c_M_calculate l dC dI m0 nw z1 z2 z3 z5 z6 z7 z8 z9 z10 z11 z12 z13 z14 z15 z16 t0 t1 t2 b_types t4 t5 t6 t7 t8 t9 t10 t12 t13 t14 t15 t16 t17 t18 t19 t20 t21 f_types _ (hty)) (cwV 0 hbg (gd_V (fun _ h => h) wd_2683 wd_2684 wd_2685 wd_12 (gd_wm (fun _ h => h) wd_2686)) rfl rfl rfl (by decide +kernel) ⟨Nat.le_of_ble_eq_true rfl, Nat.le_of_ble_eq_true rfl⟩) (nPreV [0, 1, 2] hP hD hK hN hS hA (by decide) rfl 0 rfl rfl) rfl rfl hl.1 rfl (lv_room (Nat.le_of_ble_eq_true rfl)) dM_L_law_1789 ⟨Nat.le_of_ble_eq_true rfl, Nat.le_of_ble_eq_true rfl⟩) hS (fun q _ h => hFc q h) hFc (fun r_3 u t H1 locs ht hvm hw hB hz1 hk1 hS => ?_)
  obtain ⟨rfl, rfl⟩ := hw
  obtain ⟨r0_5, r1_6, r2_7, r3_8, r4_9, r5_10, r6_11, r7_12, r8_13, r9_14, r10_15, r11_16, r12_17, r13_18, r14_19, r15_20, hP1, hD1⟩ := hB
  rw [ht] at hP1
  obtain ⟨hP, hD⟩ := va_join (wr := []) (w1 := [(m0, .inr (10, [r0_5, r1_6, r2_7, r3_8, r4_9, r5_10, r6_11, r7_12, r8_13, r9_14, r10_15, r11_16, r12_17, r13_18, r14_19, r15_20, .int 0]))]) hP hD [0, 1, 2] [] rfl rfl (by decide) (by decide) hk1 hFc hP1 hD1
  generalize H1 = H at hP hS ⊢
  have hP : va_P (dC, dI) classes [(m0, .inr (10, [r0_5, r1_6, r2_7, r3_8, r4_9, r5_10, r6_11, r7_12, r8_13, r9_14, r10_15, r11_16, r12_17, r13_18, r14_19, r15_20, .int 0]))] H := hP
  have hD : va_D A [(m0, .inr (10, [r0_5, r1_6, r2_7, r3_8, r4_9, r5_10, r6_11, r7_12, r8_13, r9_14, r10_15, r11_16, r12_17, r13_18, r14_19, r15_20, .int 0]))] := hD
  refine W.widen (k := 403) (n := 120029) (Nat.le_of_ble_eq_true rfl) (Nat.le_of_ble_eq_true rfl) ?_
  refine lv_icmp_eq (tgt := 3410) hx hb dM_L_law_1792 (by decide) (fun _ => ?_) (fun q => absurd (by decide) q)
  refine W.widen (k := 600002) (n := 7302232) (Nat.le_of_ble_eq_true rfl) (Nat.le_of_ble_eq_true rfl) ?_
  exact hend _ _ _ hS (lv_sub hl [4, 0] rfl)
