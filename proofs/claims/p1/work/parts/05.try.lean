abbrev cM_D_checkGrid : ByteArray := prog_1_method_45_code
def yM_D_checkGrid : MethodName := ⟨"NoteDocument", "checkGrid", "(I)V"⟩
theorem dM_D_checkGrid_0 : decode cM_D_checkGrid 0 = .ok (.iload_n 1, 1) := by decide +kernel
theorem dM_D_checkGrid_1 : decode cM_D_checkGrid 1 = .ok (.ifCond .lt 14, 3) := by decide +kernel
theorem dM_D_checkGrid_15 : decode cM_D_checkGrid 15 = .ok (.new 314, 3) := by decide +kernel
theorem at_D_IOB_318 : ∀ w ∈ vx_atS "NoteDocument" 318 "java/lang/IndexOutOfBoundsException" ["java/lang/RuntimeException", "java/lang/Exception"], w ∈ BIG ∨ w ∈ XW := n_at (by decide +kernel)
theorem wd_1126 : (Jvm.Cond.classLink "NoteDocument" (314 : Nat) "java/lang/IndexOutOfBoundsException") ∈ BIG := big_t (List.mem_of_getElem? (i := 1126) (by decide +kernel)) (by decide +kernel)
theorem wd_20 : (Jvm.Cond.initialized "java/lang/IndexOutOfBoundsException") ∈ BIG := big_t (List.mem_of_getElem? (i := 20) (by decide +kernel)) (by decide +kernel)
theorem dM_D_checkGrid_18 : decode cM_D_checkGrid 18 = .ok (.dup, 1) := by decide +kernel
theorem dM_D_checkGrid_19 : decode cM_D_checkGrid 19 = .ok (.ldc_w 394, 3) := by decide +kernel
theorem dM_D_checkGrid_22 : decode cM_D_checkGrid 22 = .ok (.invokespecial 318, 3) := by decide +kernel
theorem dM_D_checkGrid_25 : decode cM_D_checkGrid 25 = .ok (.athrow, 1) := by decide +kernel
theorem dM_D_checkGrid_4 : decode cM_D_checkGrid 4 = .ok (.iload_n 1, 1) := by decide +kernel
theorem dM_D_checkGrid_5 : decode cM_D_checkGrid 5 = .ok (.aload_n 0, 1) := by decide +kernel
theorem dM_D_checkGrid_6 : decode cM_D_checkGrid 6 = .ok (.getfield 12, 3) := by decide +kernel
theorem wd_460 : (Jvm.Cond.fieldLink "NoteDocument" (12 : Nat) "NoteDocument" "state" "LNoteDocument$State;") ∈ BIG := big_t (List.mem_of_getElem? (i := 460) (by decide +kernel)) (by decide +kernel)
theorem dM_D_checkGrid_9 : decode cM_D_checkGrid 9 = .ok (.getfield 86, 3) := by decide +kernel
theorem wd_59 : (Jvm.Cond.fieldLink "NoteDocument" (86 : Nat) "NoteDocument$State" "grids" "I") ∈ BIG := big_t (List.mem_of_getElem? (i := 59) (by decide +kernel)) (by decide +kernel)
theorem dM_D_checkGrid_12 : decode cM_D_checkGrid 12 = .ok (.if_icmp .lt 14, 3) := by decide +kernel
abbrev cM_D_rows : ByteArray := prog_1_method_3_code
def yM_D_rows : MethodName := ⟨"NoteDocument", "rows", "(I)I"⟩
theorem dM_D_rows_0 : decode cM_D_rows 0 = .ok (.aload_n 0, 1) := by decide +kernel
theorem dM_D_rows_1 : decode cM_D_rows 1 = .ok (.iload_n 1, 1) := by decide +kernel
theorem dM_D_rows_2 : decode cM_D_rows 2 = .ok (.invokevirtual 101, 3) := by decide +kernel
theorem wd_1125 : (Jvm.Cond.code ({ cls := "NoteDocument", name := "checkGrid", desc := "(I)V" } : Jvm.MethodName) prog_1_method_45_code (2 : Nat) (Option.none : Option Jvm.ClassFile.FieldType)) ∈ BIG := big_t (List.mem_of_getElem? (i := 1125) (by decide +kernel)) (by decide +kernel)
theorem wd_1 : (Jvm.Cond.initialized "NoteDocument") ∈ BIG := big_t (List.mem_of_getElem? (i := 1) (by decide +kernel)) (by decide +kernel)
theorem wd_1122 : (Jvm.Cond.methodLink "NoteDocument" (101 : Nat) ({ cls := "NoteDocument", name := "checkGrid", desc := "(I)V" } : Jvm.MethodName)) ∈ BIG := big_t (List.mem_of_getElem? (i := 1122) (by decide +kernel)) (by decide +kernel)
theorem wd_1124 : (Jvm.Cond.instanceMethod ({ cls := "NoteDocument", name := "checkGrid", desc := "(I)V" } : Jvm.MethodName)) ∈ BIG := big_t (List.mem_of_getElem? (i := 1124) (by decide +kernel)) (by decide +kernel)
theorem ws_34 : (Jvm.Cond.selects "NoteDocument" ({ cls := "NoteDocument", name := "checkGrid", desc := "(I)V" } : Jvm.MethodName) ({ cls := "NoteDocument", name := "checkGrid", desc := "(I)V" } : Jvm.MethodName)) ∈ BIG := big_s (List.mem_of_getElem? (i := 34) (by decide +kernel)) (by decide +kernel)
set_option maxHeartbeats 4000000 in
set_option maxRecDepth 100000 in
theorem c_checkGrid (l : Launch) (hl9 : l.stackTraces = false) (dC : Nat → ClassId) (dI : Nat → Nat → Nat) (h0 : Nat) (st : Nat) (v1 : Value) (v2 : Value) (v3 : Value) (v4 : Value) (v5 : Value) (v6 : Value) (v7 : Value) (v8 : Value) (v9 : Value) (v10 : Value) (w1 : Value) (w2 : Value) (w3 : Value) (w4 : Value) (w5 : Value) (w6 : Value) (w7 : Value) (w8 : Value) (w9 : Value) (w10 : Value) (w11 : Value) (w12 : Value) (w13 : Value) (w14 : Value) (w15 : Value) (w16 : Value) (w17 : Value) (w18 : Value) (w19 : Value) (p0 : Int32) (sz : Nat) : vx_Met l yM_D_checkGrid (wm yM_D_checkGrid cM_D_checkGrid 2 none) ({ frames := 40, cells := 1, slots := 6, locals := 800 }) (nPc [.ref h0, .int p0] (dC, dI) [(h0, .inr (0, [.ref st, v1, v2, v3, v4, v5, v6, v7, v8, v9, v10])), (st, .inr (8, [.int 0, w1, w2, w3, w4, w5, w6, w7, w8, w9, w10, w11, w12, w13, w14, w15, w16, w17, w18, w19]))] sz) (va_Qv (fun (_ : Unit) => False) (fun (_ : Unit) t => True) (va_A [(h0, .inr (0, [.ref st, v1, v2, v3, v4, v5, v6, v7, v8, v9, v10])), (st, .inr (8, [.int 0, w1, w2, w3, w4, w5, w6, w7, w8, w9, w10, w11, w12, w13, w14, w15, w16, w17, w18, w19]))] sz)) (vx_X (fun (_ : Unit) => True) (fun E (_ : Unit) _ => E = "java/lang/IndexOutOfBoundsException") (va_A [(h0, .inr (0, [.ref st, v1, v2, v3, v4, v5, v6, v7, v8, v9, v10])), (st, .inr (8, [.int 0, w1, w2, w3, w4, w5, w6, w7, w8, w9, w10, w11, w12, w13, w14, w15, w16, w17, w18, w19]))] sz)) 1 6 (va_A [(h0, .inr (0, [.ref st, v1, v2, v3, v4, v5, v6, v7, v8, v9, v10])), (st, .inr (8, [.int 0, w1, w2, w3, w4, w5, w6, w7, w8, w9, w10, w11, w12, w13, w14, w15, w16, w17, w18, w19]))] sz) := by
  refine vx_ofW (cc := cM_D_checkGrid) (maxL := 2) (ret := none) (by decide) rfl ?_
  intro p e s m args below meth c s₁ B hml hEx hv
  obtain ⟨rfl, hsz, hP, hD0, hK, hN⟩ := hv
  have hx := B.exec
  have hb := B.bytes
  have hr := B.returns
  have hbg : ∀ w ∈ BIG, w.before ([.ref h0, .int p0] : List Value).toArray s = true := fun w h => atoms_spec (ws := (wm yM_D_checkGrid cM_D_checkGrid 2 none)) B.pre w (List.mem_cons_of_mem _ h)
  have hown : s.vm.findClass "NoteDocument" = some m.cls := findClass_of_methodNamed B.named
  have hlocks := B.notSynchronized
  subst hsz
  have hD := hD0.self (sz := s.heap.size)
  generalize hAe : va_A [(h0, .inr (0, [.ref st, v1, v2, v3, v4, v5, v6, v7, v8, v9, v10])), (st, .inr (8, [.int 0, w1, w2, w3, w4, w5, w6, w7, w8, w9, w10, w11, w12, w13, w14, w15, w16, w17, w18, w19]))] s.heap.size = A at hD hN ⊢
  have hA : ∀ q : Nat, s.heap.size ≤ q → A q := fun q h => by rw [← hAe]; exact Or.inr h
  have hS : va_S A s.heap s.heap [] := va_S.rf
  have hP : va_P (dC, dI) classes [(h0, .inr (0, [.ref st, v1, v2, v3, v4, v5, v6, v7, v8, v9, v10])), (st, .inr (8, [.int 0, w1, w2, w3, w4, w5, w6, w7, w8, w9, w10, w11, w12, w13, w14, w15, w16, w17, w18, w19]))] s.heap := hP
  have hl := lv_entry ([.ref h0, .int p0] : List Value) (n := 2) (Nat.le_of_ble_eq_true rfl)
  rw [lg_entry_eq]
  generalize (lg_sl ([.ref h0, .int p0] : List Value) ++ List.replicate (2 - (lg_sl ([.ref h0, .int p0] : List Value)).length) Slot.unset).toArray = ls at hl ⊢
  have hl : lv_has ls 2 [(0, .ref h0), (1, .int p0)] := hl
  refine lv_iload_n hx hb dM_D_checkGrid_0 rfl (lv_at hl 1 rfl) ?_
  refine lv_if_lt (tgt := 15) hx hb dM_D_checkGrid_1 (by decide) (fun c_1 => ?_) (fun c_1 => ?_)
  · --
    obtain ⟨sa_2, hsa_2⟩ := hK.2.2.1 ("NoteDocument", 394, "no such grid") (by decide +kernel)
    exact vx_throwSW (names := ["java/lang/RuntimeException", "java/lang/Exception"]) hx hb hl9 hown (by decide +kernel) (by decide +kernel) (hbg _ wd_1126) (hbg _ wd_20) hsa_2 (n_hat at_D_IOB_318 hbg hK.2.1) (n_hgood wd_1126 wd_20 at_D_IOB_318) hN.1 hN.2 hS (by rw [hml]; exact hl.1) dM_D_checkGrid_15 dM_D_checkGrid_18 dM_D_checkGrid_19 dM_D_checkGrid_22 dM_D_checkGrid_25 (fun x hx9 => (hEx x hx9).elim) (Nat.le_of_ble_eq_true rfl) (Nat.le_of_ble_eq_true rfl) (Nat.le_of_ble_eq_true rfl) (Nat.le_of_ble_eq_true rfl) hlocks (fun t hvm9 hz9 hk9 => ⟨(), trivial, rfl, n_F hS hz9 hk9⟩) hS.2.2 (Nat.le_of_ble_eq_true rfl) (Nat.le_of_ble_eq_true rfl)
  · --
    refine lv_iload_n hx hb dM_D_checkGrid_4 rfl (lv_at hl 1 rfl) ?_
    refine lv_aload_n hx hb dM_D_checkGrid_5 rfl (lv_at hl 0 rfl) ?_
    refine va_get (D := (dC, dI)) (ci := 0) (v := .ref st) (C := rC_D) (T := fC_D) (N := 11) hx hb hbg iC_D hown hK.1 hP 0 rfl rfl 0 (by decide) (hbg _ wd_460) (fun _ h9 => h9) rfl dM_D_checkGrid_6 ?_
    refine va_get (D := (dC, dI)) (ci := 8) (v := .int 0) (C := rC_S) (T := fC_S) (N := 20) hx hb hbg iC_S hown hK.1 hP 1 rfl rfl 0 (by decide) (hbg _ wd_59) (fun _ h9 => h9) rfl dM_D_checkGrid_9 ?_
    refine lv_icmp_lt (tgt := 26) hx hb dM_D_checkGrid_12 (by decide) (fun q => absurd q c_1) (fun _ => ?_)
    obtain ⟨sa_4, hsa_4⟩ := hK.2.2.1 ("NoteDocument", 394, "no such grid") (by decide +kernel)
    exact vx_throwSW (names := ["java/lang/RuntimeException", "java/lang/Exception"]) hx hb hl9 hown (by decide +kernel) (by decide +kernel) (hbg _ wd_1126) (hbg _ wd_20) hsa_4 (n_hat at_D_IOB_318 hbg hK.2.1) (n_hgood wd_1126 wd_20 at_D_IOB_318) hN.1 hN.2 hS (by rw [hml]; exact hl.1) dM_D_checkGrid_15 dM_D_checkGrid_18 dM_D_checkGrid_19 dM_D_checkGrid_22 dM_D_checkGrid_25 (fun x hx9 => (hEx x hx9).elim) (Nat.le_of_ble_eq_true rfl) (Nat.le_of_ble_eq_true rfl) (Nat.le_of_ble_eq_true rfl) (Nat.le_of_ble_eq_true rfl) hlocks (fun t hvm9 hz9 hk9 => ⟨(), trivial, rfl, n_F hS hz9 hk9⟩) hS.2.2 (Nat.le_of_ble_eq_true rfl) (Nat.le_of_ble_eq_true rfl)
set_option maxHeartbeats 4000000 in
set_option maxRecDepth 100000 in
theorem c_rows (l : Launch) (hl9 : l.stackTraces = false) (dC : Nat → ClassId) (dI : Nat → Nat → Nat) (h0 : Nat) (st : Nat) (v1 : Value) (v2 : Value) (v3 : Value) (v4 : Value) (v5 : Value) (v6 : Value) (v7 : Value) (v8 : Value) (v9 : Value) (v10 : Value) (w1 : Value) (w2 : Value) (w3 : Value) (w4 : Value) (w5 : Value) (w6 : Value) (w7 : Value) (w8 : Value) (w9 : Value) (w10 : Value) (w11 : Value) (w12 : Value) (w13 : Value) (w14 : Value) (w15 : Value) (w16 : Value) (w17 : Value) (w18 : Value) (w19 : Value) (p0 : Int32) (sz : Nat) : vx_Met l yM_D_rows (wm yM_D_rows cM_D_rows 2 (some .int)) ({ frames := 60, cells := 1, slots := 6, locals := 1200 }) (nPc [.ref h0, .int p0] (dC, dI) [(h0, .inr (0, [.ref st, v1, v2, v3, v4, v5, v6, v7, v8, v9, v10])), (st, .inr (8, [.int 0, w1, w2, w3, w4, w5, w6, w7, w8, w9, w10, w11, w12, w13, w14, w15, w16, w17, w18, w19]))] sz) (va_Qi (fun (r : Int32) (_ : Unit) => False) (fun (_ : Unit) t => True) (va_A [(h0, .inr (0, [.ref st, v1, v2, v3, v4, v5, v6, v7, v8, v9, v10])), (st, .inr (8, [.int 0, w1, w2, w3, w4, w5, w6, w7, w8, w9, w10, w11, w12, w13, w14, w15, w16, w17, w18, w19]))] sz)) (vx_X (fun (_ : Unit) => True) (fun E (_ : Unit) _ => E = "java/lang/IndexOutOfBoundsException") (va_A [(h0, .inr (0, [.ref st, v1, v2, v3, v4, v5, v6, v7, v8, v9, v10])), (st, .inr (8, [.int 0, w1, w2, w3, w4, w5, w6, w7, w8, w9, w10, w11, w12, w13, w14, w15, w16, w17, w18, w19]))] sz)) 1 6 (va_A [(h0, .inr (0, [.ref st, v1, v2, v3, v4, v5, v6, v7, v8, v9, v10])), (st, .inr (8, [.int 0, w1, w2, w3, w4, w5, w6, w7, w8, w9, w10, w11, w12, w13, w14, w15, w16, w17, w18, w19]))] sz) := by
  refine vx_ofW (cc := cM_D_rows) (maxL := 2) (ret := (some .int)) (by decide) rfl ?_
  intro p e s m args below meth c s₁ B hml hEx hv
  obtain ⟨rfl, hsz, hP, hD0, hK, hN⟩ := hv
  have hx := B.exec
  have hb := B.bytes
  have hr := B.returns
  have hbg : ∀ w ∈ BIG, w.before ([.ref h0, .int p0] : List Value).toArray s = true := fun w h => atoms_spec (ws := (wm yM_D_rows cM_D_rows 2 (some .int))) B.pre w (List.mem_cons_of_mem _ h)
  have hown : s.vm.findClass "NoteDocument" = some m.cls := findClass_of_methodNamed B.named
  have hlocks := B.notSynchronized
  subst hsz
  have hD := hD0.self (sz := s.heap.size)
  generalize hAe : va_A [(h0, .inr (0, [.ref st, v1, v2, v3, v4, v5, v6, v7, v8, v9, v10])), (st, .inr (8, [.int 0, w1, w2, w3, w4, w5, w6, w7, w8, w9, w10, w11, w12, w13, w14, w15, w16, w17, w18, w19]))] s.heap.size = A at hD hN ⊢
  have hA : ∀ q : Nat, s.heap.size ≤ q → A q := fun q h => by rw [← hAe]; exact Or.inr h
  have hS : va_S A s.heap s.heap [] := va_S.rf
  have hP : va_P (dC, dI) classes [(h0, .inr (0, [.ref st, v1, v2, v3, v4, v5, v6, v7, v8, v9, v10])), (st, .inr (8, [.int 0, w1, w2, w3, w4, w5, w6, w7, w8, w9, w10, w11, w12, w13, w14, w15, w16, w17, w18, w19]))] s.heap := hP
  have hl := lv_entry ([.ref h0, .int p0] : List Value) (n := 2) (Nat.le_of_ble_eq_true rfl)
  rw [lg_entry_eq]
  generalize (lg_sl ([.ref h0, .int p0] : List Value) ++ List.replicate (2 - (lg_sl ([.ref h0, .int p0] : List Value)).length) Slot.unset).toArray = ls at hl ⊢
  have hl : lv_has ls 2 [(0, .ref h0), (1, .int p0)] := hl
  refine lv_aload_n hx hb dM_D_rows_0 rfl (lv_at hl 0 rfl) ?_
  refine lv_iload_n hx hb dM_D_rows_1 rfl (lv_at hl 1 rfl) ?_
  have hFc := va_free (wc := [(h0, .inr (0, [.ref st, v1, v2, v3, v4, v5, v6, v7, v8, v9, v10])), (st, .inr (8, [.int 0, w1, w2, w3, w4, w5, w6, w7, w8, w9, w10, w11, w12, w13, w14, w15, w16, w17, w18, w19]))]) hD hS hA [0, 1] rfl
  refine vx_callv (vx_runV (As := [.int p0]) (rest := []) ⟨hx, hb, hml, hown, hbg⟩ (c_checkGrid l hl9 dC dI h0 st v1 v2 v3 v4 v5 v6 v7 v8 v9 v10 w1 w2 w3 w4 w5 w6 w7 w8 w9 w10 w11 w12 w13 w14 w15 w16 w17 w18 w19 p0 _ ) (cwV 1 hbg (gd_V (fun _ h => h) wd_1122 wd_1124 ws_34 wd_1 (gd_wm (fun _ h => h) wd_1125)) rfl rfl rfl (by decide +kernel) ⟨Nat.le_of_ble_eq_true rfl, Nat.le_of_ble_eq_true rfl⟩) (nPreV [0, 1] hP hD hK hN hS hA (by decide) rfl 0 rfl rfl) rfl rfl hl.1 rfl (lv_room (Nat.le_of_ble_eq_true rfl)) dM_D_rows_2 ⟨Nat.le_of_ble_eq_true rfl, Nat.le_of_ble_eq_true rfl⟩) hS (fun q _ h => hFc q h) hFc (fun q _ h => hFc q h) (fun E ce q9 u t H1 locs ht hvm hpx hBX hz1 hk1 hS hq9 hcv hcl => ?_) (fun u t H1 locs ht hvm hw hB hz1 hk1 hS => ?_)
  · --
    obtain ⟨hP, hD⟩ := va_join (wr := []) (w1 := []) hP hD [0, 1] [] rfl rfl (by decide) (by decide) hk1 hFc nP0 nD0
    generalize H1 = H at hP hS hq9 ⊢
    have hP : va_P (dC, dI) classes [] H := hP
    have hD : va_D A [] := hD
    obtain rfl := hBX
    refine vx_widen (k := 1) (n := 6) (Nat.le_of_ble_eq_true rfl) (Nat.le_of_ble_eq_true rfl) ?_
    exact vx_out (fun x hx9 => (hEx x hx9).elim) hlocks hq9 hcv hcl (fun t ht9 hvm9 => ⟨(), trivial, rfl, hS.F ht9⟩) hS.2.2 (Nat.le_refl _) (Nat.le_refl _)
  · --
    exact hw.elim
