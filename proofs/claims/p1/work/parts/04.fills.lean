abbrev cM_A_fill_0 : ByteArray := prog_36_method_101_code
def yM_A_fill_0 : MethodName := ⟨"java/util/Arrays", "fill", "([JJ)V"⟩
theorem dM_A_fill_0_0 : decode cM_A_fill_0 0 = .ok (.iconst 0, 1) := by decide +kernel
theorem dM_A_fill_0_1 : decode cM_A_fill_0 1 = .ok (.istore_n 3, 1) := by decide +kernel
theorem dM_A_fill_0_2 : decode cM_A_fill_0 2 = .ok (.aload_n 0, 1) := by decide +kernel
theorem dM_A_fill_0_3 : decode cM_A_fill_0 3 = .ok (.arraylength, 1) := by decide +kernel
theorem dM_A_fill_0_4 : decode cM_A_fill_0 4 = .ok (.istore 4, 2) := by decide +kernel
theorem dM_A_fill_0_6 : decode cM_A_fill_0 6 = .ok (.iload_n 3, 1) := by decide +kernel
theorem dM_A_fill_0_7 : decode cM_A_fill_0 7 = .ok (.iload 4, 2) := by decide +kernel
theorem dM_A_fill_0_9 : decode cM_A_fill_0 9 = .ok (.if_icmp .ge 13, 3) := by decide +kernel
theorem dM_A_fill_0_12 : decode cM_A_fill_0 12 = .ok (.aload_n 0, 1) := by decide +kernel
theorem dM_A_fill_0_13 : decode cM_A_fill_0 13 = .ok (.iload_n 3, 1) := by decide +kernel
theorem dM_A_fill_0_14 : decode cM_A_fill_0 14 = .ok (.lload_n 1, 1) := by decide +kernel
theorem dM_A_fill_0_15 : decode cM_A_fill_0 15 = .ok (.lastore, 1) := by decide +kernel
theorem dM_A_fill_0_16 : decode cM_A_fill_0 16 = .ok (.iinc 3 1, 3) := by decide +kernel
theorem dM_A_fill_0_19 : decode cM_A_fill_0 19 = .ok (.goto (-13), 3) := by decide +kernel
theorem dM_A_fill_0_22 : decode cM_A_fill_0 22 = .ok (.return_, 1) := by decide +kernel
abbrev cM_A_fill_2 : ByteArray := prog_36_method_103_code
def yM_A_fill_2 : MethodName := ⟨"java/util/Arrays", "fill", "([II)V"⟩
theorem dM_A_fill_2_0 : decode cM_A_fill_2 0 = .ok (.iconst 0, 1) := by decide +kernel
theorem dM_A_fill_2_1 : decode cM_A_fill_2 1 = .ok (.istore_n 2, 1) := by decide +kernel
theorem dM_A_fill_2_2 : decode cM_A_fill_2 2 = .ok (.aload_n 0, 1) := by decide +kernel
theorem dM_A_fill_2_3 : decode cM_A_fill_2 3 = .ok (.arraylength, 1) := by decide +kernel
theorem dM_A_fill_2_4 : decode cM_A_fill_2 4 = .ok (.istore_n 3, 1) := by decide +kernel
theorem dM_A_fill_2_5 : decode cM_A_fill_2 5 = .ok (.iload_n 2, 1) := by decide +kernel
theorem dM_A_fill_2_6 : decode cM_A_fill_2 6 = .ok (.iload_n 3, 1) := by decide +kernel
theorem dM_A_fill_2_7 : decode cM_A_fill_2 7 = .ok (.if_icmp .ge 13, 3) := by decide +kernel
theorem dM_A_fill_2_10 : decode cM_A_fill_2 10 = .ok (.aload_n 0, 1) := by decide +kernel
theorem dM_A_fill_2_11 : decode cM_A_fill_2 11 = .ok (.iload_n 2, 1) := by decide +kernel
theorem dM_A_fill_2_12 : decode cM_A_fill_2 12 = .ok (.iload_n 1, 1) := by decide +kernel
theorem dM_A_fill_2_13 : decode cM_A_fill_2 13 = .ok (.iastore, 1) := by decide +kernel
theorem dM_A_fill_2_14 : decode cM_A_fill_2 14 = .ok (.iinc 2 1, 3) := by decide +kernel
theorem dM_A_fill_2_17 : decode cM_A_fill_2 17 = .ok (.goto (-12), 3) := by decide +kernel
theorem dM_A_fill_2_20 : decode cM_A_fill_2 20 = .ok (.return_, 1) := by decide +kernel
abbrev cM_A_rangeCheck : ByteArray := prog_36_method_30_code
def yM_A_rangeCheck : MethodName := ⟨"java/util/Arrays", "rangeCheck", "(III)V"⟩
theorem dM_A_rangeCheck_0 : decode cM_A_rangeCheck 0 = .ok (.iload_n 1, 1) := by decide +kernel
theorem dM_A_rangeCheck_1 : decode cM_A_rangeCheck 1 = .ok (.iload_n 2, 1) := by decide +kernel
theorem dM_A_rangeCheck_2 : decode cM_A_rangeCheck 2 = .ok (.if_icmp .le 44, 3) := by decide +kernel
theorem dM_A_rangeCheck_46 : decode cM_A_rangeCheck 46 = .ok (.iload_n 1, 1) := by decide +kernel
theorem dM_A_rangeCheck_47 : decode cM_A_rangeCheck 47 = .ok (.ifCond .ge 12, 3) := by decide +kernel
theorem dM_A_rangeCheck_59 : decode cM_A_rangeCheck 59 = .ok (.iload_n 2, 1) := by decide +kernel
theorem dM_A_rangeCheck_60 : decode cM_A_rangeCheck 60 = .ok (.iload_n 0, 1) := by decide +kernel
theorem dM_A_rangeCheck_61 : decode cM_A_rangeCheck 61 = .ok (.if_icmp .le 12, 3) := by decide +kernel
theorem dM_A_rangeCheck_73 : decode cM_A_rangeCheck 73 = .ok (.return_, 1) := by decide +kernel
abbrev cM_Wo_isFormula : ByteArray := prog_11_method_6_code
def yM_Wo_isFormula : MethodName := ⟨"NoteDocument$Words", "isFormula", "(J)Z"⟩
theorem dM_Wo_isFormula_0 : decode cM_Wo_isFormula 0 = .ok (.lload_n 0, 1) := by decide +kernel
theorem dM_Wo_isFormula_1 : decode cM_Wo_isFormula 1 = .ok (.bipush 50, 2) := by decide +kernel
theorem dM_Wo_isFormula_3 : decode cM_Wo_isFormula 3 = .ok (.lshr, 1) := by decide +kernel
theorem dM_Wo_isFormula_4 : decode cM_Wo_isFormula 4 = .ok (.ldc2_w 17, 3) := by decide +kernel
theorem wd_666 : (Jvm.Cond.constantLong "NoteDocument$Words" (17 : Nat) (3 : Int64)) ∈ BIG := big_t (List.mem_of_getElem? (i := 666) (by decide +kernel)) (by decide +kernel)
theorem dM_Wo_isFormula_7 : decode cM_Wo_isFormula 7 = .ok (.lcmp, 1) := by decide +kernel
theorem dM_Wo_isFormula_8 : decode cM_Wo_isFormula 8 = .ok (.ifCond .ne 7, 3) := by decide +kernel
theorem dM_Wo_isFormula_15 : decode cM_Wo_isFormula 15 = .ok (.iconst 0, 1) := by decide +kernel
theorem dM_Wo_isFormula_16 : decode cM_Wo_isFormula 16 = .ok (.ireturn, 1) := by decide +kernel
abbrev cM_Wo_isInRange : ByteArray := prog_11_method_2_code
def yM_Wo_isInRange : MethodName := ⟨"NoteDocument$Words", "isInRange", "(J)Z"⟩
theorem dM_Wo_isInRange_0 : decode cM_Wo_isInRange 0 = .ok (.lload_n 0, 1) := by decide +kernel
theorem dM_Wo_isInRange_1 : decode cM_Wo_isInRange 1 = .ok (.ldc2_w 9, 3) := by decide +kernel
theorem wd_813 : (Jvm.Cond.constantLong "NoteDocument$Words" (9 : Nat) (-1000000000000000 : Int64)) ∈ BIG := big_t (List.mem_of_getElem? (i := 813) (by decide +kernel)) (by decide +kernel)
theorem dM_Wo_isInRange_4 : decode cM_Wo_isInRange 4 = .ok (.lcmp, 1) := by decide +kernel
theorem dM_Wo_isInRange_5 : decode cM_Wo_isInRange 5 = .ok (.ifCond .lt 15, 3) := by decide +kernel
theorem dM_Wo_isInRange_20 : decode cM_Wo_isInRange 20 = .ok (.iconst 0, 1) := by decide +kernel
theorem dM_Wo_isInRange_21 : decode cM_Wo_isInRange 21 = .ok (.ireturn, 1) := by decide +kernel
theorem pf_c_isInRange_0 {x : Int64} (c_1 : (lg_cmp x (-1000000000000000)) < 0) : ¬ okN x := by
  simp only [n_cmp_lt, n_cmp_gt, n_cmp_eq, n_cmp_le, n_cmp_ge] at *
  simp only [okGrid, okN, okLeaf, okSign, okName, okFun, okRound, okTick, okWay, okScen, inI, nIn, Int32.lt_iff_toInt_lt, Int32.le_iff_toInt_le, ← Int32.toInt_inj, Int64.lt_iff_toInt_lt, Int64.le_iff_toInt_le, ← Int64.toInt_inj, ne_eq, (show (0 : Int32).toInt = 0 from by decide), (show ((-1000000000000000) : Int64).toInt = -1000000000000000 from by decide), (show (0 : Int64).toInt = 0 from by decide)] at *
  omega
theorem dM_Wo_isInRange_8 : decode cM_Wo_isInRange 8 = .ok (.lload_n 0, 1) := by decide +kernel
theorem dM_Wo_isInRange_9 : decode cM_Wo_isInRange 9 = .ok (.ldc2_w 11, 3) := by decide +kernel
theorem wd_814 : (Jvm.Cond.constantLong "NoteDocument$Words" (11 : Nat) (1000000000000000 : Int64)) ∈ BIG := big_t (List.mem_of_getElem? (i := 814) (by decide +kernel)) (by decide +kernel)
theorem dM_Wo_isInRange_12 : decode cM_Wo_isInRange 12 = .ok (.lcmp, 1) := by decide +kernel
theorem dM_Wo_isInRange_13 : decode cM_Wo_isInRange 13 = .ok (.ifCond .gt 7, 3) := by decide +kernel
theorem pf_c_isInRange_1 {x : Int64} (c_1 : ¬ (lg_cmp x (-1000000000000000)) < 0) (c_2 : 0 < (lg_cmp x 1000000000000000)) : ¬ okN x := by
  simp only [n_cmp_lt, n_cmp_gt, n_cmp_eq, n_cmp_le, n_cmp_ge] at *
  simp only [okGrid, okN, okLeaf, okSign, okName, okFun, okRound, okTick, okWay, okScen, inI, nIn, Int32.lt_iff_toInt_lt, Int32.le_iff_toInt_le, ← Int32.toInt_inj, Int64.lt_iff_toInt_lt, Int64.le_iff_toInt_le, ← Int64.toInt_inj, ne_eq, (show (0 : Int32).toInt = 0 from by decide), (show ((-1000000000000000) : Int64).toInt = -1000000000000000 from by decide), (show (0 : Int64).toInt = 0 from by decide), (show (1000000000000000 : Int64).toInt = 1000000000000000 from by decide)] at *
  omega
theorem dM_Wo_isInRange_16 : decode cM_Wo_isInRange 16 = .ok (.iconst 1, 1) := by decide +kernel
theorem dM_Wo_isInRange_17 : decode cM_Wo_isInRange 17 = .ok (.goto 4, 3) := by decide +kernel
theorem pf_c_isInRange_2 {x : Int64} (c_1 : ¬ (lg_cmp x (-1000000000000000)) < 0) (c_2 : ¬ 0 < (lg_cmp x 1000000000000000)) : okN x := by
  simp only [n_cmp_lt, n_cmp_gt, n_cmp_eq, n_cmp_le, n_cmp_ge] at *
  simp only [okGrid, okN, okLeaf, okSign, okName, okFun, okRound, okTick, okWay, okScen, inI, nIn, Int32.lt_iff_toInt_lt, Int32.le_iff_toInt_le, ← Int32.toInt_inj, Int64.lt_iff_toInt_lt, Int64.le_iff_toInt_le, ← Int64.toInt_inj, ne_eq, (show (0 : Int32).toInt = 0 from by decide), (show ((-1000000000000000) : Int64).toInt = -1000000000000000 from by decide), (show (0 : Int64).toInt = 0 from by decide), (show (1000000000000000 : Int64).toInt = 1000000000000000 from by decide)] at *
  omega
set_option maxHeartbeats 4000000 in
set_option maxRecDepth 100000 in
theorem c_fillJ (l : Launch) (dC : Nat → ClassId) (dI : Nat → Nat → Nat) (a0 : Nat) (v : Int64) (nn : Nat) (f : Nat → Int64) (sz : Nat) (hNN : nn < 2 ^ 31) : Met l yM_A_fill_0 (wm yM_A_fill_0 cM_A_fill_0 5 none) ({ frames := 20, cells := 0, slots := 0, locals := 400 }) (nPc [.ref a0, .long v] (dC, dI) [(a0, .inl (dC 101, nn, .inr (.inl f)))] sz) (va_Qv (fun (_ : Unit) => True) (fun (_ : Unit) t => ∃ (g : Nat → Int64), (∀ j, j < nn → g j = v) ∧ nB (dC, dI) (va_A [(a0, .inl (dC 101, nn, .inr (.inl f)))] sz) [(a0, .inl (dC 101, nn, .inr (.inl g)))] t) (va_A [(a0, .inl (dC 101, nn, .inr (.inl f)))] sz)) 0 0 (va_A [(a0, .inl (dC 101, nn, .inr (.inl f)))] sz) := by
  refine Met.ofW (cc := cM_A_fill_0) (maxL := 5) (ret := none) (by decide) rfl ?_
  intro p e s m args below meth c s₁ B hml hv
  obtain ⟨rfl, hsz, hP, hD0, hK, hN⟩ := hv
  have hx := B.exec
  have hb := B.bytes
  have hr := B.returns
  have hbg : ∀ w ∈ BIG, w.before ([.ref a0, .long v] : List Value).toArray s = true := fun w h => atoms_spec (ws := (wm yM_A_fill_0 cM_A_fill_0 5 none)) B.pre w (List.mem_cons_of_mem _ h)
  have hown : s.vm.findClass "java/util/Arrays" = some m.cls := findClass_of_methodNamed B.named
  have hlocks := B.notSynchronized
  subst hsz
  have hD := hD0.self (sz := s.heap.size)
  generalize hAe : va_A [(a0, .inl (dC 101, nn, .inr (.inl f)))] s.heap.size = A at hD hN ⊢
  have hA : ∀ q : Nat, s.heap.size ≤ q → A q := fun q h => by rw [← hAe]; exact Or.inr h
  have hS : va_S A s.heap s.heap [] := va_S.rf
  have hP : va_P (dC, dI) classes [(a0, .inl (dC 101, nn, .inr (.inl f)))] s.heap := hP
  have hl := lv_entry ([.ref a0, .long v] : List Value) (n := 5) (Nat.le_of_ble_eq_true rfl)
  rw [lg_entry_eq]
  generalize (lg_sl ([.ref a0, .long v] : List Value) ++ List.replicate (5 - (lg_sl ([.ref a0, .long v] : List Value)).length) Slot.unset).toArray = ls at hl ⊢
  have hl : lv_has ls 5 [(0, .ref a0), (1, .long v)] := hl
  refine lv_iconst (v := 0) hx hb dM_A_fill_0_0 (by decide) ?_
  refine lv_istore_n (lv' := [(3, .int 0), (0, .ref a0), (1, .long v)]) hx hb dM_A_fill_0_1 rfl hl (by decide) rfl (fun ls hl => ?_)
  refine lv_aload_n hx hb dM_A_fill_0_2 rfl (lv_at hl 1 rfl) ?_
  refine va_alen hx hb hK.1 hP 0 1 rfl rfl (v := nI nn) rfl dM_A_fill_0_3 ?_
  refine lv_istore (lv' := [(4, .int (nI nn)), (3, .int 0), (0, .ref a0), (1, .long v)]) hx hb dM_A_fill_0_4 hl (by decide) rfl (fun ls hl => ?_)
  have lp_1 : ∀ (n i : Nat) (g : Nat → Int64), i ≤ nn → nn + 1 ≤ i + n → (∀ j, j < i → g j = v) → ∀ (H : Heap) (locs : List Loc) (ls : Array Slot), va_P (dC, dI) classes [(a0, .inl (dC 101, nn, .inr (.inl g)))] H → va_D A [(a0, .inl (dC 101, nn, .inr (.inl g)))] → va_S A s.heap H locs → lv_has ls 5 [(4, .int (nI nn)), (3, .int (nI i)), (0, .ref a0), (1, .long v)] → W p l e (headSpec (wm yM_A_fill_0 cM_A_fill_0 5 none) ({ frames := 20, cells := 0, slots := 0, locals := 400 } : Room)).room s m (([.ref a0, .long v] : List Value).toArray) below meth c H locs 0 0 (MQ below (va_Qv (fun (_ : Unit) => True) (fun (_ : Unit) t => ∃ (g : Nat → Int64), (∀ j, j < nn → g j = v) ∧ nB (dC, dI) A [(a0, .inl (dC 101, nn, .inr (.inl g)))] t) A) (([.ref a0, .long v] : List Value).toArray) s 0 0 A) (F0 m 6 ls []) := by
    intro n
    induction n with
    | zero => intro i g hi hn; exact absurd hn (by omega)
    | succ n ih =>
      intro i g hi hn hg H locs ls hP hD hS hl
      rcases Nat.lt_or_ge i nn with hlt | hge
      · --
        refine lv_iload_n hx hb dM_A_fill_0_6 rfl (lv_at hl 1 rfl) ?_
        refine lv_iload hx hb dM_A_fill_0_7 (lv_at hl 0 rfl) ?_
        refine lv_icmp_ge (tgt := 22) hx hb dM_A_fill_0_9 (by decide) (fun q => absurd q (nI_ge hlt hNN)) (fun _ => ?_)
        refine lv_aload_n hx hb dM_A_fill_0_12 rfl (lv_at hl 2 rfl) ?_
        refine lv_iload_n hx hb dM_A_fill_0_13 rfl (lv_at hl 1 rfl) ?_
        refine lv_lload_n hx hb dM_A_fill_0_14 rfl (lv_at hl 3 rfl) ?_
        refine va_last hx hb hK.1 hP hD hS 0 1 rfl rfl (n_in hlt hNN) dM_A_fill_0_15 (fun H locs hP hD hS => ?_)
        have hP : va_P (dC, dI) classes [(a0, .inl (dC 101, nn, .inr (.inl (vp_updL g (nI i).toNatClampNeg v))))] H := hP
        have hD : va_D A [(a0, .inl (dC 101, nn, .inr (.inl (vp_updL g (nI i).toNatClampNeg v))))] := hD
        refine lv_iinc (v := nI (i + 1)) (lv' := [(3, .int (nI (i + 1))), (4, .int (nI nn)), (0, .ref a0), (1, .long v)]) hx hb dM_A_fill_0_16 hl (k := 1) rfl (n_inc _) (by decide) rfl (fun ls hl => ?_)
        refine lv_goto (tgt := 6) hx hb dM_A_fill_0_19 (by decide) ?_
        exact ih (i + 1) (vp_updL g (nI i).toNatClampNeg v) hlt (by omega) (n_upL (Nat.lt_trans hlt hNN) hg) _ _ _ (hP.pick (wc := [(a0, .inl (dC 101, nn, .inr (.inl (vp_updL g (nI i).toNatClampNeg v))))]) [0] rfl) (hD.sub (ws' := [(a0, .inl (dC 101, nn, .inr (.inl (vp_updL g (nI i).toNatClampNeg v))))]) [0] (by decide) rfl) hS (lv_sub hl [1, 0, 2, 3] rfl)
      · --
        obtain rfl : nn = i := Nat.le_antisymm hge hi
        refine lv_iload_n hx hb dM_A_fill_0_6 rfl (lv_at hl 1 rfl) ?_
        refine lv_iload hx hb dM_A_fill_0_7 (lv_at hl 0 rfl) ?_
        refine lv_icmp_ge (tgt := 22) hx hb dM_A_fill_0_9 (by decide) (fun _ => ?_) (fun q => absurd (Int32.le_refl _) q)
        have hP9 := hP.pick (wc := [(a0, .inl (dC 101, nn, .inr (.inl g)))]) [0] rfl
        have hD9 := hD.sub (ws' := [(a0, .inl (dC 101, nn, .inr (.inl g)))]) [0] (by decide) rfl
        exact W.vret hx hb hr (fun t ht hW => ⟨⟨(), rfl, trivial, ⟨g, hg, (by rw [ht]; exact hP9), hD9⟩⟩, hS.F ht⟩) hS.2.2 dM_A_fill_0_22
  exact lp_1 (nn + 1) 0 f (Nat.zero_le _) (by omega) (fun j hj => absurd hj (Nat.not_lt_zero j)) _ _ _ hP hD hS (lv_sub hl [0, 1, 2, 3] rfl)
set_option maxHeartbeats 4000000 in
set_option maxRecDepth 100000 in
theorem c_fillI (l : Launch) (dC : Nat → ClassId) (dI : Nat → Nat → Nat) (a0 : Nat) (v : Int32) (nn : Nat) (f : Nat → Int32) (sz : Nat) (hNN : nn < 2 ^ 31) : Met l yM_A_fill_2 (wm yM_A_fill_2 cM_A_fill_2 4 none) ({ frames := 20, cells := 0, slots := 0, locals := 400 }) (nPc [.ref a0, .int v] (dC, dI) [(a0, .inl (dC 100, nn, .inl f))] sz) (va_Qv (fun (_ : Unit) => True) (fun (_ : Unit) t => ∃ (g : Nat → Int32), (∀ j, j < nn → g j = v) ∧ nB (dC, dI) (va_A [(a0, .inl (dC 100, nn, .inl f))] sz) [(a0, .inl (dC 100, nn, .inl g))] t) (va_A [(a0, .inl (dC 100, nn, .inl f))] sz)) 0 0 (va_A [(a0, .inl (dC 100, nn, .inl f))] sz) := by
  refine Met.ofW (cc := cM_A_fill_2) (maxL := 4) (ret := none) (by decide) rfl ?_
  intro p e s m args below meth c s₁ B hml hv
  obtain ⟨rfl, hsz, hP, hD0, hK, hN⟩ := hv
  have hx := B.exec
  have hb := B.bytes
  have hr := B.returns
  have hbg : ∀ w ∈ BIG, w.before ([.ref a0, .int v] : List Value).toArray s = true := fun w h => atoms_spec (ws := (wm yM_A_fill_2 cM_A_fill_2 4 none)) B.pre w (List.mem_cons_of_mem _ h)
  have hown : s.vm.findClass "java/util/Arrays" = some m.cls := findClass_of_methodNamed B.named
  have hlocks := B.notSynchronized
  subst hsz
  have hD := hD0.self (sz := s.heap.size)
  generalize hAe : va_A [(a0, .inl (dC 100, nn, .inl f))] s.heap.size = A at hD hN ⊢
  have hA : ∀ q : Nat, s.heap.size ≤ q → A q := fun q h => by rw [← hAe]; exact Or.inr h
  have hS : va_S A s.heap s.heap [] := va_S.rf
  have hP : va_P (dC, dI) classes [(a0, .inl (dC 100, nn, .inl f))] s.heap := hP
  have hl := lv_entry ([.ref a0, .int v] : List Value) (n := 4) (Nat.le_of_ble_eq_true rfl)
  rw [lg_entry_eq]
  generalize (lg_sl ([.ref a0, .int v] : List Value) ++ List.replicate (4 - (lg_sl ([.ref a0, .int v] : List Value)).length) Slot.unset).toArray = ls at hl ⊢
  have hl : lv_has ls 4 [(0, .ref a0), (1, .int v)] := hl
  refine lv_iconst (v := 0) hx hb dM_A_fill_2_0 (by decide) ?_
  refine lv_istore_n (lv' := [(2, .int 0), (0, .ref a0), (1, .int v)]) hx hb dM_A_fill_2_1 rfl hl (by decide) rfl (fun ls hl => ?_)
  refine lv_aload_n hx hb dM_A_fill_2_2 rfl (lv_at hl 1 rfl) ?_
  refine va_alen hx hb hK.1 hP 0 0 rfl rfl (v := nI nn) rfl dM_A_fill_2_3 ?_
  refine lv_istore_n (lv' := [(3, .int (nI nn)), (2, .int 0), (0, .ref a0), (1, .int v)]) hx hb dM_A_fill_2_4 rfl hl (by decide) rfl (fun ls hl => ?_)
  have lp_1 : ∀ (n i : Nat) (g : Nat → Int32), i ≤ nn → nn + 1 ≤ i + n → (∀ j, j < i → g j = v) → ∀ (H : Heap) (locs : List Loc) (ls : Array Slot), va_P (dC, dI) classes [(a0, .inl (dC 100, nn, .inl g))] H → va_D A [(a0, .inl (dC 100, nn, .inl g))] → va_S A s.heap H locs → lv_has ls 4 [(3, .int (nI nn)), (2, .int (nI i)), (0, .ref a0), (1, .int v)] → W p l e (headSpec (wm yM_A_fill_2 cM_A_fill_2 4 none) ({ frames := 20, cells := 0, slots := 0, locals := 400 } : Room)).room s m (([.ref a0, .int v] : List Value).toArray) below meth c H locs 0 0 (MQ below (va_Qv (fun (_ : Unit) => True) (fun (_ : Unit) t => ∃ (g : Nat → Int32), (∀ j, j < nn → g j = v) ∧ nB (dC, dI) A [(a0, .inl (dC 100, nn, .inl g))] t) A) (([.ref a0, .int v] : List Value).toArray) s 0 0 A) (F0 m 5 ls []) := by
    intro n
    induction n with
    | zero => intro i g hi hn; exact absurd hn (by omega)
    | succ n ih =>
      intro i g hi hn hg H locs ls hP hD hS hl
      rcases Nat.lt_or_ge i nn with hlt | hge
      · --
        refine lv_iload_n hx hb dM_A_fill_2_5 rfl (lv_at hl 1 rfl) ?_
        refine lv_iload_n hx hb dM_A_fill_2_6 rfl (lv_at hl 0 rfl) ?_
        refine lv_icmp_ge (tgt := 20) hx hb dM_A_fill_2_7 (by decide) (fun q => absurd q (nI_ge hlt hNN)) (fun _ => ?_)
        refine lv_aload_n hx hb dM_A_fill_2_10 rfl (lv_at hl 2 rfl) ?_
        refine lv_iload_n hx hb dM_A_fill_2_11 rfl (lv_at hl 1 rfl) ?_
        refine lv_iload_n hx hb dM_A_fill_2_12 rfl (lv_at hl 3 rfl) ?_
        refine va_iast hx hb hK.1 hP hD hS 0 0 rfl rfl (n_in hlt hNN) dM_A_fill_2_13 (fun H locs hP hD hS => ?_)
        have hP : va_P (dC, dI) classes [(a0, .inl (dC 100, nn, .inl (upd g (nI i).toNatClampNeg v)))] H := hP
        have hD : va_D A [(a0, .inl (dC 100, nn, .inl (upd g (nI i).toNatClampNeg v)))] := hD
        refine lv_iinc (v := nI (i + 1)) (lv' := [(2, .int (nI (i + 1))), (3, .int (nI nn)), (0, .ref a0), (1, .int v)]) hx hb dM_A_fill_2_14 hl (k := 1) rfl (n_inc _) (by decide) rfl (fun ls hl => ?_)
        refine lv_goto (tgt := 5) hx hb dM_A_fill_2_17 (by decide) ?_
        exact ih (i + 1) (upd g (nI i).toNatClampNeg v) hlt (by omega) (n_upI (Nat.lt_trans hlt hNN) hg) _ _ _ (hP.pick (wc := [(a0, .inl (dC 100, nn, .inl (upd g (nI i).toNatClampNeg v)))]) [0] rfl) (hD.sub (ws' := [(a0, .inl (dC 100, nn, .inl (upd g (nI i).toNatClampNeg v)))]) [0] (by decide) rfl) hS (lv_sub hl [1, 0, 2, 3] rfl)
      · --
        obtain rfl : nn = i := Nat.le_antisymm hge hi
        refine lv_iload_n hx hb dM_A_fill_2_5 rfl (lv_at hl 1 rfl) ?_
        refine lv_iload_n hx hb dM_A_fill_2_6 rfl (lv_at hl 0 rfl) ?_
        refine lv_icmp_ge (tgt := 20) hx hb dM_A_fill_2_7 (by decide) (fun _ => ?_) (fun q => absurd (Int32.le_refl _) q)
        have hP9 := hP.pick (wc := [(a0, .inl (dC 100, nn, .inl g))]) [0] rfl
        have hD9 := hD.sub (ws' := [(a0, .inl (dC 100, nn, .inl g))]) [0] (by decide) rfl
        exact W.vret hx hb hr (fun t ht hW => ⟨⟨(), rfl, trivial, ⟨g, hg, (by rw [ht]; exact hP9), hD9⟩⟩, hS.F ht⟩) hS.2.2 dM_A_fill_2_20
  exact lp_1 (nn + 1) 0 f (Nat.zero_le _) (by omega) (fun j hj => absurd hj (Nat.not_lt_zero j)) _ _ _ hP hD hS (lv_sub hl [0, 1, 2, 3] rfl)
set_option maxHeartbeats 4000000 in
set_option maxRecDepth 100000 in
theorem c_rangeCheck (l : Launch) (dC : Nat → ClassId) (dI : Nat → Nat → Nat) (n : Int32) (a : Int32) (b : Int32) (sz : Nat) (h1 : a ≤ b) (h2 : ¬ a < 0) (h3 : b ≤ n) : Met l yM_A_rangeCheck (wm yM_A_rangeCheck cM_A_rangeCheck 3 none) ({ frames := 20, cells := 0, slots := 0, locals := 400 }) (nPc [.int n, .int a, .int b] (dC, dI) [] sz) (va_Qv (fun (_ : Unit) => True) (fun (_ : Unit) t => True) (va_A [] sz)) 0 0 (va_A [] sz) := by
  refine Met.ofW (cc := cM_A_rangeCheck) (maxL := 3) (ret := none) (by decide) rfl ?_
  intro p e s m args below meth c s₁ B hml hv
  obtain ⟨rfl, hsz, hP, hD0, hK, hN⟩ := hv
  have hx := B.exec
  have hb := B.bytes
  have hr := B.returns
  have hbg : ∀ w ∈ BIG, w.before ([.int n, .int a, .int b] : List Value).toArray s = true := fun w h => atoms_spec (ws := (wm yM_A_rangeCheck cM_A_rangeCheck 3 none)) B.pre w (List.mem_cons_of_mem _ h)
  have hown : s.vm.findClass "java/util/Arrays" = some m.cls := findClass_of_methodNamed B.named
  have hlocks := B.notSynchronized
  subst hsz
  have hD := hD0.self (sz := s.heap.size)
  generalize hAe : va_A [] s.heap.size = A at hD hN ⊢
  have hA : ∀ q : Nat, s.heap.size ≤ q → A q := fun q h => by rw [← hAe]; exact Or.inr h
  have hS : va_S A s.heap s.heap [] := va_S.rf
  have hP : va_P (dC, dI) classes [] s.heap := hP
  have hl := lv_entry ([.int n, .int a, .int b] : List Value) (n := 3) (Nat.le_of_ble_eq_true rfl)
  rw [lg_entry_eq]
  generalize (lg_sl ([.int n, .int a, .int b] : List Value) ++ List.replicate (3 - (lg_sl ([.int n, .int a, .int b] : List Value)).length) Slot.unset).toArray = ls at hl ⊢
  have hl : lv_has ls 3 [(0, .int n), (1, .int a), (2, .int b)] := hl
  refine lv_iload_n hx hb dM_A_rangeCheck_0 rfl (lv_at hl 1 rfl) ?_
  refine lv_iload_n hx hb dM_A_rangeCheck_1 rfl (lv_at hl 2 rfl) ?_
  refine lv_icmp_le (tgt := 46) hx hb dM_A_rangeCheck_2 (by decide) (fun _ => ?_) (fun q => absurd h1 q)
  refine lv_iload_n hx hb dM_A_rangeCheck_46 rfl (lv_at hl 1 rfl) ?_
  refine lv_if_ge (tgt := 59) hx hb dM_A_rangeCheck_47 (by decide) (fun _ => ?_) (fun q => absurd (Int32.not_lt.mp h2) q)
  refine lv_iload_n hx hb dM_A_rangeCheck_59 rfl (lv_at hl 2 rfl) ?_
  refine lv_iload_n hx hb dM_A_rangeCheck_60 rfl (lv_at hl 0 rfl) ?_
  refine lv_icmp_le (tgt := 73) hx hb dM_A_rangeCheck_61 (by decide) (fun _ => ?_) (fun q => absurd h3 q)
  exact W.vret hx hb hr (fun t ht hW => ⟨⟨(), rfl, trivial, trivial⟩, hS.F ht⟩) hS.2.2 dM_A_rangeCheck_73
set_option maxHeartbeats 4000000 in
set_option maxRecDepth 100000 in
theorem c_isFormulaE (l : Launch) (dC : Nat → ClassId) (dI : Nat → Nat → Nat)  (sz : Nat) : Met l yM_Wo_isFormula (wm yM_Wo_isFormula cM_Wo_isFormula 2 (some .boolean)) ({ frames := 20, cells := 0, slots := 0, locals := 400 }) (nPc [.long 1125899906842624] (dC, dI) [] sz) (va_Qi (fun (r : Int32) (_ : Unit) => r = 0) (fun (_ : Unit) t => True) (va_A [] sz)) 0 0 (va_A [] sz) := by
  refine Met.ofW (cc := cM_Wo_isFormula) (maxL := 2) (ret := (some .boolean)) (by decide) rfl ?_
  intro p e s m args below meth c s₁ B hml hv
  obtain ⟨rfl, hsz, hP, hD0, hK, hN⟩ := hv
  have hx := B.exec
  have hb := B.bytes
  have hr := B.returns
  have hbg : ∀ w ∈ BIG, w.before ([.long 1125899906842624] : List Value).toArray s = true := fun w h => atoms_spec (ws := (wm yM_Wo_isFormula cM_Wo_isFormula 2 (some .boolean))) B.pre w (List.mem_cons_of_mem _ h)
  have hown : s.vm.findClass "NoteDocument$Words" = some m.cls := findClass_of_methodNamed B.named
  have hlocks := B.notSynchronized
  subst hsz
  have hD := hD0.self (sz := s.heap.size)
  generalize hAe : va_A [] s.heap.size = A at hD hN ⊢
  have hA : ∀ q : Nat, s.heap.size ≤ q → A q := fun q h => by rw [← hAe]; exact Or.inr h
  have hS : va_S A s.heap s.heap [] := va_S.rf
  have hP : va_P (dC, dI) classes [] s.heap := hP
  have hl := lv_entry ([.long 1125899906842624] : List Value) (n := 2) (Nat.le_of_ble_eq_true rfl)
  rw [lg_entry_eq]
  generalize (lg_sl ([.long 1125899906842624] : List Value) ++ List.replicate (2 - (lg_sl ([.long 1125899906842624] : List Value)).length) Slot.unset).toArray = ls at hl ⊢
  have hl : lv_has ls 2 [(0, .long 1125899906842624)] := hl
  refine lv_lload_n hx hb dM_Wo_isFormula_0 rfl (lv_at hl 0 rfl) ?_
  refine lv_bipush (v := 50) hx hb dM_Wo_isFormula_1 (by decide) ?_
  refine lv_lshr (v := 1) hx hb dM_Wo_isFormula_3 (by decide) ?_
  refine lv_ldc2 (v := 3) hx hb hown (hbg _ wd_666) dM_Wo_isFormula_4 ?_
  refine W.lcmp hx hb dM_Wo_isFormula_7 ?_
  refine lv_topi (fun y_1 ey_1 => ?_)
  obtain rfl : y_1 = (-1) := ey_1.trans (by decide)
  refine lv_if_ne (tgt := 15) hx hb dM_Wo_isFormula_8 (by decide) (fun _ => ?_) (fun q => absurd q (by decide))
  refine lv_iconst (v := 0) hx hb dM_Wo_isFormula_15 (by decide) ?_
  exact W.zret (v := 0) hx hb hr (by decide) (fun t ht hW => ⟨⟨0, (), rfl, rfl, trivial⟩, hS.F ht⟩) hS.2.2 dM_Wo_isFormula_16
set_option maxHeartbeats 4000000 in
set_option maxRecDepth 100000 in
theorem c_isInRange (l : Launch) (dC : Nat → ClassId) (dI : Nat → Nat → Nat) (x : Int64) (sz : Nat) : Met l yM_Wo_isInRange (wm yM_Wo_isInRange cM_Wo_isInRange 2 (some .boolean)) ({ frames := 20, cells := 0, slots := 0, locals := 400 }) (nPc [.long x] (dC, dI) [] sz) (va_Qi (fun (r : Int32) (_ : Unit) => (okN x ∧ r = 1) ∨ (¬ okN x ∧ r = 0)) (fun (_ : Unit) t => True) (va_A [] sz)) 0 0 (va_A [] sz) := by
  refine Met.ofW (cc := cM_Wo_isInRange) (maxL := 2) (ret := (some .boolean)) (by decide) rfl ?_
  intro p e s m args below meth c s₁ B hml hv
  obtain ⟨rfl, hsz, hP, hD0, hK, hN⟩ := hv
  have hx := B.exec
  have hb := B.bytes
  have hr := B.returns
  have hbg : ∀ w ∈ BIG, w.before ([.long x] : List Value).toArray s = true := fun w h => atoms_spec (ws := (wm yM_Wo_isInRange cM_Wo_isInRange 2 (some .boolean))) B.pre w (List.mem_cons_of_mem _ h)
  have hown : s.vm.findClass "NoteDocument$Words" = some m.cls := findClass_of_methodNamed B.named
  have hlocks := B.notSynchronized
  subst hsz
  have hD := hD0.self (sz := s.heap.size)
  generalize hAe : va_A [] s.heap.size = A at hD hN ⊢
  have hA : ∀ q : Nat, s.heap.size ≤ q → A q := fun q h => by rw [← hAe]; exact Or.inr h
  have hS : va_S A s.heap s.heap [] := va_S.rf
  have hP : va_P (dC, dI) classes [] s.heap := hP
  have hl := lv_entry ([.long x] : List Value) (n := 2) (Nat.le_of_ble_eq_true rfl)
  rw [lg_entry_eq]
  generalize (lg_sl ([.long x] : List Value) ++ List.replicate (2 - (lg_sl ([.long x] : List Value)).length) Slot.unset).toArray = ls at hl ⊢
  have hl : lv_has ls 2 [(0, .long x)] := hl
  refine lv_lload_n hx hb dM_Wo_isInRange_0 rfl (lv_at hl 0 rfl) ?_
  refine lv_ldc2 (v := (-1000000000000000)) hx hb hown (hbg _ wd_813) dM_Wo_isInRange_1 ?_
  refine W.lcmp hx hb dM_Wo_isInRange_4 ?_
  refine lv_if_lt (tgt := 20) hx hb dM_Wo_isInRange_5 (by decide) (fun c_1 => ?_) (fun c_1 => ?_)
  · --
    refine lv_iconst (v := 0) hx hb dM_Wo_isInRange_20 (by decide) ?_
    exact W.zret (v := 0) hx hb hr (by decide) (fun t ht hW => ⟨⟨0, (), rfl, (Or.inr ⟨(pf_c_isInRange_0 c_1), rfl⟩), trivial⟩, hS.F ht⟩) hS.2.2 dM_Wo_isInRange_21
  · --
    refine lv_lload_n hx hb dM_Wo_isInRange_8 rfl (lv_at hl 0 rfl) ?_
    refine lv_ldc2 (v := 1000000000000000) hx hb hown (hbg _ wd_814) dM_Wo_isInRange_9 ?_
    refine W.lcmp hx hb dM_Wo_isInRange_12 ?_
    refine lv_if_gt (tgt := 20) hx hb dM_Wo_isInRange_13 (by decide) (fun c_2 => ?_) (fun c_2 => ?_)
    · --
      refine lv_iconst (v := 0) hx hb dM_Wo_isInRange_20 (by decide) ?_
      exact W.zret (v := 0) hx hb hr (by decide) (fun t ht hW => ⟨⟨0, (), rfl, (Or.inr ⟨(pf_c_isInRange_1 c_1 c_2), rfl⟩), trivial⟩, hS.F ht⟩) hS.2.2 dM_Wo_isInRange_21
    · --
      refine lv_iconst (v := 1) hx hb dM_Wo_isInRange_16 (by decide) ?_
      refine lv_goto (tgt := 21) hx hb dM_Wo_isInRange_17 (by decide) ?_
      exact W.zret (v := 1) hx hb hr (by decide) (fun t ht hW => ⟨⟨1, (), rfl, (Or.inl ⟨(pf_c_isInRange_2 c_1 c_2), rfl⟩), trivial⟩, hS.F ht⟩) hS.2.2 dM_Wo_isInRange_21
