theorem n_az {n q : Nat} (h : va_A [] n q) : n ≤ q := h.elim (fun ⟨k, e, h⟩ => by simp at h) id
def n_FL : List Cond := flatC (Jvm.Cond.and given_1 narrow_1)
theorem n_strok : n_strs.all (fun q => decide (Cond.stringRef q.1 q.2.1 q.2.2 ∈ tables_1) && decide (Cond.exactly (Term.string q.1 q.2.1) "java/lang/String" ∈ n_FL)) = true := by decide +kernel
theorem n_aook : n_arrs.all (fun C => decide (Cond.arrayOver (.object C) ∈ tables_1)) = true := by decide +kernel
theorem n_start {s : State} {b : Nat} (hts : ∀ w ∈ lw_tbl, w.before #[Value.ref b] s = true) (hgv : (Jvm.Cond.and given_1 narrow_1).before #[Value.ref b] s = true) : ∃ (dC : Nat → ClassId) (dI : Nat → Nat → Nat), nK (dC, dI) s ∧ ∀ A : Nat → Prop, (∀ a : Nat, a < s.heap.size → ¬ A a) → nS A s s.heap := by
  have hbg : ∀ w ∈ BIG, w.before #[Value.ref b] s = true := fun w h => hts w (big_lw w h)
  have hfl : ∀ w ∈ n_FL, w.before #[Value.ref b] s = true := flat_of_before _ hgv
  obtain ⟨c0, i0, h0⟩ := u_known (C := rC_D) (T := fC_D) (N := 11) hbg iC_D (hbg _ wd_38)
  obtain ⟨c1, i1, h1⟩ := u_known (C := rC_Ch) (T := fC_Ch) (N := 6) hbg iC_Ch (hbg _ wd_212)
  obtain ⟨c2, i2, h2⟩ := u_known (C := rC_De) (T := fC_De) (N := 19) hbg iC_De (hbg _ wd_265)
  obtain ⟨c3, i3, h3⟩ := u_known (C := rC_Fi) (T := fC_Fi) (N := 14) hbg iC_Fi (hbg _ wd_340)
  obtain ⟨c4, i4, h4⟩ := u_known (C := rC_He) (T := fC_He) (N := 2) hbg iC_He (hbg _ wd_246)
  obtain ⟨c5, i5, h5⟩ := u_known (C := rC_Mo) (T := fC_Mo) (N := 5) hbg iC_Mo (hbg _ wd_438)
  obtain ⟨c6, i6, h6⟩ := u_known (C := rC_No) (T := fC_No) (N := 8) hbg iC_No (hbg _ wd_173)
  obtain ⟨c7, i7, h7⟩ := u_known (C := rC_Ru) (T := fC_Ru) (N := 8) hbg iC_Ru (hbg _ wd_342)
  obtain ⟨c8, i8, h8⟩ := u_known (C := rC_S) (T := fC_S) (N := 20) hbg iC_S (hbg _ wd_46)
  obtain ⟨c9, i9, h9⟩ := u_known (C := rC_Te) (T := fC_Te) (N := 3) hbg iC_Te (hbg _ wd_348)
  obtain ⟨c10, i10, h10⟩ := u_known (C := rC_M) (T := fC_M) (N := 17) hbg iC_M (hbg _ wd_1915)
  obtain ⟨c11, i11, h11⟩ := u_known (C := rC_E) (T := fC_E) (N := 27) hbg iC_E (hbg _ wd_2037)
  obtain ⟨c12, i12, h12⟩ := u_known (C := rC_T) (T := fC_T) (N := 22) hbg iC_T (hbg _ wd_1921)
  obtain ⟨c13, i13, h13⟩ := u_known (C := rC_Va) (T := fC_Va) (N := 8) hbg iC_Va (hbg _ wd_2319)
  obtain ⟨a0, k0, m0, p0, q0, r0⟩ := Cond.arrayClass_spec (hbg _ wd_169)
  obtain ⟨a1, k1, m1, p1, q1, r1⟩ := Cond.arrayClass_spec (hbg _ wd_170)
  obtain ⟨a2, k2, m2, p2, q2, r2⟩ := Cond.arrayClass_spec (hbg _ wd_171)
  have hao : ∀ C ∈ n_arrs, va_AO C s := fun C hC => va_AO.of (hts _ (List.mem_append_right _ (of_decide_eq_true (List.all_eq_true.mp n_aook C hC))))
  obtain ⟨m3, a3, k3, t3, -, q3, r3, p3⟩ := Cond.arrayOver_spec (hao "NoteDocument$State" (by decide +kernel))
  obtain ⟨m4, a4, k4, t4, -, q4, r4, p4⟩ := Cond.arrayOver_spec (hao "NoteDocumentModel$State" (by decide +kernel))
  obtain ⟨m5, a5, k5, t5, -, q5, r5, p5⟩ := Cond.arrayOver_spec (hao "NoteDocumentModel$Found" (by decide +kernel))
  obtain ⟨m6, a6, k6, t6, -, q6, r6, p6⟩ := Cond.arrayOver_spec (hao "NoteDocumentModel$Val" (by decide +kernel))
  refine ⟨fun k => match k with | 0 => c0 | 1 => c1 | 2 => c2 | 3 => c3 | 4 => c4 | 5 => c5 | 6 => c6 | 7 => c7 | 8 => c8 | 9 => c9 | 10 => c10 | 11 => c11 | 12 => c12 | 13 => c13 | 100 => a0 | 101 => a1 | 102 => a2 | 103 => a3 | 104 => a4 | 105 => a5 | 106 => a6 | _ => c0, fun k => match k with | 0 => i0 | 1 => i1 | 2 => i2 | 3 => i3 | 4 => i4 | 5 => i5 | 6 => i6 | 7 => i7 | 8 => i8 | 9 => i9 | 10 => i10 | 11 => i11 | 12 => i12 | 13 => i13 | _ => i0, ⟨⟨?_, ?_⟩, ?_, ?_, hao, ?_⟩, ?_⟩
  · intro c q hq
    have hc : c < 14 := (List.getElem?_eq_some_iff.mp hq).1
    rcases (show c = 0 ∨ c = 1 ∨ c = 2 ∨ c = 3 ∨ c = 4 ∨ c = 5 ∨ c = 6 ∨ c = 7 ∨ c = 8 ∨ c = 9 ∨ c = 10 ∨ c = 11 ∨ c = 12 ∨ c = 13 by omega) with rfl | rfl | rfl | rfl | rfl | rfl | rfl | rfl | rfl | rfl | rfl | rfl | rfl | rfl
    · obtain rfl : (rC_D, fC_D, 11) = q := Option.some.inj (show some (rC_D, fC_D, 11) = some q from hq)
      exact h0
    · obtain rfl : (rC_Ch, fC_Ch, 6) = q := Option.some.inj (show some (rC_Ch, fC_Ch, 6) = some q from hq)
      exact h1
    · obtain rfl : (rC_De, fC_De, 19) = q := Option.some.inj (show some (rC_De, fC_De, 19) = some q from hq)
      exact h2
    · obtain rfl : (rC_Fi, fC_Fi, 14) = q := Option.some.inj (show some (rC_Fi, fC_Fi, 14) = some q from hq)
      exact h3
    · obtain rfl : (rC_He, fC_He, 2) = q := Option.some.inj (show some (rC_He, fC_He, 2) = some q from hq)
      exact h4
    · obtain rfl : (rC_Mo, fC_Mo, 5) = q := Option.some.inj (show some (rC_Mo, fC_Mo, 5) = some q from hq)
      exact h5
    · obtain rfl : (rC_No, fC_No, 8) = q := Option.some.inj (show some (rC_No, fC_No, 8) = some q from hq)
      exact h6
    · obtain rfl : (rC_Ru, fC_Ru, 8) = q := Option.some.inj (show some (rC_Ru, fC_Ru, 8) = some q from hq)
      exact h7
    · obtain rfl : (rC_S, fC_S, 20) = q := Option.some.inj (show some (rC_S, fC_S, 20) = some q from hq)
      exact h8
    · obtain rfl : (rC_Te, fC_Te, 3) = q := Option.some.inj (show some (rC_Te, fC_Te, 3) = some q from hq)
      exact h9
    · obtain rfl : (rC_M, fC_M, 17) = q := Option.some.inj (show some (rC_M, fC_M, 17) = some q from hq)
      exact h10
    · obtain rfl : (rC_E, fC_E, 27) = q := Option.some.inj (show some (rC_E, fC_E, 27) = some q from hq)
      exact h11
    · obtain rfl : (rC_T, fC_T, 22) = q := Option.some.inj (show some (rC_T, fC_T, 22) = some q from hq)
      exact h12
    · obtain rfl : (rC_Va, fC_Va, 8) = q := Option.some.inj (show some (rC_Va, fC_Va, 8) = some q from hq)
      exact h13
  · intro c q hq
    have hc : c < 7 := (List.getElem?_eq_some_iff.mp hq).1
    rcases (show c = 0 ∨ c = 1 ∨ c = 2 ∨ c = 3 ∨ c = 4 ∨ c = 5 ∨ c = 6 by omega) with rfl | rfl | rfl | rfl | rfl | rfl | rfl
    · obtain rfl : (a0, (FieldType.int)) = q := Option.some.inj (show some (a0, (FieldType.int)) = some q from hq)
      exact ⟨fun n z => ⟨fun k h => (by cases h), k0, q0, m0, r0⟩, p0⟩
    · obtain rfl : (a1, (FieldType.long)) = q := Option.some.inj (show some (a1, (FieldType.long)) = some q from hq)
      exact ⟨fun n z => ⟨fun k h => (by cases h), k1, q1, m1, r1⟩, p1⟩
    · obtain rfl : (a2, (FieldType.boolean)) = q := Option.some.inj (show some (a2, (FieldType.boolean)) = some q from hq)
      exact ⟨fun n z => ⟨fun k h => (by cases h), k2, q2, m2, r2⟩, p2⟩
    · obtain rfl : (a3, (FieldType.object "NoteDocument$State")) = q := Option.some.inj (show some (a3, (FieldType.object "NoteDocument$State")) = some q from hq)
      exact ⟨fun n z => ⟨fun k h => (by cases h), k3, q3, m3, r3⟩, k3, m3, q3, r3, t3, p3⟩
    · obtain rfl : (a4, (FieldType.object "NoteDocumentModel$State")) = q := Option.some.inj (show some (a4, (FieldType.object "NoteDocumentModel$State")) = some q from hq)
      exact ⟨fun n z => ⟨fun k h => (by cases h), k4, q4, m4, r4⟩, k4, m4, q4, r4, t4, p4⟩
    · obtain rfl : (a5, (FieldType.object "NoteDocumentModel$Found")) = q := Option.some.inj (show some (a5, (FieldType.object "NoteDocumentModel$Found")) = some q from hq)
      exact ⟨fun n z => ⟨fun k h => (by cases h), k5, q5, m5, r5⟩, k5, m5, q5, r5, t5, p5⟩
    · obtain rfl : (a6, (FieldType.object "NoteDocumentModel$Val")) = q := Option.some.inj (show some (a6, (FieldType.object "NoteDocumentModel$Val")) = some q from hq)
      exact ⟨fun n z => ⟨fun k h => (by cases h), k6, q6, m6, r6⟩, k6, m6, q6, r6, t6, p6⟩
  · exact fun w hw => va_Nw.of (isX_tab (List.mem_filter.mp hw).2) (hts w (List.mem_append_right _ (List.mem_filter.mp hw).1))
  · intro q hq
    have h1 := List.all_eq_true.mp n_strok q hq
    simp only [Bool.and_eq_true, decide_eq_true_eq] at h1
    obtain ⟨a, -, -, -, ha, -⟩ := Cond.exactly_spec (args := #[Value.ref b]) (first := s) (o := none) (s := s) (idx := []) (hfl _ h1.2)
    exact ⟨a, vk_R.of (hts _ (List.mem_append_right _ h1.1)) ha⟩
  · exact va_Nc.of (hfl _ (by decide +kernel))
  · exact fun A hA => ⟨vx_Zqof (hts _ (by decide +kernel)) (hts _ (by decide +kernel)) (hfl _ (by decide +kernel)) hA, vx_Zqof (hts _ (by decide +kernel)) (hts _ (by decide +kernel)) (hfl _ (by decide +kernel)) hA⟩
/-! THE CLAIM OUT OF ONE WALK OF THE LAW'S BODY. Your part is whole_start (and what it stands on); all else here is the same for every law, but numbers. -/
def R_law : String := "NoteDocumentLaw"
def lw_P (b : Addr) (xs : List Int32) (args : Array Value) (s : State) : Prop := args = #[.ref b] ∧ s.IntsAt b xs ∧ xs.length ≤ 8 ∧ (Jvm.Cond.and given_1 narrow_1).before args s = true
/-- what a walk over the start with the record d0 says of its end, said of the start itself -/
theorem lw_closed {s t : State} {o : Outcome} {d0 : Drawn} {L : List Loc} {k n : Nat} (hd0 : s.drawn.sameBut d0 lw_cs) (hv : ∃ v, o = .returned v) (hW : (s.setDrawn d0).WarmedH t.vm) (hs : (s.setDrawn d0).sameButNew ({ t with vm := s.vm } : State) L k n) : State.butDraws s t lw_cs (fun t1 => Framed s o t1 L k n) := by
  have h2 : t.drawn = d0 := congrArg State.drawn hs.1
  refine ⟨⟨hv, hW, State.sameButNew.setDrawn hs s.drawn⟩, ?_, by decide⟩
  rw [h2]
  exact hd0
def lw_Q (_ : Array Value) (s : State) (o : Outcome) (t : State) : Prop := o = .returned (some (.int 1)) ∧ State.butDraws s t lw_cs (fun t1 => Framed s o t1 [] 600002 7302232)
def lw_Z (below : List Frame) (a : Array Value) (s : State) : State → Prop := fun t => ∃ o, t.status = .running ∧ Ended t below o ∧ lw_Q a s o t
/-- the law's own end, with 1 on the stack, nothing written that was there before, its room as the claim has it; d0: the record of draws at this point (at the entry s.drawn: begin with 'refine W.base ?_' and 'have hd0 := Drawn.sameBut.refl s.drawn lw_cs') -/
theorem lw_ret {p : Program} {l : Launch} {e : Env} {s : State} {m : MethodId} {below : List Frame} {meth : Method} {c : Code} {b : Nat} {d0 : Drawn} (hd0 : s.drawn.sameBut d0 lw_cs) (hx : p.tables.exec = Jvm.exec) (hb : c.code = code) (hr : meth.sig.returnType = ret) (hlocks : meth.locks = false) {pc : Nat} {H : Heap} {ls : Array Slot} (hdg : decode code pc = .ok (.ireturn, 1)) : W p l e room_1 (s.setDrawn d0) m #[Value.ref b] below meth c H [] 600002 7302232 (lw_Z below #[Value.ref b] s) (F0 m pc ls [.int 1]) := by
  intro T hT X
  obtain ⟨fs, hret, hrun, hended, hW, hframe⟩ := X.leave (v := some (.int 1)) (hlocks := hlocks) (fun h => by rw [hr] at h; cases h)
  have hmeth' : T.vm.method? m = some meth := X.method'
  refine ⟨T.setFrames fs, ?_, .returned (some (.int 1)), hrun, hended, rfl, lw_closed hd0 ⟨_, rfl⟩ hW hframe⟩
  jvm_step X.here [X.here.top, hx, hb, hdg, hmeth', hr, ret, narrow_b1]
  (try refine ⟨rfl, ?_⟩); (try refine ⟨rfl, ?_⟩)
  first | (intro acts; rw [hret _ acts rfl rfl rfl]) | rw [hret _ _ rfl rfl rfl]
  exact Steps.refl _
/-- what holds at the law's entry: the machine, the code, the tables' words (any of lw_tbl by 'hts w (by decide +kernel)'), the script of L ints xs at the cell b, what the Statement gives of the start (any of its parts by flat_of_before) -/
def lw_At (p : Program) (s : State) (m : MethodId) (meth : Method) (c : Code) (b L : Nat) (xs : Nat → Int32) : Prop :=
  p.tables.exec = Jvm.exec ∧ c.code = code ∧ meth.sig.returnType = ret ∧ c.maxLocals = 8 ∧ s.vm.findClass R_law = some m.cls ∧ (∀ w ∈ lw_tbl, w.before #[Value.ref b] s = true) ∧ va_X b L xs s s.heap ∧ b < s.heap.size ∧ meth.locks = false ∧ (Jvm.Cond.and given_1 narrow_1).before #[Value.ref b] s = true
-- ===== YOUR PART BEGINS =====
/-- YOUR PART: from the entry, for every script of at most 8 ints, the law comes to its end with true ('hflags': the launch's flags, for a law that throws: no stack traces) -/
theorem whole_start {p : Program} {e : Env} {s : State} {m : MethodId} {below : List Frame} {meth : Method} {c : Code} (l : Launch) (hflags : l.flags = flags0) {b L : Nat} {xs : Nat → Int32} (hL : L ≤ 8) (C0 : lw_At p s m meth c b L xs) : W p l e room_1 s m #[Value.ref b] below meth c s.heap [] 0 0 (lw_Z below #[Value.ref b] s) (entryFrame m ([Value.ref b] : List Value).toArray 8) := by
  obtain ⟨hx, hb, hr, hml, hown, hts, hX, hbl, hlocks, hgv⟩ := C0
  obtain ⟨dC, dI, hK, hN⟩ := n_start hts hgv
  have hl9 : l.stackTraces = false := by
    unfold Launch.stackTraces
    rw [hflags]
    decide +kernel
  refine law_main (A := va_A [] s.heap.size) l hl9 dC dI hL hx hb hml hown (fun w h => hts w (big_lw w h)) hK (hN _ (fun a ha h => absurd (n_az h) (Nat.not_le.mpr ha))) (fun q h => Or.inr h) hX hbl (fun h => absurd (n_az h) (Nat.not_le.mpr hbl)) (fun q h => n_az h) (fun H ls => ?_)
  exact lw_ret (d0 := s.drawn) (Drawn.sameBut.refl s.drawn lw_cs) hx hb hr hlocks dM_L_law_3417
-- ===== YOUR PART ENDS =====
set_option maxHeartbeats 4000000 in
theorem lw_walk (l : Launch) (hflags : l.flags = flags0) (b : Addr) (xs : List Int32) : MetFree l x (headSpec (Jvm.Cond.code x code maxLocals ret :: tables_1) room_1) (lw_P b xs) (fun _ _ _ _ _ => True) lw_Q := by
  refine MetFree.of_bodyS (code := code) (maxLocals := maxLocals) (ret := ret) (by decide) ?_ ?_
  · intro args s m h hn
    obtain ⟨meth, c, h1, h2, h3, h4, h5, h6, -, -⟩ := Cond.code_spec hn (atoms_spec (ws := Jvm.Cond.code x code maxLocals ret :: tables_1) h _ List.mem_cons_self)
    exact ⟨meth, c, h1, h2, h3, h4, h5, h6⟩
  · intro p e s m args below meth c s₁ B hml0 hP _
    obtain ⟨rfl, hx, hbd, hgv⟩ := hP
    obtain ⟨scr, harrAt, hlist, hof, hsmall⟩ := hx
    obtain ⟨hcb, hkn, -, -⟩ := State.arrayAt?_spec harrAt
    have hown : s.vm.findClass R_law = some m.cls := findClass_of_methodNamed B.named
    have hts0 : ∀ c ∈ (Jvm.Cond.code x code maxLocals ret :: tables_1), c.before #[Value.ref b] s = true := atoms_spec (ws := Jvm.Cond.code x code maxLocals ret :: tables_1) B.pre
    have hts : ∀ w ∈ lw_tbl, w.before #[Value.ref b] s = true := k2_hts_sels lw_privs (fun w hw => hts0 w (List.mem_cons_of_mem _ hw)) lw_privs_ok
    have hml : c.maxLocals = 8 := B.maxLocals_eq (hts0 _ List.mem_cons_self)
    have X₀ : Stand p l e room_1 s m #[Value.ref b] below meth c s₁ [] 0 0 := Stand.of_body B
    have hh0 : s₁.heap = s.heap := by rw [B.state]; rfl
    have hsz : scr.slots.size = xs.length := by rw [← Array.length_toList, hlist, List.length_map]
    have hval : ∀ j : Nat, j < xs.length → scr.slots[j]? = some (.int (xs.getD j 0)) := fun j hj => by
      rw [← Array.getElem?_toList, hlist]
      simp [hj]
    have hbl : b < s.heap.size := (Array.getElem?_eq_some_iff.mp hcb).1
    have hX : va_X b xs.length (fun j => xs.getD j 0) s s.heap := ⟨scr, hcb, hof, hkn, hsz, hval⟩
    have K : W p l e room_1 s m #[Value.ref b] below meth c s₁.heap [] 0 0 (lw_Z below #[Value.ref b] s) (entryFrame m ([Value.ref b] : List Value).toArray 8) := by
      rw [hh0]
      exact whole_start l hflags hbd ⟨B.exec, B.bytes, B.returns, hml, hown, hts, hX, hbl, B.notSynchronized, hgv⟩
    obtain ⟨t, a1, o, b1, b2, b3⟩ := K s₁ rfl X₀
    exact ⟨t, o, a1, b1, b2, b3⟩
theorem lw_pre_spec {args : Array Value} {s : State} (h : (Jvm.Cond.and given_1 narrow_1).before args s = true) (hr : rest_1_c.before args s = true) : ∃ (b : Addr) (xs : List Int32), lw_P b xs args s := by
  have hs := flat_of_before _ h
  have hq := flat_of_before _ hr
  have hc : (Cond.count 1).before args s = true := hs _ (by decide +kernel)
  have harr : (Cond.arrayOf (.arg 0) .int).before args s = true := hs _ (by decide +kernel)
  have hle : (Cond.le (.length (.arg 0)) (.int 8)).before args s = true := hs _ (by decide +kernel)
  have hlen : (Cond.isInt (.length (.arg 0))).before args s = true := hq _ (by decide +kernel)
  have hall : (Cond.all (.arg 0) (.isInt (.elem (.arg 0) (.index 0)))).before args s = true := hq _ (by decide +kernel)
  obtain ⟨b, xs, hb, hx⟩ := State.ints_of_pre rfl harr hlen hall
  have hsm : xs.length < 2 ^ 31 := hx.choose_spec.2.2.2
  have hev : (Term.length (.arg 0)).eval args s none [] s = some (.int xs.length.toInt32) := hx.length_eval hb
  have hv := Cond.le_ints hev (show (Term.int 8).eval args s none [] s = some (.int 8) from rfl)
  have hd : xs.length.toInt32 ≤ 8 := by
    simpa [Cond.before, Cond.holds, hv] using hle
  have hN : xs.length ≤ 8 := (Int32.ofNat_le_ofNat hsm (by decide)).mp (show Int32.ofNat xs.length ≤ Int32.ofNat 8 from hd)
  exact ⟨b, xs, Cond.one_arg hc (show args[0]? = some (.ref b) from hb), hx, hN, h⟩
theorem lw_comes (l : Launch) (hflags : l.flags = flags0) : Comes l x (Jvm.Cond.code x code maxLocals ret :: tables_1) room_1 (fun tb e args s => Calls_1 tb e args s ∧ rest_1 tb e args s ∧ Pre_1 tb e args s)
    (fun _ _ args s o t => lw_Q args s o t) := by
  intro p e ha hc hk s m args below hf hfit hheap happ hpre
  obtain ⟨b, xs, hP⟩ := lw_pre_spec hpre.2.2 hpre.2.1
  obtain ⟨k, o, h1, h2, h3, hQ⟩ := lw_walk l hflags b xs p e ha hc hk s m args below hf ((Spec.applies_iff_loose hf).mp happ).1 hP trivial
  exact ⟨k, o, h1, h2, h3, hQ⟩
theorem lw_frame {s t : State} {o : Outcome} {args : Array Value} (h : State.butDraws s t lw_cs (fun t1 => Framed s o t1 [] 600002 7302232)) :
    State.butDraws s t [Jvm.Choice.named "NaN.bits"] (fun t1 => Framed s o t1 (fieldLocs frame_1_writes args s ++ arrayLocs frame_1_arrays args s ++ staticLocs frame_1_statics s) 600002 7302232) := h
theorem lw_limb (L : Cond) (hL : ∀ (args : Array Value) (s t : State), L.after args s (.returned (some (.int 1))) t = true) :
    ArmFor flags0 classFile x code maxLocals ret World_1 tables_1 room_1 Calls_1 rest_1 Pre_1
      (fun tb e a s o t => postC L tb e a s o t ∧ State.butDraws s t [Jvm.Choice.named "NaN.bits"] (fun t1 => Framed s o t1 (fieldLocs frame_1_writes a s ++ arrayLocs frame_1_arrays a s ++ staticLocs frame_1_statics s) 600002 7302232)) := by
  intro l hflags _ _ p e ha hc hk s m args below hf hfit hheap happ hpre
  obtain ⟨k, o, h1, h2, h3, rfl, hF⟩ := lw_comes l hflags p e ha hc hk s m args below hf hfit hheap happ hpre
  exact ⟨k, _, h1, h2, h3, hL args s _, lw_frame hF⟩
theorem i_vc : Claimed_1_1 ∧ Claimed_1_2 := ⟨lw_limb limb_1_1 (fun args s t => by simp [limb_1_1, Cond.after, Cond.holds, Cond.value]), lw_limb limb_1_2 (fun args s t => Cond.after_iff.mpr (by
  first | (rw [show limb_1_2 = Cond.eq .result (.int 1) from rfl, Cond.eq_ints (x := 1) (y := 1) rfl rfl]; simp; done) | (simp [limb_1_2, Cond.value, Term.eval]; done)))⟩

