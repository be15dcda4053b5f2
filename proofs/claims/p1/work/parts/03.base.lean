-- ===== words that hold through a whole run, and those that a call carries along =====
def BIG : List Cond := lw_tbl.filter goodWord
theorem big_t {w : Cond} (h : w ∈ tables_1) (g : goodWord w = true) : w ∈ BIG := List.mem_filter.mpr ⟨List.mem_append_right _ h, g⟩
theorem big_s {w : Cond} (h : w ∈ k2_sels lw_privs) (g : goodWord w = true) : w ∈ BIG := List.mem_filter.mpr ⟨List.mem_append_left _ h, g⟩
theorem big_lw : ∀ w ∈ BIG, w ∈ lw_tbl := fun w h => (List.mem_filter.mp h).1
theorem big_good {w : Cond} (h : w ∈ BIG) : (w.onTables && w.keeps) = true ∨ ∃ ty, w = .arrayClass ty := good_of_word (List.mem_filter.mp h).2
/-- a method's words: its code, and all that is good -/
def wm (y : MethodName) (b : ByteArray) (n : Nat) (ret : Option FieldType) : List Cond := Cond.code y b n ret :: BIG
def wmW (y : MethodName) (b : ByteArray) (n : Nat) (ret : Option FieldType) (hh : List (Nat × Nat × Nat × Nat)) : List Cond := Cond.codeWith y b n ret hh :: BIG
theorem wm_big {y : MethodName} {b : ByteArray} {n : Nat} {ret : Option FieldType} : ∀ w ∈ BIG, w ∈ wm y b n ret := fun _ h => List.mem_cons_of_mem _ h
theorem wmW_big {y : MethodName} {b : ByteArray} {n : Nat} {ret : Option FieldType} {hh : List (Nat × Nat × Nat × Nat)} : ∀ w ∈ BIG, w ∈ wmW y b n ret hh := fun _ h => List.mem_cons_of_mem _ h
theorem gd_wm {Ts : List Cond} {y : MethodName} {b : ByteArray} {n : Nat} {ret : Option FieldType} (hB : ∀ w ∈ BIG, w ∈ Ts) (hc : Cond.code y b n ret ∈ BIG) : GoodIn Ts (wm y b n ret) := by
  intro w hw
  rcases List.mem_cons.mp hw with rfl | hw
  · exact ⟨hB _ hc, big_good hc⟩
  · exact ⟨hB _ hw, big_good hw⟩
theorem gd_wmW {Ts : List Cond} {y : MethodName} {b : ByteArray} {n : Nat} {ret : Option FieldType} {hh : List (Nat × Nat × Nat × Nat)} (hB : ∀ w ∈ BIG, w ∈ Ts) (hc : Cond.codeWith y b n ret hh ∈ BIG) : GoodIn Ts (wmW y b n ret hh) := by
  intro w hw
  rcases List.mem_cons.mp hw with rfl | hw
  · exact ⟨hB _ hc, big_good hc⟩
  · exact ⟨hB _ hw, big_good hw⟩
theorem gd_one {Ts : List Cond} {w0 : Cond} {ws : List Cond} (hB : ∀ w ∈ BIG, w ∈ Ts) (h : w0 ∈ BIG) (hs : GoodIn Ts ws) : GoodIn Ts (w0 :: ws) := by
  intro w hw
  rcases List.mem_cons.mp hw with rfl | hw
  · exact ⟨hB _ h, big_good h⟩
  · exact hs w hw
theorem gd_V {Ts ws : List Cond} {own C : String} {idx : Nat} {y : MethodName} (hB : ∀ w ∈ BIG, w ∈ Ts) (h1 : Cond.methodLink own idx y ∈ BIG) (h2 : Cond.instanceMethod y ∈ BIG) (h3 : Cond.selects C y y ∈ BIG) (h4 : Cond.initialized C ∈ BIG) (hs : GoodIn Ts ws) : GoodIn Ts (wsV own idx C y ws) :=
  gd_one hB h1 (gd_one hB h2 (gd_one hB h3 (gd_one hB h4 hs)))
theorem gd_S {Ts ws : List Cond} {own : String} {idx : Nat} {y : MethodName} (hB : ∀ w ∈ BIG, w ∈ Ts) (h1 : Cond.methodLink own idx y ∈ BIG) (h2 : Cond.static y ∈ BIG) (h4 : Cond.initialized y.cls ∈ BIG) (hs : GoodIn Ts ws) : GoodIn Ts (va_wsS own idx y ws) :=
  gd_one hB h1 (gd_one hB h2 (gd_one hB h4 hs))
/-- words that aren't good, but are carried over a call -/
def isX : Cond → Bool
  | .methodLinkNest .. => true
  | .fieldLinkNest .. => true
  | .castable .. => true
  | .declares .. => true
  | _ => false
def XW : List Cond := tables_1.filter isX
theorem xw_t {w : Cond} (h : w ∈ tables_1) (g : isX w = true) : w ∈ XW := List.mem_filter.mpr ⟨h, g⟩
def nZ (U : State) : Prop := ∀ w ∈ XW, va_Nw w U
theorem isX_tab {w : Cond} (h : isX w = true) : w.onTables = true := by
  cases w <;> first | rfl | (exact absurd h (by simp [isX]))
theorem nZ.same {u U : State} (hv : u.vm = U.vm) (h : nZ u) : nZ U := fun w hw => va_Nw.same (isX_tab (List.mem_filter.mp hw).2) hv (h w hw)
theorem nZ.warm {s U : State} (hW : s.WarmedH U.vm) (h : nZ s) : nZ U := by
  intro w hw
  have hx := (List.mem_filter.mp hw).2
  have hz := h w hw
  cases w <;> first | exact va_Nw.warmM hW hz | exact va_Nw.warmF hW hz | exact va_Nw.warmC hW hz | exact va_Nw.warmD hW hz | (exact absurd hx (by simp [isX]))
theorem wd_471 : (Jvm.Cond.laysFinal "NoteDocument" "NoteDocument" "state" "LNoteDocument$State;") ∈ BIG := big_t (List.mem_of_getElem? (i := 471) (by decide +kernel)) (by decide +kernel)
theorem wd_473 : (Jvm.Cond.laysFinal "NoteDocument" "NoteDocument" "nodes" "LNoteDocument$Nodes;") ∈ BIG := big_t (List.mem_of_getElem? (i := 473) (by decide +kernel)) (by decide +kernel)
theorem wd_475 : (Jvm.Cond.laysFinal "NoteDocument" "NoteDocument" "chains" "LNoteDocument$Chains;") ∈ BIG := big_t (List.mem_of_getElem? (i := 475) (by decide +kernel)) (by decide +kernel)
theorem wd_477 : (Jvm.Cond.laysFinal "NoteDocument" "NoteDocument" "heap" "LNoteDocument$Heap;") ∈ BIG := big_t (List.mem_of_getElem? (i := 477) (by decide +kernel)) (by decide +kernel)
theorem wd_479 : (Jvm.Cond.laysFinal "NoteDocument" "NoteDocument" "desk" "LNoteDocument$Desk;") ∈ BIG := big_t (List.mem_of_getElem? (i := 479) (by decide +kernel)) (by decide +kernel)
theorem wd_481 : (Jvm.Cond.laysFinal "NoteDocument" "NoteDocument" "finde\x72" "LNoteDocument$Finder;") ∈ BIG := big_t (List.mem_of_getElem? (i := 481) (by decide +kernel)) (by decide +kernel)
theorem wd_483 : (Jvm.Cond.laysFinal "NoteDocument" "NoteDocument" "move\x72" "LNoteDocument$Mover;") ∈ BIG := big_t (List.mem_of_getElem? (i := 483) (by decide +kernel)) (by decide +kernel)
theorem wd_485 : (Jvm.Cond.laysFinal "NoteDocument" "NoteDocument" "kept" "[LNoteDocument$State;") ∈ BIG := big_t (List.mem_of_getElem? (i := 485) (by decide +kernel)) (by decide +kernel)
theorem wd_487 : (Jvm.Cond.lays "NoteDocument" "NoteDocument" "firstKept" "I") ∈ BIG := big_t (List.mem_of_getElem? (i := 487) (by decide +kernel)) (by decide +kernel)
theorem wd_489 : (Jvm.Cond.lays "NoteDocument" "NoteDocument" "keptCount" "I") ∈ BIG := big_t (List.mem_of_getElem? (i := 489) (by decide +kernel)) (by decide +kernel)
theorem wd_491 : (Jvm.Cond.lays "NoteDocument" "NoteDocument" "way" "I") ∈ BIG := big_t (List.mem_of_getElem? (i := 491) (by decide +kernel)) (by decide +kernel)
theorem wd_232 : (Jvm.Cond.lays "NoteDocument$Chains" "NoteDocument$Chains" "cell" "[I") ∈ BIG := big_t (List.mem_of_getElem? (i := 232) (by decide +kernel)) (by decide +kernel)
theorem wd_234 : (Jvm.Cond.lays "NoteDocument$Chains" "NoteDocument$Chains" "behind" "[I") ∈ BIG := big_t (List.mem_of_getElem? (i := 234) (by decide +kernel)) (by decide +kernel)
theorem wd_236 : (Jvm.Cond.lays "NoteDocument$Chains" "NoteDocument$Chains" "size" "[I") ∈ BIG := big_t (List.mem_of_getElem? (i := 236) (by decide +kernel)) (by decide +kernel)
theorem wd_238 : (Jvm.Cond.lays "NoteDocument$Chains" "NoteDocument$Chains" "nextLikely" "[I") ∈ BIG := big_t (List.mem_of_getElem? (i := 238) (by decide +kernel)) (by decide +kernel)
theorem wd_240 : (Jvm.Cond.lays "NoteDocument$Chains" "NoteDocument$Chains" "firstLikely" "[I") ∈ BIG := big_t (List.mem_of_getElem? (i := 240) (by decide +kernel)) (by decide +kernel)
theorem wd_242 : (Jvm.Cond.lays "NoteDocument$Chains" "NoteDocument$Chains" "count" "I") ∈ BIG := big_t (List.mem_of_getElem? (i := 242) (by decide +kernel)) (by decide +kernel)
theorem wd_300 : (Jvm.Cond.laysFinal "NoteDocument$Desk" "NoteDocument$Desk" "state" "LNoteDocument$State;") ∈ BIG := big_t (List.mem_of_getElem? (i := 300) (by decide +kernel)) (by decide +kernel)
theorem wd_302 : (Jvm.Cond.laysFinal "NoteDocument$Desk" "NoteDocument$Desk" "heap" "LNoteDocument$Heap;") ∈ BIG := big_t (List.mem_of_getElem? (i := 302) (by decide +kernel)) (by decide +kernel)
theorem wd_304 : (Jvm.Cond.laysFinal "NoteDocument$Desk" "NoteDocument$Desk" "ove\x72" "[J") ∈ BIG := big_t (List.mem_of_getElem? (i := 304) (by decide +kernel)) (by decide +kernel)
theorem wd_306 : (Jvm.Cond.lays "NoteDocument$Desk" "NoteDocument$Desk" "now" "I") ∈ BIG := big_t (List.mem_of_getElem? (i := 306) (by decide +kernel)) (by decide +kernel)
theorem wd_308 : (Jvm.Cond.laysFinal "NoteDocument$Desk" "NoteDocument$Desk" "checked" "[I") ∈ BIG := big_t (List.mem_of_getElem? (i := 308) (by decide +kernel)) (by decide +kernel)
theorem wd_310 : (Jvm.Cond.lays "NoteDocument$Desk" "NoteDocument$Desk" "isFresh" "Z") ∈ BIG := big_t (List.mem_of_getElem? (i := 310) (by decide +kernel)) (by decide +kernel)
theorem wd_312 : (Jvm.Cond.lays "NoteDocument$Desk" "NoteDocument$Desk" "freshNow" "I") ∈ BIG := big_t (List.mem_of_getElem? (i := 312) (by decide +kernel)) (by decide +kernel)
theorem wd_314 : (Jvm.Cond.laysFinal "NoteDocument$Desk" "NoteDocument$Desk" "freshChecked" "[I") ∈ BIG := big_t (List.mem_of_getElem? (i := 314) (by decide +kernel)) (by decide +kernel)
theorem wd_316 : (Jvm.Cond.laysFinal "NoteDocument$Desk" "NoteDocument$Desk" "freshRecord" "[I") ∈ BIG := big_t (List.mem_of_getElem? (i := 316) (by decide +kernel)) (by decide +kernel)
theorem wd_318 : (Jvm.Cond.laysFinal "NoteDocument$Desk" "NoteDocument$Desk" "orde\x72" "[I") ∈ BIG := big_t (List.mem_of_getElem? (i := 318) (by decide +kernel)) (by decide +kernel)
theorem wd_320 : (Jvm.Cond.laysFinal "NoteDocument$Desk" "NoteDocument$Desk" "low" "[I") ∈ BIG := big_t (List.mem_of_getElem? (i := 320) (by decide +kernel)) (by decide +kernel)
theorem wd_322 : (Jvm.Cond.laysFinal "NoteDocument$Desk" "NoteDocument$Desk" "isInCircle" "[Z") ∈ BIG := big_t (List.mem_of_getElem? (i := 322) (by decide +kernel)) (by decide +kernel)
theorem wd_324 : (Jvm.Cond.lays "NoteDocument$Desk" "NoteDocument$Desk" "reade\x72" "I") ∈ BIG := big_t (List.mem_of_getElem? (i := 324) (by decide +kernel)) (by decide +kernel)
theorem wd_326 : (Jvm.Cond.lays "NoteDocument$Desk" "NoteDocument$Desk" "missing" "I") ∈ BIG := big_t (List.mem_of_getElem? (i := 326) (by decide +kernel)) (by decide +kernel)
theorem wd_328 : (Jvm.Cond.laysFinal "NoteDocument$Desk" "NoteDocument$Desk" "reads" "[J") ∈ BIG := big_t (List.mem_of_getElem? (i := 328) (by decide +kernel)) (by decide +kernel)
theorem wd_330 : (Jvm.Cond.laysFinal "NoteDocument$Desk" "NoteDocument$Desk" "readTurn" "[I") ∈ BIG := big_t (List.mem_of_getElem? (i := 330) (by decide +kernel)) (by decide +kernel)
theorem wd_332 : (Jvm.Cond.lays "NoteDocument$Desk" "NoteDocument$Desk" "readCount" "I") ∈ BIG := big_t (List.mem_of_getElem? (i := 332) (by decide +kernel)) (by decide +kernel)
theorem wd_334 : (Jvm.Cond.lays "NoteDocument$Desk" "NoteDocument$Desk" "turn" "I") ∈ BIG := big_t (List.mem_of_getElem? (i := 334) (by decide +kernel)) (by decide +kernel)
theorem wd_336 : (Jvm.Cond.laysFinal "NoteDocument$Desk" "NoteDocument$Desk" "recordAhead" "[I") ∈ BIG := big_t (List.mem_of_getElem? (i := 336) (by decide +kernel)) (by decide +kernel)
theorem wd_408 : (Jvm.Cond.laysFinal "NoteDocument$Finde\x72" "NoteDocument$Finde\x72" "desk" "LNoteDocument$Desk;") ∈ BIG := big_t (List.mem_of_getElem? (i := 408) (by decide +kernel)) (by decide +kernel)
theorem wd_410 : (Jvm.Cond.laysFinal "NoteDocument$Finde\x72" "NoteDocument$Finde\x72" "heap" "LNoteDocument$Heap;") ∈ BIG := big_t (List.mem_of_getElem? (i := 410) (by decide +kernel)) (by decide +kernel)
theorem wd_412 : (Jvm.Cond.laysFinal "NoteDocument$Finde\x72" "NoteDocument$Finde\x72" "state" "LNoteDocument$State;") ∈ BIG := big_t (List.mem_of_getElem? (i := 412) (by decide +kernel)) (by decide +kernel)
theorem wd_414 : (Jvm.Cond.laysFinal "NoteDocument$Finde\x72" "NoteDocument$Finde\x72" "runne\x72" "LNoteDocument$Runner;") ∈ BIG := big_t (List.mem_of_getElem? (i := 414) (by decide +kernel)) (by decide +kernel)
theorem wd_416 : (Jvm.Cond.laysFinal "NoteDocument$Finde\x72" "NoteDocument$Finde\x72" "stack" "[I") ∈ BIG := big_t (List.mem_of_getElem? (i := 416) (by decide +kernel)) (by decide +kernel)
theorem wd_418 : (Jvm.Cond.laysFinal "NoteDocument$Finde\x72" "NoteDocument$Finde\x72" "at" "[I") ∈ BIG := big_t (List.mem_of_getElem? (i := 418) (by decide +kernel)) (by decide +kernel)
theorem wd_420 : (Jvm.Cond.lays "NoteDocument$Finde\x72" "NoteDocument$Finde\x72" "depth" "I") ∈ BIG := big_t (List.mem_of_getElem? (i := 420) (by decide +kernel)) (by decide +kernel)
theorem wd_422 : (Jvm.Cond.laysFinal "NoteDocument$Finde\x72" "NoteDocument$Finde\x72" "pending" "[I") ∈ BIG := big_t (List.mem_of_getElem? (i := 422) (by decide +kernel)) (by decide +kernel)
theorem wd_424 : (Jvm.Cond.lays "NoteDocument$Finde\x72" "NoteDocument$Finde\x72" "pendingCount" "I") ∈ BIG := big_t (List.mem_of_getElem? (i := 424) (by decide +kernel)) (by decide +kernel)
theorem wd_426 : (Jvm.Cond.lays "NoteDocument$Finde\x72" "NoteDocument$Finde\x72" "opened" "I") ∈ BIG := big_t (List.mem_of_getElem? (i := 426) (by decide +kernel)) (by decide +kernel)
theorem wd_428 : (Jvm.Cond.lays "NoteDocument$Finde\x72" "NoteDocument$Finde\x72" "runCount" "I") ∈ BIG := big_t (List.mem_of_getElem? (i := 428) (by decide +kernel)) (by decide +kernel)
theorem wd_430 : (Jvm.Cond.lays "NoteDocument$Finde\x72" "NoteDocument$Finde\x72" "callCount" "I") ∈ BIG := big_t (List.mem_of_getElem? (i := 430) (by decide +kernel)) (by decide +kernel)
theorem wd_432 : (Jvm.Cond.lays "NoteDocument$Finde\x72" "NoteDocument$Finde\x72" "runCountAhead" "I") ∈ BIG := big_t (List.mem_of_getElem? (i := 432) (by decide +kernel)) (by decide +kernel)
theorem wd_434 : (Jvm.Cond.lays "NoteDocument$Finde\x72" "NoteDocument$Finde\x72" "callCountAhead" "I") ∈ BIG := big_t (List.mem_of_getElem? (i := 434) (by decide +kernel)) (by decide +kernel)
theorem wd_259 : (Jvm.Cond.lays "NoteDocument$Heap" "NoteDocument$Heap" "words" "[J") ∈ BIG := big_t (List.mem_of_getElem? (i := 259) (by decide +kernel)) (by decide +kernel)
theorem wd_261 : (Jvm.Cond.lays "NoteDocument$Heap" "NoteDocument$Heap" "top" "I") ∈ BIG := big_t (List.mem_of_getElem? (i := 261) (by decide +kernel)) (by decide +kernel)
theorem wd_448 : (Jvm.Cond.laysFinal "NoteDocument$Move\x72" "NoteDocument$Move\x72" "state" "LNoteDocument$State;") ∈ BIG := big_t (List.mem_of_getElem? (i := 448) (by decide +kernel)) (by decide +kernel)
theorem wd_450 : (Jvm.Cond.laysFinal "NoteDocument$Move\x72" "NoteDocument$Move\x72" "nodes" "LNoteDocument$Nodes;") ∈ BIG := big_t (List.mem_of_getElem? (i := 450) (by decide +kernel)) (by decide +kernel)
theorem wd_452 : (Jvm.Cond.laysFinal "NoteDocument$Move\x72" "NoteDocument$Move\x72" "goal" "[I") ∈ BIG := big_t (List.mem_of_getElem? (i := 452) (by decide +kernel)) (by decide +kernel)
theorem wd_454 : (Jvm.Cond.laysFinal "NoteDocument$Move\x72" "NoteDocument$Move\x72" "line" "[I") ∈ BIG := big_t (List.mem_of_getElem? (i := 454) (by decide +kernel)) (by decide +kernel)
theorem wd_456 : (Jvm.Cond.laysFinal "NoteDocument$Move\x72" "NoteDocument$Move\x72" "before" "[J") ∈ BIG := big_t (List.mem_of_getElem? (i := 456) (by decide +kernel)) (by decide +kernel)
theorem wd_194 : (Jvm.Cond.laysFinal "NoteDocument$Nodes" "NoteDocument$Nodes" "state" "LNoteDocument$State;") ∈ BIG := big_t (List.mem_of_getElem? (i := 194) (by decide +kernel)) (by decide +kernel)
theorem wd_196 : (Jvm.Cond.laysFinal "NoteDocument$Nodes" "NoteDocument$Nodes" "kind" "[I") ∈ BIG := big_t (List.mem_of_getElem? (i := 196) (by decide +kernel)) (by decide +kernel)
theorem wd_198 : (Jvm.Cond.laysFinal "NoteDocument$Nodes" "NoteDocument$Nodes" "of" "[I") ∈ BIG := big_t (List.mem_of_getElem? (i := 198) (by decide +kernel)) (by decide +kernel)
theorem wd_200 : (Jvm.Cond.laysFinal "NoteDocument$Nodes" "NoteDocument$Nodes" "first" "[I") ∈ BIG := big_t (List.mem_of_getElem? (i := 200) (by decide +kernel)) (by decide +kernel)
theorem wd_202 : (Jvm.Cond.laysFinal "NoteDocument$Nodes" "NoteDocument$Nodes" "second" "[I") ∈ BIG := big_t (List.mem_of_getElem? (i := 202) (by decide +kernel)) (by decide +kernel)
theorem wd_204 : (Jvm.Cond.laysFinal "NoteDocument$Nodes" "NoteDocument$Nodes" "third" "[I") ∈ BIG := big_t (List.mem_of_getElem? (i := 204) (by decide +kernel)) (by decide +kernel)
theorem wd_206 : (Jvm.Cond.laysFinal "NoteDocument$Nodes" "NoteDocument$Nodes" "weight" "[I") ∈ BIG := big_t (List.mem_of_getElem? (i := 206) (by decide +kernel)) (by decide +kernel)
theorem wd_208 : (Jvm.Cond.laysFinal "NoteDocument$Nodes" "NoteDocument$Nodes" "numbe\x72" "[J") ∈ BIG := big_t (List.mem_of_getElem? (i := 208) (by decide +kernel)) (by decide +kernel)
theorem wd_371 : (Jvm.Cond.laysFinal "NoteDocument$Runne\x72" "NoteDocument$Runne\x72" "desk" "LNoteDocument$Desk;") ∈ BIG := big_t (List.mem_of_getElem? (i := 371) (by decide +kernel)) (by decide +kernel)
theorem wd_373 : (Jvm.Cond.laysFinal "NoteDocument$Runne\x72" "NoteDocument$Runne\x72" "state" "LNoteDocument$State;") ∈ BIG := big_t (List.mem_of_getElem? (i := 373) (by decide +kernel)) (by decide +kernel)
theorem wd_375 : (Jvm.Cond.laysFinal "NoteDocument$Runne\x72" "NoteDocument$Runne\x72" "heap" "LNoteDocument$Heap;") ∈ BIG := big_t (List.mem_of_getElem? (i := 375) (by decide +kernel)) (by decide +kernel)
theorem wd_377 : (Jvm.Cond.laysFinal "NoteDocument$Runne\x72" "NoteDocument$Runne\x72" "nodes" "LNoteDocument$Nodes;") ∈ BIG := big_t (List.mem_of_getElem? (i := 377) (by decide +kernel)) (by decide +kernel)
theorem wd_379 : (Jvm.Cond.laysFinal "NoteDocument$Runne\x72" "NoteDocument$Runne\x72" "chains" "LNoteDocument$Chains;") ∈ BIG := big_t (List.mem_of_getElem? (i := 379) (by decide +kernel)) (by decide +kernel)
theorem wd_381 : (Jvm.Cond.laysFinal "NoteDocument$Runne\x72" "NoteDocument$Runne\x72" "text" "LNoteDocument$Text;") ∈ BIG := big_t (List.mem_of_getElem? (i := 381) (by decide +kernel)) (by decide +kernel)
theorem wd_383 : (Jvm.Cond.lays "NoteDocument$Runne\x72" "NoteDocument$Runne\x72" "given" "I") ∈ BIG := big_t (List.mem_of_getElem? (i := 383) (by decide +kernel)) (by decide +kernel)
theorem wd_385 : (Jvm.Cond.lays "NoteDocument$Runne\x72" "NoteDocument$Runne\x72" "alsoGiven" "I") ∈ BIG := big_t (List.mem_of_getElem? (i := 385) (by decide +kernel)) (by decide +kernel)
theorem wd_128 : (Jvm.Cond.lays "NoteDocument$State" "NoteDocument$State" "grids" "I") ∈ BIG := big_t (List.mem_of_getElem? (i := 128) (by decide +kernel)) (by decide +kernel)
theorem wd_130 : (Jvm.Cond.lays "NoteDocument$State" "NoteDocument$State" "notes" "I") ∈ BIG := big_t (List.mem_of_getElem? (i := 130) (by decide +kernel)) (by decide +kernel)
theorem wd_132 : (Jvm.Cond.lays "NoteDocument$State" "NoteDocument$State" "nodes" "I") ∈ BIG := big_t (List.mem_of_getElem? (i := 132) (by decide +kernel)) (by decide +kernel)
theorem wd_134 : (Jvm.Cond.laysFinal "NoteDocument$State" "NoteDocument$State" "columns" "[I") ∈ BIG := big_t (List.mem_of_getElem? (i := 134) (by decide +kernel)) (by decide +kernel)
theorem wd_136 : (Jvm.Cond.laysFinal "NoteDocument$State" "NoteDocument$State" "rows" "[I") ∈ BIG := big_t (List.mem_of_getElem? (i := 136) (by decide +kernel)) (by decide +kernel)
theorem wd_138 : (Jvm.Cond.laysFinal "NoteDocument$State" "NoteDocument$State" "content" "[J") ∈ BIG := big_t (List.mem_of_getElem? (i := 138) (by decide +kernel)) (by decide +kernel)
theorem wd_140 : (Jvm.Cond.laysFinal "NoteDocument$State" "NoteDocument$State" "held" "[J") ∈ BIG := big_t (List.mem_of_getElem? (i := 140) (by decide +kernel)) (by decide +kernel)
theorem wd_142 : (Jvm.Cond.laysFinal "NoteDocument$State" "NoteDocument$State" "othe\x72" "[J") ∈ BIG := big_t (List.mem_of_getElem? (i := 142) (by decide +kernel)) (by decide +kernel)
theorem wd_144 : (Jvm.Cond.laysFinal "NoteDocument$State" "NoteDocument$State" "named" "[I") ∈ BIG := big_t (List.mem_of_getElem? (i := 144) (by decide +kernel)) (by decide +kernel)
theorem wd_146 : (Jvm.Cond.laysFinal "NoteDocument$State" "NoteDocument$State" "body" "[I") ∈ BIG := big_t (List.mem_of_getElem? (i := 146) (by decide +kernel)) (by decide +kernel)
theorem wd_148 : (Jvm.Cond.laysFinal "NoteDocument$State" "NoteDocument$State" "parts" "[I") ∈ BIG := big_t (List.mem_of_getElem? (i := 148) (by decide +kernel)) (by decide +kernel)
theorem wd_150 : (Jvm.Cond.laysFinal "NoteDocument$State" "NoteDocument$State" "partCount" "[I") ∈ BIG := big_t (List.mem_of_getElem? (i := 150) (by decide +kernel)) (by decide +kernel)
theorem wd_152 : (Jvm.Cond.laysFinal "NoteDocument$State" "NoteDocument$State" "refRow" "[I") ∈ BIG := big_t (List.mem_of_getElem? (i := 152) (by decide +kernel)) (by decide +kernel)
theorem wd_154 : (Jvm.Cond.laysFinal "NoteDocument$State" "NoteDocument$State" "refColumn" "[I") ∈ BIG := big_t (List.mem_of_getElem? (i := 154) (by decide +kernel)) (by decide +kernel)
theorem wd_156 : (Jvm.Cond.laysFinal "NoteDocument$State" "NoteDocument$State" "refToRow" "[I") ∈ BIG := big_t (List.mem_of_getElem? (i := 156) (by decide +kernel)) (by decide +kernel)
theorem wd_158 : (Jvm.Cond.laysFinal "NoteDocument$State" "NoteDocument$State" "torn" "[Z") ∈ BIG := big_t (List.mem_of_getElem? (i := 158) (by decide +kernel)) (by decide +kernel)
theorem wd_160 : (Jvm.Cond.laysFinal "NoteDocument$State" "NoteDocument$State" "record" "[I") ∈ BIG := big_t (List.mem_of_getElem? (i := 160) (by decide +kernel)) (by decide +kernel)
theorem wd_162 : (Jvm.Cond.lays "NoteDocument$State" "NoteDocument$State" "time" "I") ∈ BIG := big_t (List.mem_of_getElem? (i := 162) (by decide +kernel)) (by decide +kernel)
theorem wd_164 : (Jvm.Cond.lays "NoteDocument$State" "NoteDocument$State" "seed" "I") ∈ BIG := big_t (List.mem_of_getElem? (i := 164) (by decide +kernel)) (by decide +kernel)
theorem wd_166 : (Jvm.Cond.lays "NoteDocument$State" "NoteDocument$State" "ticks" "I") ∈ BIG := big_t (List.mem_of_getElem? (i := 166) (by decide +kernel)) (by decide +kernel)
theorem wd_356 : (Jvm.Cond.laysFinal "NoteDocument$Text" "NoteDocument$Text" "heap" "LNoteDocument$Heap;") ∈ BIG := big_t (List.mem_of_getElem? (i := 356) (by decide +kernel)) (by decide +kernel)
theorem wd_358 : (Jvm.Cond.lays "NoteDocument$Text" "NoteDocument$Text" "row" "I") ∈ BIG := big_t (List.mem_of_getElem? (i := 358) (by decide +kernel)) (by decide +kernel)
theorem wd_360 : (Jvm.Cond.lays "NoteDocument$Text" "NoteDocument$Text" "count" "I") ∈ BIG := big_t (List.mem_of_getElem? (i := 360) (by decide +kernel)) (by decide +kernel)
theorem wd_2155 : (Jvm.Cond.laysFinal "NoteDocumentModel" "NoteDocumentModel" "now" "LNoteDocumentModel$State;") ∈ BIG := big_t (List.mem_of_getElem? (i := 2155) (by decide +kernel)) (by decide +kernel)
theorem wd_2157 : (Jvm.Cond.laysFinal "NoteDocumentModel" "NoteDocumentModel" "kept" "[LNoteDocumentModel$State;") ∈ BIG := big_t (List.mem_of_getElem? (i := 2157) (by decide +kernel)) (by decide +kernel)
theorem wd_2159 : (Jvm.Cond.lays "NoteDocumentModel" "NoteDocumentModel" "keptMany" "I") ∈ BIG := big_t (List.mem_of_getElem? (i := 2159) (by decide +kernel)) (by decide +kernel)
theorem wd_2161 : (Jvm.Cond.lays "NoteDocumentModel" "NoteDocumentModel" "way" "I") ∈ BIG := big_t (List.mem_of_getElem? (i := 2161) (by decide +kernel)) (by decide +kernel)
theorem wd_2163 : (Jvm.Cond.lays "NoteDocumentModel" "NoteDocumentModel" "runs" "I") ∈ BIG := big_t (List.mem_of_getElem? (i := 2163) (by decide +kernel)) (by decide +kernel)
theorem wd_2165 : (Jvm.Cond.lays "NoteDocumentModel" "NoteDocumentModel" "calls" "I") ∈ BIG := big_t (List.mem_of_getElem? (i := 2165) (by decide +kernel)) (by decide +kernel)
theorem wd_2167 : (Jvm.Cond.laysFinal "NoteDocumentModel" "NoteDocumentModel" "kinds" "[I") ∈ BIG := big_t (List.mem_of_getElem? (i := 2167) (by decide +kernel)) (by decide +kernel)
theorem wd_2169 : (Jvm.Cond.laysFinal "NoteDocumentModel" "NoteDocumentModel" "signs" "[I") ∈ BIG := big_t (List.mem_of_getElem? (i := 2169) (by decide +kernel)) (by decide +kernel)
theorem wd_2171 : (Jvm.Cond.laysFinal "NoteDocumentModel" "NoteDocumentModel" "figures" "[J") ∈ BIG := big_t (List.mem_of_getElem? (i := 2171) (by decide +kernel)) (by decide +kernel)
theorem wd_2173 : (Jvm.Cond.laysFinal "NoteDocumentModel" "NoteDocumentModel" "ones" "[I") ∈ BIG := big_t (List.mem_of_getElem? (i := 2173) (by decide +kernel)) (by decide +kernel)
theorem wd_2175 : (Jvm.Cond.laysFinal "NoteDocumentModel" "NoteDocumentModel" "others" "[I") ∈ BIG := big_t (List.mem_of_getElem? (i := 2175) (by decide +kernel)) (by decide +kernel)
theorem wd_2177 : (Jvm.Cond.laysFinal "NoteDocumentModel" "NoteDocumentModel" "thirds" "[I") ∈ BIG := big_t (List.mem_of_getElem? (i := 2177) (by decide +kernel)) (by decide +kernel)
theorem wd_2179 : (Jvm.Cond.laysFinal "NoteDocumentModel" "NoteDocumentModel" "weights" "[I") ∈ BIG := big_t (List.mem_of_getElem? (i := 2179) (by decide +kernel)) (by decide +kernel)
theorem wd_2181 : (Jvm.Cond.laysFinal "NoteDocumentModel" "NoteDocumentModel" "main" "LNoteDocumentModel$Engine;") ∈ BIG := big_t (List.mem_of_getElem? (i := 2181) (by decide +kernel)) (by decide +kernel)
theorem wd_2183 : (Jvm.Cond.laysFinal "NoteDocumentModel" "NoteDocumentModel" "anew" "LNoteDocumentModel$Engine;") ∈ BIG := big_t (List.mem_of_getElem? (i := 2183) (by decide +kernel)) (by decide +kernel)
theorem wd_2185 : (Jvm.Cond.laysFinal "NoteDocumentModel" "NoteDocumentModel" "had" "[LNoteDocumentModel$Found;") ∈ BIG := big_t (List.mem_of_getElem? (i := 2185) (by decide +kernel)) (by decide +kernel)
theorem wd_2187 : (Jvm.Cond.lays "NoteDocumentModel" "NoteDocumentModel" "last" "I") ∈ BIG := big_t (List.mem_of_getElem? (i := 2187) (by decide +kernel)) (by decide +kernel)
theorem wd_2073 : (Jvm.Cond.laysFinal "NoteDocumentModel$Engine" "NoteDocumentModel$Engine" "counts" "Z") ∈ BIG := big_t (List.mem_of_getElem? (i := 2073) (by decide +kernel)) (by decide +kernel)
theorem wd_2075 : (Jvm.Cond.lays "NoteDocumentModel$Engine" "NoteDocumentModel$Engine" "found" "[LNoteDocumentModel$Found;") ∈ BIG := big_t (List.mem_of_getElem? (i := 2075) (by decide +kernel)) (by decide +kernel)
theorem wd_2077 : (Jvm.Cond.lays "NoteDocumentModel$Engine" "NoteDocumentModel$Engine" "scenario" "I") ∈ BIG := big_t (List.mem_of_getElem? (i := 2077) (by decide +kernel)) (by decide +kernel)
theorem wd_2079 : (Jvm.Cond.lays "NoteDocumentModel$Engine" "NoteDocumentModel$Engine" "tried" "I") ∈ BIG := big_t (List.mem_of_getElem? (i := 2079) (by decide +kernel)) (by decide +kernel)
theorem wd_2081 : (Jvm.Cond.lays "NoteDocumentModel$Engine" "NoteDocumentModel$Engine" "trial" "J") ∈ BIG := big_t (List.mem_of_getElem? (i := 2081) (by decide +kernel)) (by decide +kernel)
theorem wd_2083 : (Jvm.Cond.lays "NoteDocumentModel$Engine" "NoteDocumentModel$Engine" "change" "I") ∈ BIG := big_t (List.mem_of_getElem? (i := 2083) (by decide +kernel)) (by decide +kernel)
theorem wd_2085 : (Jvm.Cond.laysFinal "NoteDocumentModel$Engine" "NoteDocumentModel$Engine" "fresh" "[I") ∈ BIG := big_t (List.mem_of_getElem? (i := 2085) (by decide +kernel)) (by decide +kernel)
theorem wd_2087 : (Jvm.Cond.laysFinal "NoteDocumentModel$Engine" "NoteDocumentModel$Engine" "pile" "[I") ∈ BIG := big_t (List.mem_of_getElem? (i := 2087) (by decide +kernel)) (by decide +kernel)
theorem wd_2089 : (Jvm.Cond.laysFinal "NoteDocumentModel$Engine" "NoteDocumentModel$Engine" "along" "[I") ∈ BIG := big_t (List.mem_of_getElem? (i := 2089) (by decide +kernel)) (by decide +kernel)
theorem wd_2091 : (Jvm.Cond.laysFinal "NoteDocumentModel$Engine" "NoteDocumentModel$Engine" "places" "[I") ∈ BIG := big_t (List.mem_of_getElem? (i := 2091) (by decide +kernel)) (by decide +kernel)
theorem wd_2093 : (Jvm.Cond.lays "NoteDocumentModel$Engine" "NoteDocumentModel$Engine" "top" "I") ∈ BIG := big_t (List.mem_of_getElem? (i := 2093) (by decide +kernel)) (by decide +kernel)
theorem wd_2095 : (Jvm.Cond.lays "NoteDocumentModel$Engine" "NoteDocumentModel$Engine" "need" "I") ∈ BIG := big_t (List.mem_of_getElem? (i := 2095) (by decide +kernel)) (by decide +kernel)
theorem wd_2097 : (Jvm.Cond.laysFinal "NoteDocumentModel$Engine" "NoteDocumentModel$Engine" "marks" "[I") ∈ BIG := big_t (List.mem_of_getElem? (i := 2097) (by decide +kernel)) (by decide +kernel)
theorem wd_2099 : (Jvm.Cond.lays "NoteDocumentModel$Engine" "NoteDocumentModel$Engine" "mark" "I") ∈ BIG := big_t (List.mem_of_getElem? (i := 2099) (by decide +kernel)) (by decide +kernel)
theorem wd_2101 : (Jvm.Cond.laysFinal "NoteDocumentModel$Engine" "NoteDocumentModel$Engine" "reads" "[I") ∈ BIG := big_t (List.mem_of_getElem? (i := 2101) (by decide +kernel)) (by decide +kernel)
theorem wd_2103 : (Jvm.Cond.laysFinal "NoteDocumentModel$Engine" "NoteDocumentModel$Engine" "seen" "[J") ∈ BIG := big_t (List.mem_of_getElem? (i := 2103) (by decide +kernel)) (by decide +kernel)
theorem wd_2105 : (Jvm.Cond.laysFinal "NoteDocumentModel$Engine" "NoteDocumentModel$Engine" "values" "[LNoteDocumentModel$Val;") ∈ BIG := big_t (List.mem_of_getElem? (i := 2105) (by decide +kernel)) (by decide +kernel)
theorem wd_2107 : (Jvm.Cond.lays "NoteDocumentModel$Engine" "NoteDocumentModel$Engine" "readMany" "I") ∈ BIG := big_t (List.mem_of_getElem? (i := 2107) (by decide +kernel)) (by decide +kernel)
theorem wd_2109 : (Jvm.Cond.lays "NoteDocumentModel$Engine" "NoteDocumentModel$Engine" "itsKind" "I") ∈ BIG := big_t (List.mem_of_getElem? (i := 2109) (by decide +kernel)) (by decide +kernel)
theorem wd_2111 : (Jvm.Cond.lays "NoteDocumentModel$Engine" "NoteDocumentModel$Engine" "itsNumbe\x72" "J") ∈ BIG := big_t (List.mem_of_getElem? (i := 2111) (by decide +kernel)) (by decide +kernel)
theorem wd_2113 : (Jvm.Cond.lays "NoteDocumentModel$Engine" "NoteDocumentModel$Engine" "itsWay" "LNoteDocumentModel$Way;") ∈ BIG := big_t (List.mem_of_getElem? (i := 2113) (by decide +kernel)) (by decide +kernel)
theorem wd_2115 : (Jvm.Cond.lays "NoteDocumentModel$Engine" "NoteDocumentModel$Engine" "spare" "[LNoteDocumentModel$Val;") ∈ BIG := big_t (List.mem_of_getElem? (i := 2115) (by decide +kernel)) (by decide +kernel)
theorem wd_2117 : (Jvm.Cond.lays "NoteDocumentModel$Engine" "NoteDocumentModel$Engine" "spareMany" "I") ∈ BIG := big_t (List.mem_of_getElem? (i := 2117) (by decide +kernel)) (by decide +kernel)
theorem wd_2119 : (Jvm.Cond.lays "NoteDocumentModel$Engine" "NoteDocumentModel$Engine" "spareRows" "[LNoteDocumentModel$Val;") ∈ BIG := big_t (List.mem_of_getElem? (i := 2119) (by decide +kernel)) (by decide +kernel)
theorem wd_2121 : (Jvm.Cond.lays "NoteDocumentModel$Engine" "NoteDocumentModel$Engine" "rowMany" "I") ∈ BIG := big_t (List.mem_of_getElem? (i := 2121) (by decide +kernel)) (by decide +kernel)
theorem wd_2123 : (Jvm.Cond.laysFinal "NoteDocumentModel$Engine" "NoteDocumentModel$Engine" "spareFound" "[LNoteDocumentModel$Found;") ∈ BIG := big_t (List.mem_of_getElem? (i := 2123) (by decide +kernel)) (by decide +kernel)
theorem wd_2125 : (Jvm.Cond.laysFinal "NoteDocumentModel$Engine" "NoteDocumentModel$Engine" "this$0" "LNoteDocumentModel;") ∈ BIG := big_t (List.mem_of_getElem? (i := 2125) (by decide +kernel)) (by decide +kernel)
theorem wd_1990 : (Jvm.Cond.laysFinal "NoteDocumentModel$State" "NoteDocumentModel$State" "rows" "[I") ∈ BIG := big_t (List.mem_of_getElem? (i := 1990) (by decide +kernel)) (by decide +kernel)
theorem wd_1992 : (Jvm.Cond.laysFinal "NoteDocumentModel$State" "NoteDocumentModel$State" "columns" "[I") ∈ BIG := big_t (List.mem_of_getElem? (i := 1992) (by decide +kernel)) (by decide +kernel)
theorem wd_1994 : (Jvm.Cond.lays "NoteDocumentModel$State" "NoteDocumentModel$State" "grids" "I") ∈ BIG := big_t (List.mem_of_getElem? (i := 1994) (by decide +kernel)) (by decide +kernel)
theorem wd_1996 : (Jvm.Cond.laysFinal "NoteDocumentModel$State" "NoteDocumentModel$State" "types" "[I") ∈ BIG := big_t (List.mem_of_getElem? (i := 1996) (by decide +kernel)) (by decide +kernel)
theorem wd_1998 : (Jvm.Cond.laysFinal "NoteDocumentModel$State" "NoteDocumentModel$State" "numbers" "[J") ∈ BIG := big_t (List.mem_of_getElem? (i := 1998) (by decide +kernel)) (by decide +kernel)
theorem wd_2000 : (Jvm.Cond.laysFinal "NoteDocumentModel$State" "NoteDocumentModel$State" "formulas" "[I") ∈ BIG := big_t (List.mem_of_getElem? (i := 2000) (by decide +kernel)) (by decide +kernel)
theorem wd_2002 : (Jvm.Cond.laysFinal "NoteDocumentModel$State" "NoteDocumentModel$State" "held" "[Z") ∈ BIG := big_t (List.mem_of_getElem? (i := 2002) (by decide +kernel)) (by decide +kernel)
theorem wd_2004 : (Jvm.Cond.laysFinal "NoteDocumentModel$State" "NoteDocumentModel$State" "holds" "[J") ∈ BIG := big_t (List.mem_of_getElem? (i := 2004) (by decide +kernel)) (by decide +kernel)
theorem wd_2006 : (Jvm.Cond.laysFinal "NoteDocumentModel$State" "NoteDocumentModel$State" "found" "[LNoteDocumentModel$Found;") ∈ BIG := big_t (List.mem_of_getElem? (i := 2006) (by decide +kernel)) (by decide +kernel)
theorem wd_2008 : (Jvm.Cond.laysFinal "NoteDocumentModel$State" "NoteDocumentModel$State" "names" "[I") ∈ BIG := big_t (List.mem_of_getElem? (i := 2008) (by decide +kernel)) (by decide +kernel)
theorem wd_2010 : (Jvm.Cond.laysFinal "NoteDocumentModel$State" "NoteDocumentModel$State" "bodies" "[I") ∈ BIG := big_t (List.mem_of_getElem? (i := 2010) (by decide +kernel)) (by decide +kernel)
theorem wd_2012 : (Jvm.Cond.lays "NoteDocumentModel$State" "NoteDocumentModel$State" "notes" "I") ∈ BIG := big_t (List.mem_of_getElem? (i := 2012) (by decide +kernel)) (by decide +kernel)
theorem wd_2014 : (Jvm.Cond.laysFinal "NoteDocumentModel$State" "NoteDocumentModel$State" "parts" "[I") ∈ BIG := big_t (List.mem_of_getElem? (i := 2014) (by decide +kernel)) (by decide +kernel)
theorem wd_2016 : (Jvm.Cond.laysFinal "NoteDocumentModel$State" "NoteDocumentModel$State" "noteParts" "[I") ∈ BIG := big_t (List.mem_of_getElem? (i := 2016) (by decide +kernel)) (by decide +kernel)
theorem wd_2018 : (Jvm.Cond.laysFinal "NoteDocumentModel$State" "NoteDocumentModel$State" "ove\x72" "[Z") ∈ BIG := big_t (List.mem_of_getElem? (i := 2018) (by decide +kernel)) (by decide +kernel)
theorem wd_2020 : (Jvm.Cond.laysFinal "NoteDocumentModel$State" "NoteDocumentModel$State" "overs" "[J") ∈ BIG := big_t (List.mem_of_getElem? (i := 2020) (by decide +kernel)) (by decide +kernel)
theorem wd_2022 : (Jvm.Cond.lays "NoteDocumentModel$State" "NoteDocumentModel$State" "time" "J") ∈ BIG := big_t (List.mem_of_getElem? (i := 2022) (by decide +kernel)) (by decide +kernel)
theorem wd_2024 : (Jvm.Cond.lays "NoteDocumentModel$State" "NoteDocumentModel$State" "seed" "J") ∈ BIG := big_t (List.mem_of_getElem? (i := 2024) (by decide +kernel)) (by decide +kernel)
theorem wd_2026 : (Jvm.Cond.lays "NoteDocumentModel$State" "NoteDocumentModel$State" "ticks" "I") ∈ BIG := big_t (List.mem_of_getElem? (i := 2026) (by decide +kernel)) (by decide +kernel)
theorem wd_2028 : (Jvm.Cond.lays "NoteDocumentModel$State" "NoteDocumentModel$State" "nodes" "I") ∈ BIG := big_t (List.mem_of_getElem? (i := 2028) (by decide +kernel)) (by decide +kernel)
theorem wd_2030 : (Jvm.Cond.laysFinal "NoteDocumentModel$State" "NoteDocumentModel$State" "places" "[I") ∈ BIG := big_t (List.mem_of_getElem? (i := 2030) (by decide +kernel)) (by decide +kernel)
theorem wd_2032 : (Jvm.Cond.laysFinal "NoteDocumentModel$State" "NoteDocumentModel$State" "torn" "[Z") ∈ BIG := big_t (List.mem_of_getElem? (i := 2032) (by decide +kernel)) (by decide +kernel)
theorem wd_2340 : (Jvm.Cond.lays "NoteDocumentModel$Val" "NoteDocumentModel$Val" "kind" "I") ∈ BIG := big_t (List.mem_of_getElem? (i := 2340) (by decide +kernel)) (by decide +kernel)
theorem wd_2342 : (Jvm.Cond.lays "NoteDocumentModel$Val" "NoteDocumentModel$Val" "numbe\x72" "J") ∈ BIG := big_t (List.mem_of_getElem? (i := 2342) (by decide +kernel)) (by decide +kernel)
theorem wd_2344 : (Jvm.Cond.lays "NoteDocumentModel$Val" "NoteDocumentModel$Val" "way" "LNoteDocumentModel$Way;") ∈ BIG := big_t (List.mem_of_getElem? (i := 2344) (by decide +kernel)) (by decide +kernel)
theorem wd_2346 : (Jvm.Cond.lays "NoteDocumentModel$Val" "NoteDocumentModel$Val" "size" "I") ∈ BIG := big_t (List.mem_of_getElem? (i := 2346) (by decide +kernel)) (by decide +kernel)
theorem wd_2348 : (Jvm.Cond.lays "NoteDocumentModel$Val" "NoteDocumentModel$Val" "kinds" "[I") ∈ BIG := big_t (List.mem_of_getElem? (i := 2348) (by decide +kernel)) (by decide +kernel)
theorem wd_2350 : (Jvm.Cond.lays "NoteDocumentModel$Val" "NoteDocumentModel$Val" "numbers" "[J") ∈ BIG := big_t (List.mem_of_getElem? (i := 2350) (by decide +kernel)) (by decide +kernel)
theorem wd_2352 : (Jvm.Cond.lays "NoteDocumentModel$Val" "NoteDocumentModel$Val" "ways" "[LNoteDocumentModel$Way;") ∈ BIG := big_t (List.mem_of_getElem? (i := 2352) (by decide +kernel)) (by decide +kernel)
theorem wd_2354 : (Jvm.Cond.lays "NoteDocumentModel$Val" "NoteDocumentModel$Val" "text" "[I") ∈ BIG := big_t (List.mem_of_getElem? (i := 2354) (by decide +kernel)) (by decide +kernel)
def rC_D : String := "NoteDocument"
def fC_D : u_T := fun k => match k with
  | 0 => ("NoteDocument", "state", "LNoteDocument$State;", true)
  | 1 => ("NoteDocument", "nodes", "LNoteDocument$Nodes;", true)
  | 2 => ("NoteDocument", "chains", "LNoteDocument$Chains;", true)
  | 3 => ("NoteDocument", "heap", "LNoteDocument$Heap;", true)
  | 4 => ("NoteDocument", "desk", "LNoteDocument$Desk;", true)
  | 5 => ("NoteDocument", "finde\x72", "LNoteDocument$Finder;", true)
  | 6 => ("NoteDocument", "move\x72", "LNoteDocument$Mover;", true)
  | 7 => ("NoteDocument", "kept", "[LNoteDocument$State;", true)
  | 8 => ("NoteDocument", "firstKept", "I", false)
  | 9 => ("NoteDocument", "keptCount", "I", false)
  | _ => ("NoteDocument", "way", "I", false)
def tC_D : Nat → FieldType := fun k => match k with
  | 0 => .object "NoteDocument$State"
  | 1 => .object "NoteDocument$Nodes"
  | 2 => .object "NoteDocument$Chains"
  | 3 => .object "NoteDocument$Heap"
  | 4 => .object "NoteDocument$Desk"
  | 5 => .object "NoteDocument$Finde\x72"
  | 6 => .object "NoteDocument$Move\x72"
  | 7 => .array (.object "NoteDocument$State")
  | 8 => .int
  | 9 => .int
  | _ => .int
theorem nC_D : ∀ a, a < 11 → ∀ b, b < 11 → a ≠ b → (fC_D a).2.1 ≠ (fC_D b).2.1 := by decide +kernel
theorem oC_D : ∀ k, k < 11 → parseFieldDescriptor (fC_D k).2.2.1 = some (tC_D k) := by decide +kernel
theorem iC_D : ∀ w ∈ u_ws rC_D fC_D 11, w ∈ BIG := by
  intro w hw
  obtain ⟨k, hk, rfl⟩ := List.mem_map.mp hw
  have hk := List.mem_range.mp hk
  rcases (show k = 0 ∨ k = 1 ∨ k = 2 ∨ k = 3 ∨ k = 4 ∨ k = 5 ∨ k = 6 ∨ k = 7 ∨ k = 8 ∨ k = 9 ∨ k = 10 by omega) with rfl | rfl | rfl | rfl | rfl | rfl | rfl | rfl | rfl | rfl | rfl
  · exact wd_471
  · exact wd_473
  · exact wd_475
  · exact wd_477
  · exact wd_479
  · exact wd_481
  · exact wd_483
  · exact wd_485
  · exact wd_487
  · exact wd_489
  · exact wd_491
def rC_Ch : String := "NoteDocument$Chains"
def fC_Ch : u_T := fun k => match k with
  | 0 => ("NoteDocument$Chains", "cell", "[I", false)
  | 1 => ("NoteDocument$Chains", "behind", "[I", false)
  | 2 => ("NoteDocument$Chains", "size", "[I", false)
  | 3 => ("NoteDocument$Chains", "nextLikely", "[I", false)
  | 4 => ("NoteDocument$Chains", "firstLikely", "[I", false)
  | _ => ("NoteDocument$Chains", "count", "I", false)
def tC_Ch : Nat → FieldType := fun k => match k with
  | 0 => .array .int
  | 1 => .array .int
  | 2 => .array .int
  | 3 => .array .int
  | 4 => .array .int
  | _ => .int
theorem nC_Ch : ∀ a, a < 6 → ∀ b, b < 6 → a ≠ b → (fC_Ch a).2.1 ≠ (fC_Ch b).2.1 := by decide +kernel
theorem oC_Ch : ∀ k, k < 6 → parseFieldDescriptor (fC_Ch k).2.2.1 = some (tC_Ch k) := by decide +kernel
theorem iC_Ch : ∀ w ∈ u_ws rC_Ch fC_Ch 6, w ∈ BIG := by
  intro w hw
  obtain ⟨k, hk, rfl⟩ := List.mem_map.mp hw
  have hk := List.mem_range.mp hk
  rcases (show k = 0 ∨ k = 1 ∨ k = 2 ∨ k = 3 ∨ k = 4 ∨ k = 5 by omega) with rfl | rfl | rfl | rfl | rfl | rfl
  · exact wd_232
  · exact wd_234
  · exact wd_236
  · exact wd_238
  · exact wd_240
  · exact wd_242
def rC_De : String := "NoteDocument$Desk"
def fC_De : u_T := fun k => match k with
  | 0 => ("NoteDocument$Desk", "state", "LNoteDocument$State;", true)
  | 1 => ("NoteDocument$Desk", "heap", "LNoteDocument$Heap;", true)
  | 2 => ("NoteDocument$Desk", "ove\x72", "[J", true)
  | 3 => ("NoteDocument$Desk", "now", "I", false)
  | 4 => ("NoteDocument$Desk", "checked", "[I", true)
  | 5 => ("NoteDocument$Desk", "isFresh", "Z", false)
  | 6 => ("NoteDocument$Desk", "freshNow", "I", false)
  | 7 => ("NoteDocument$Desk", "freshChecked", "[I", true)
  | 8 => ("NoteDocument$Desk", "freshRecord", "[I", true)
  | 9 => ("NoteDocument$Desk", "orde\x72", "[I", true)
  | 10 => ("NoteDocument$Desk", "low", "[I", true)
  | 11 => ("NoteDocument$Desk", "isInCircle", "[Z", true)
  | 12 => ("NoteDocument$Desk", "reade\x72", "I", false)
  | 13 => ("NoteDocument$Desk", "missing", "I", false)
  | 14 => ("NoteDocument$Desk", "reads", "[J", true)
  | 15 => ("NoteDocument$Desk", "readTurn", "[I", true)
  | 16 => ("NoteDocument$Desk", "readCount", "I", false)
  | 17 => ("NoteDocument$Desk", "turn", "I", false)
  | _ => ("NoteDocument$Desk", "recordAhead", "[I", true)
def tC_De : Nat → FieldType := fun k => match k with
  | 0 => .object "NoteDocument$State"
  | 1 => .object "NoteDocument$Heap"
  | 2 => .array .long
  | 3 => .int
  | 4 => .array .int
  | 5 => .boolean
  | 6 => .int
  | 7 => .array .int
  | 8 => .array .int
  | 9 => .array .int
  | 10 => .array .int
  | 11 => .array .boolean
  | 12 => .int
  | 13 => .int
  | 14 => .array .long
  | 15 => .array .int
  | 16 => .int
  | 17 => .int
  | _ => .array .int
theorem nC_De : ∀ a, a < 19 → ∀ b, b < 19 → a ≠ b → (fC_De a).2.1 ≠ (fC_De b).2.1 := by decide +kernel
theorem oC_De : ∀ k, k < 19 → parseFieldDescriptor (fC_De k).2.2.1 = some (tC_De k) := by decide +kernel
theorem iC_De : ∀ w ∈ u_ws rC_De fC_De 19, w ∈ BIG := by
  intro w hw
  obtain ⟨k, hk, rfl⟩ := List.mem_map.mp hw
  have hk := List.mem_range.mp hk
  rcases (show k = 0 ∨ k = 1 ∨ k = 2 ∨ k = 3 ∨ k = 4 ∨ k = 5 ∨ k = 6 ∨ k = 7 ∨ k = 8 ∨ k = 9 ∨ k = 10 ∨ k = 11 ∨ k = 12 ∨ k = 13 ∨ k = 14 ∨ k = 15 ∨ k = 16 ∨ k = 17 ∨ k = 18 by omega) with rfl | rfl | rfl | rfl | rfl | rfl | rfl | rfl | rfl | rfl | rfl | rfl | rfl | rfl | rfl | rfl | rfl | rfl | rfl
  · exact wd_300
  · exact wd_302
  · exact wd_304
  · exact wd_306
  · exact wd_308
  · exact wd_310
  · exact wd_312
  · exact wd_314
  · exact wd_316
  · exact wd_318
  · exact wd_320
  · exact wd_322
  · exact wd_324
  · exact wd_326
  · exact wd_328
  · exact wd_330
  · exact wd_332
  · exact wd_334
  · exact wd_336
def rC_Fi : String := "NoteDocument$Finde\x72"
def fC_Fi : u_T := fun k => match k with
  | 0 => ("NoteDocument$Finde\x72", "desk", "LNoteDocument$Desk;", true)
  | 1 => ("NoteDocument$Finde\x72", "heap", "LNoteDocument$Heap;", true)
  | 2 => ("NoteDocument$Finde\x72", "state", "LNoteDocument$State;", true)
  | 3 => ("NoteDocument$Finde\x72", "runne\x72", "LNoteDocument$Runner;", true)
  | 4 => ("NoteDocument$Finde\x72", "stack", "[I", true)
  | 5 => ("NoteDocument$Finde\x72", "at", "[I", true)
  | 6 => ("NoteDocument$Finde\x72", "depth", "I", false)
  | 7 => ("NoteDocument$Finde\x72", "pending", "[I", true)
  | 8 => ("NoteDocument$Finde\x72", "pendingCount", "I", false)
  | 9 => ("NoteDocument$Finde\x72", "opened", "I", false)
  | 10 => ("NoteDocument$Finde\x72", "runCount", "I", false)
  | 11 => ("NoteDocument$Finde\x72", "callCount", "I", false)
  | 12 => ("NoteDocument$Finde\x72", "runCountAhead", "I", false)
  | _ => ("NoteDocument$Finde\x72", "callCountAhead", "I", false)
def tC_Fi : Nat → FieldType := fun k => match k with
  | 0 => .object "NoteDocument$Desk"
  | 1 => .object "NoteDocument$Heap"
  | 2 => .object "NoteDocument$State"
  | 3 => .object "NoteDocument$Runne\x72"
  | 4 => .array .int
  | 5 => .array .int
  | 6 => .int
  | 7 => .array .int
  | 8 => .int
  | 9 => .int
  | 10 => .int
  | 11 => .int
  | 12 => .int
  | _ => .int
theorem nC_Fi : ∀ a, a < 14 → ∀ b, b < 14 → a ≠ b → (fC_Fi a).2.1 ≠ (fC_Fi b).2.1 := by decide +kernel
theorem oC_Fi : ∀ k, k < 14 → parseFieldDescriptor (fC_Fi k).2.2.1 = some (tC_Fi k) := by decide +kernel
theorem iC_Fi : ∀ w ∈ u_ws rC_Fi fC_Fi 14, w ∈ BIG := by
  intro w hw
  obtain ⟨k, hk, rfl⟩ := List.mem_map.mp hw
  have hk := List.mem_range.mp hk
  rcases (show k = 0 ∨ k = 1 ∨ k = 2 ∨ k = 3 ∨ k = 4 ∨ k = 5 ∨ k = 6 ∨ k = 7 ∨ k = 8 ∨ k = 9 ∨ k = 10 ∨ k = 11 ∨ k = 12 ∨ k = 13 by omega) with rfl | rfl | rfl | rfl | rfl | rfl | rfl | rfl | rfl | rfl | rfl | rfl | rfl | rfl
  · exact wd_408
  · exact wd_410
  · exact wd_412
  · exact wd_414
  · exact wd_416
  · exact wd_418
  · exact wd_420
  · exact wd_422
  · exact wd_424
  · exact wd_426
  · exact wd_428
  · exact wd_430
  · exact wd_432
  · exact wd_434
def rC_He : String := "NoteDocument$Heap"
def fC_He : u_T := fun k => match k with
  | 0 => ("NoteDocument$Heap", "words", "[J", false)
  | _ => ("NoteDocument$Heap", "top", "I", false)
def tC_He : Nat → FieldType := fun k => match k with
  | 0 => .array .long
  | _ => .int
theorem nC_He : ∀ a, a < 2 → ∀ b, b < 2 → a ≠ b → (fC_He a).2.1 ≠ (fC_He b).2.1 := by decide +kernel
theorem oC_He : ∀ k, k < 2 → parseFieldDescriptor (fC_He k).2.2.1 = some (tC_He k) := by decide +kernel
theorem iC_He : ∀ w ∈ u_ws rC_He fC_He 2, w ∈ BIG := by
  intro w hw
  obtain ⟨k, hk, rfl⟩ := List.mem_map.mp hw
  have hk := List.mem_range.mp hk
  rcases (show k = 0 ∨ k = 1 by omega) with rfl | rfl
  · exact wd_259
  · exact wd_261
def rC_Mo : String := "NoteDocument$Move\x72"
def fC_Mo : u_T := fun k => match k with
  | 0 => ("NoteDocument$Move\x72", "state", "LNoteDocument$State;", true)
  | 1 => ("NoteDocument$Move\x72", "nodes", "LNoteDocument$Nodes;", true)
  | 2 => ("NoteDocument$Move\x72", "goal", "[I", true)
  | 3 => ("NoteDocument$Move\x72", "line", "[I", true)
  | _ => ("NoteDocument$Move\x72", "before", "[J", true)
def tC_Mo : Nat → FieldType := fun k => match k with
  | 0 => .object "NoteDocument$State"
  | 1 => .object "NoteDocument$Nodes"
  | 2 => .array .int
  | 3 => .array .int
  | _ => .array .long
theorem nC_Mo : ∀ a, a < 5 → ∀ b, b < 5 → a ≠ b → (fC_Mo a).2.1 ≠ (fC_Mo b).2.1 := by decide +kernel
theorem oC_Mo : ∀ k, k < 5 → parseFieldDescriptor (fC_Mo k).2.2.1 = some (tC_Mo k) := by decide +kernel
theorem iC_Mo : ∀ w ∈ u_ws rC_Mo fC_Mo 5, w ∈ BIG := by
  intro w hw
  obtain ⟨k, hk, rfl⟩ := List.mem_map.mp hw
  have hk := List.mem_range.mp hk
  rcases (show k = 0 ∨ k = 1 ∨ k = 2 ∨ k = 3 ∨ k = 4 by omega) with rfl | rfl | rfl | rfl | rfl
  · exact wd_448
  · exact wd_450
  · exact wd_452
  · exact wd_454
  · exact wd_456
def rC_No : String := "NoteDocument$Nodes"
def fC_No : u_T := fun k => match k with
  | 0 => ("NoteDocument$Nodes", "state", "LNoteDocument$State;", true)
  | 1 => ("NoteDocument$Nodes", "kind", "[I", true)
  | 2 => ("NoteDocument$Nodes", "of", "[I", true)
  | 3 => ("NoteDocument$Nodes", "first", "[I", true)
  | 4 => ("NoteDocument$Nodes", "second", "[I", true)
  | 5 => ("NoteDocument$Nodes", "third", "[I", true)
  | 6 => ("NoteDocument$Nodes", "weight", "[I", true)
  | _ => ("NoteDocument$Nodes", "numbe\x72", "[J", true)
def tC_No : Nat → FieldType := fun k => match k with
  | 0 => .object "NoteDocument$State"
  | 1 => .array .int
  | 2 => .array .int
  | 3 => .array .int
  | 4 => .array .int
  | 5 => .array .int
  | 6 => .array .int
  | _ => .array .long
theorem nC_No : ∀ a, a < 8 → ∀ b, b < 8 → a ≠ b → (fC_No a).2.1 ≠ (fC_No b).2.1 := by decide +kernel
theorem oC_No : ∀ k, k < 8 → parseFieldDescriptor (fC_No k).2.2.1 = some (tC_No k) := by decide +kernel
theorem iC_No : ∀ w ∈ u_ws rC_No fC_No 8, w ∈ BIG := by
  intro w hw
  obtain ⟨k, hk, rfl⟩ := List.mem_map.mp hw
  have hk := List.mem_range.mp hk
  rcases (show k = 0 ∨ k = 1 ∨ k = 2 ∨ k = 3 ∨ k = 4 ∨ k = 5 ∨ k = 6 ∨ k = 7 by omega) with rfl | rfl | rfl | rfl | rfl | rfl | rfl | rfl
  · exact wd_194
  · exact wd_196
  · exact wd_198
  · exact wd_200
  · exact wd_202
  · exact wd_204
  · exact wd_206
  · exact wd_208
def rC_Ru : String := "NoteDocument$Runne\x72"
def fC_Ru : u_T := fun k => match k with
  | 0 => ("NoteDocument$Runne\x72", "desk", "LNoteDocument$Desk;", true)
  | 1 => ("NoteDocument$Runne\x72", "state", "LNoteDocument$State;", true)
  | 2 => ("NoteDocument$Runne\x72", "heap", "LNoteDocument$Heap;", true)
  | 3 => ("NoteDocument$Runne\x72", "nodes", "LNoteDocument$Nodes;", true)
  | 4 => ("NoteDocument$Runne\x72", "chains", "LNoteDocument$Chains;", true)
  | 5 => ("NoteDocument$Runne\x72", "text", "LNoteDocument$Text;", true)
  | 6 => ("NoteDocument$Runne\x72", "given", "I", false)
  | _ => ("NoteDocument$Runne\x72", "alsoGiven", "I", false)
def tC_Ru : Nat → FieldType := fun k => match k with
  | 0 => .object "NoteDocument$Desk"
  | 1 => .object "NoteDocument$State"
  | 2 => .object "NoteDocument$Heap"
  | 3 => .object "NoteDocument$Nodes"
  | 4 => .object "NoteDocument$Chains"
  | 5 => .object "NoteDocument$Text"
  | 6 => .int
  | _ => .int
theorem nC_Ru : ∀ a, a < 8 → ∀ b, b < 8 → a ≠ b → (fC_Ru a).2.1 ≠ (fC_Ru b).2.1 := by decide +kernel
theorem oC_Ru : ∀ k, k < 8 → parseFieldDescriptor (fC_Ru k).2.2.1 = some (tC_Ru k) := by decide +kernel
theorem iC_Ru : ∀ w ∈ u_ws rC_Ru fC_Ru 8, w ∈ BIG := by
  intro w hw
  obtain ⟨k, hk, rfl⟩ := List.mem_map.mp hw
  have hk := List.mem_range.mp hk
  rcases (show k = 0 ∨ k = 1 ∨ k = 2 ∨ k = 3 ∨ k = 4 ∨ k = 5 ∨ k = 6 ∨ k = 7 by omega) with rfl | rfl | rfl | rfl | rfl | rfl | rfl | rfl
  · exact wd_371
  · exact wd_373
  · exact wd_375
  · exact wd_377
  · exact wd_379
  · exact wd_381
  · exact wd_383
  · exact wd_385
def rC_S : String := "NoteDocument$State"
def fC_S : u_T := fun k => match k with
  | 0 => ("NoteDocument$State", "grids", "I", false)
  | 1 => ("NoteDocument$State", "notes", "I", false)
  | 2 => ("NoteDocument$State", "nodes", "I", false)
  | 3 => ("NoteDocument$State", "columns", "[I", true)
  | 4 => ("NoteDocument$State", "rows", "[I", true)
  | 5 => ("NoteDocument$State", "content", "[J", true)
  | 6 => ("NoteDocument$State", "held", "[J", true)
  | 7 => ("NoteDocument$State", "othe\x72", "[J", true)
  | 8 => ("NoteDocument$State", "named", "[I", true)
  | 9 => ("NoteDocument$State", "body", "[I", true)
  | 10 => ("NoteDocument$State", "parts", "[I", true)
  | 11 => ("NoteDocument$State", "partCount", "[I", true)
  | 12 => ("NoteDocument$State", "refRow", "[I", true)
  | 13 => ("NoteDocument$State", "refColumn", "[I", true)
  | 14 => ("NoteDocument$State", "refToRow", "[I", true)
  | 15 => ("NoteDocument$State", "torn", "[Z", true)
  | 16 => ("NoteDocument$State", "record", "[I", true)
  | 17 => ("NoteDocument$State", "time", "I", false)
  | 18 => ("NoteDocument$State", "seed", "I", false)
  | _ => ("NoteDocument$State", "ticks", "I", false)
def tC_S : Nat → FieldType := fun k => match k with
  | 0 => .int
  | 1 => .int
  | 2 => .int
  | 3 => .array .int
  | 4 => .array .int
  | 5 => .array .long
  | 6 => .array .long
  | 7 => .array .long
  | 8 => .array .int
  | 9 => .array .int
  | 10 => .array .int
  | 11 => .array .int
  | 12 => .array .int
  | 13 => .array .int
  | 14 => .array .int
  | 15 => .array .boolean
  | 16 => .array .int
  | 17 => .int
  | 18 => .int
  | _ => .int
theorem nC_S : ∀ a, a < 20 → ∀ b, b < 20 → a ≠ b → (fC_S a).2.1 ≠ (fC_S b).2.1 := by decide +kernel
theorem oC_S : ∀ k, k < 20 → parseFieldDescriptor (fC_S k).2.2.1 = some (tC_S k) := by decide +kernel
theorem iC_S : ∀ w ∈ u_ws rC_S fC_S 20, w ∈ BIG := by
  intro w hw
  obtain ⟨k, hk, rfl⟩ := List.mem_map.mp hw
  have hk := List.mem_range.mp hk
  rcases (show k = 0 ∨ k = 1 ∨ k = 2 ∨ k = 3 ∨ k = 4 ∨ k = 5 ∨ k = 6 ∨ k = 7 ∨ k = 8 ∨ k = 9 ∨ k = 10 ∨ k = 11 ∨ k = 12 ∨ k = 13 ∨ k = 14 ∨ k = 15 ∨ k = 16 ∨ k = 17 ∨ k = 18 ∨ k = 19 by omega) with rfl | rfl | rfl | rfl | rfl | rfl | rfl | rfl | rfl | rfl | rfl | rfl | rfl | rfl | rfl | rfl | rfl | rfl | rfl | rfl
  · exact wd_128
  · exact wd_130
  · exact wd_132
  · exact wd_134
  · exact wd_136
  · exact wd_138
  · exact wd_140
  · exact wd_142
  · exact wd_144
  · exact wd_146
  · exact wd_148
  · exact wd_150
  · exact wd_152
  · exact wd_154
  · exact wd_156
  · exact wd_158
  · exact wd_160
  · exact wd_162
  · exact wd_164
  · exact wd_166
def rC_Te : String := "NoteDocument$Text"
def fC_Te : u_T := fun k => match k with
  | 0 => ("NoteDocument$Text", "heap", "LNoteDocument$Heap;", true)
  | 1 => ("NoteDocument$Text", "row", "I", false)
  | _ => ("NoteDocument$Text", "count", "I", false)
def tC_Te : Nat → FieldType := fun k => match k with
  | 0 => .object "NoteDocument$Heap"
  | 1 => .int
  | _ => .int
theorem nC_Te : ∀ a, a < 3 → ∀ b, b < 3 → a ≠ b → (fC_Te a).2.1 ≠ (fC_Te b).2.1 := by decide +kernel
theorem oC_Te : ∀ k, k < 3 → parseFieldDescriptor (fC_Te k).2.2.1 = some (tC_Te k) := by decide +kernel
theorem iC_Te : ∀ w ∈ u_ws rC_Te fC_Te 3, w ∈ BIG := by
  intro w hw
  obtain ⟨k, hk, rfl⟩ := List.mem_map.mp hw
  have hk := List.mem_range.mp hk
  rcases (show k = 0 ∨ k = 1 ∨ k = 2 by omega) with rfl | rfl | rfl
  · exact wd_356
  · exact wd_358
  · exact wd_360
def rC_M : String := "NoteDocumentModel"
def fC_M : u_T := fun k => match k with
  | 0 => ("NoteDocumentModel", "now", "LNoteDocumentModel$State;", true)
  | 1 => ("NoteDocumentModel", "kept", "[LNoteDocumentModel$State;", true)
  | 2 => ("NoteDocumentModel", "keptMany", "I", false)
  | 3 => ("NoteDocumentModel", "way", "I", false)
  | 4 => ("NoteDocumentModel", "runs", "I", false)
  | 5 => ("NoteDocumentModel", "calls", "I", false)
  | 6 => ("NoteDocumentModel", "kinds", "[I", true)
  | 7 => ("NoteDocumentModel", "signs", "[I", true)
  | 8 => ("NoteDocumentModel", "figures", "[J", true)
  | 9 => ("NoteDocumentModel", "ones", "[I", true)
  | 10 => ("NoteDocumentModel", "others", "[I", true)
  | 11 => ("NoteDocumentModel", "thirds", "[I", true)
  | 12 => ("NoteDocumentModel", "weights", "[I", true)
  | 13 => ("NoteDocumentModel", "main", "LNoteDocumentModel$Engine;", true)
  | 14 => ("NoteDocumentModel", "anew", "LNoteDocumentModel$Engine;", true)
  | 15 => ("NoteDocumentModel", "had", "[LNoteDocumentModel$Found;", true)
  | _ => ("NoteDocumentModel", "last", "I", false)
def tC_M : Nat → FieldType := fun k => match k with
  | 0 => .object "NoteDocumentModel$State"
  | 1 => .array (.object "NoteDocumentModel$State")
  | 2 => .int
  | 3 => .int
  | 4 => .int
  | 5 => .int
  | 6 => .array .int
  | 7 => .array .int
  | 8 => .array .long
  | 9 => .array .int
  | 10 => .array .int
  | 11 => .array .int
  | 12 => .array .int
  | 13 => .object "NoteDocumentModel$Engine"
  | 14 => .object "NoteDocumentModel$Engine"
  | 15 => .array (.object "NoteDocumentModel$Found")
  | _ => .int
theorem nC_M : ∀ a, a < 17 → ∀ b, b < 17 → a ≠ b → (fC_M a).2.1 ≠ (fC_M b).2.1 := by decide +kernel
theorem oC_M : ∀ k, k < 17 → parseFieldDescriptor (fC_M k).2.2.1 = some (tC_M k) := by decide +kernel
theorem iC_M : ∀ w ∈ u_ws rC_M fC_M 17, w ∈ BIG := by
  intro w hw
  obtain ⟨k, hk, rfl⟩ := List.mem_map.mp hw
  have hk := List.mem_range.mp hk
  rcases (show k = 0 ∨ k = 1 ∨ k = 2 ∨ k = 3 ∨ k = 4 ∨ k = 5 ∨ k = 6 ∨ k = 7 ∨ k = 8 ∨ k = 9 ∨ k = 10 ∨ k = 11 ∨ k = 12 ∨ k = 13 ∨ k = 14 ∨ k = 15 ∨ k = 16 by omega) with rfl | rfl | rfl | rfl | rfl | rfl | rfl | rfl | rfl | rfl | rfl | rfl | rfl | rfl | rfl | rfl | rfl
  · exact wd_2155
  · exact wd_2157
  · exact wd_2159
  · exact wd_2161
  · exact wd_2163
  · exact wd_2165
  · exact wd_2167
  · exact wd_2169
  · exact wd_2171
  · exact wd_2173
  · exact wd_2175
  · exact wd_2177
  · exact wd_2179
  · exact wd_2181
  · exact wd_2183
  · exact wd_2185
  · exact wd_2187
def rC_E : String := "NoteDocumentModel$Engine"
def fC_E : u_T := fun k => match k with
  | 0 => ("NoteDocumentModel$Engine", "counts", "Z", true)
  | 1 => ("NoteDocumentModel$Engine", "found", "[LNoteDocumentModel$Found;", false)
  | 2 => ("NoteDocumentModel$Engine", "scenario", "I", false)
  | 3 => ("NoteDocumentModel$Engine", "tried", "I", false)
  | 4 => ("NoteDocumentModel$Engine", "trial", "J", false)
  | 5 => ("NoteDocumentModel$Engine", "change", "I", false)
  | 6 => ("NoteDocumentModel$Engine", "fresh", "[I", true)
  | 7 => ("NoteDocumentModel$Engine", "pile", "[I", true)
  | 8 => ("NoteDocumentModel$Engine", "along", "[I", true)
  | 9 => ("NoteDocumentModel$Engine", "places", "[I", true)
  | 10 => ("NoteDocumentModel$Engine", "top", "I", false)
  | 11 => ("NoteDocumentModel$Engine", "need", "I", false)
  | 12 => ("NoteDocumentModel$Engine", "marks", "[I", true)
  | 13 => ("NoteDocumentModel$Engine", "mark", "I", false)
  | 14 => ("NoteDocumentModel$Engine", "reads", "[I", true)
  | 15 => ("NoteDocumentModel$Engine", "seen", "[J", true)
  | 16 => ("NoteDocumentModel$Engine", "values", "[LNoteDocumentModel$Val;", true)
  | 17 => ("NoteDocumentModel$Engine", "readMany", "I", false)
  | 18 => ("NoteDocumentModel$Engine", "itsKind", "I", false)
  | 19 => ("NoteDocumentModel$Engine", "itsNumbe\x72", "J", false)
  | 20 => ("NoteDocumentModel$Engine", "itsWay", "LNoteDocumentModel$Way;", false)
  | 21 => ("NoteDocumentModel$Engine", "spare", "[LNoteDocumentModel$Val;", false)
  | 22 => ("NoteDocumentModel$Engine", "spareMany", "I", false)
  | 23 => ("NoteDocumentModel$Engine", "spareRows", "[LNoteDocumentModel$Val;", false)
  | 24 => ("NoteDocumentModel$Engine", "rowMany", "I", false)
  | 25 => ("NoteDocumentModel$Engine", "spareFound", "[LNoteDocumentModel$Found;", true)
  | _ => ("NoteDocumentModel$Engine", "this$0", "LNoteDocumentModel;", true)
def tC_E : Nat → FieldType := fun k => match k with
  | 0 => .boolean
  | 1 => .array (.object "NoteDocumentModel$Found")
  | 2 => .int
  | 3 => .int
  | 4 => .long
  | 5 => .int
  | 6 => .array .int
  | 7 => .array .int
  | 8 => .array .int
  | 9 => .array .int
  | 10 => .int
  | 11 => .int
  | 12 => .array .int
  | 13 => .int
  | 14 => .array .int
  | 15 => .array .long
  | 16 => .array (.object "NoteDocumentModel$Val")
  | 17 => .int
  | 18 => .int
  | 19 => .long
  | 20 => .object "NoteDocumentModel$Way"
  | 21 => .array (.object "NoteDocumentModel$Val")
  | 22 => .int
  | 23 => .array (.object "NoteDocumentModel$Val")
  | 24 => .int
  | 25 => .array (.object "NoteDocumentModel$Found")
  | _ => .object "NoteDocumentModel"
theorem nC_E : ∀ a, a < 27 → ∀ b, b < 27 → a ≠ b → (fC_E a).2.1 ≠ (fC_E b).2.1 := by decide +kernel
theorem oC_E : ∀ k, k < 27 → parseFieldDescriptor (fC_E k).2.2.1 = some (tC_E k) := by decide +kernel
theorem iC_E : ∀ w ∈ u_ws rC_E fC_E 27, w ∈ BIG := by
  intro w hw
  obtain ⟨k, hk, rfl⟩ := List.mem_map.mp hw
  have hk := List.mem_range.mp hk
  rcases (show k = 0 ∨ k = 1 ∨ k = 2 ∨ k = 3 ∨ k = 4 ∨ k = 5 ∨ k = 6 ∨ k = 7 ∨ k = 8 ∨ k = 9 ∨ k = 10 ∨ k = 11 ∨ k = 12 ∨ k = 13 ∨ k = 14 ∨ k = 15 ∨ k = 16 ∨ k = 17 ∨ k = 18 ∨ k = 19 ∨ k = 20 ∨ k = 21 ∨ k = 22 ∨ k = 23 ∨ k = 24 ∨ k = 25 ∨ k = 26 by omega) with rfl | rfl | rfl | rfl | rfl | rfl | rfl | rfl | rfl | rfl | rfl | rfl | rfl | rfl | rfl | rfl | rfl | rfl | rfl | rfl | rfl | rfl | rfl | rfl | rfl | rfl | rfl
  · exact wd_2073
  · exact wd_2075
  · exact wd_2077
  · exact wd_2079
  · exact wd_2081
  · exact wd_2083
  · exact wd_2085
  · exact wd_2087
  · exact wd_2089
  · exact wd_2091
  · exact wd_2093
  · exact wd_2095
  · exact wd_2097
  · exact wd_2099
  · exact wd_2101
  · exact wd_2103
  · exact wd_2105
  · exact wd_2107
  · exact wd_2109
  · exact wd_2111
  · exact wd_2113
  · exact wd_2115
  · exact wd_2117
  · exact wd_2119
  · exact wd_2121
  · exact wd_2123
  · exact wd_2125
def rC_T : String := "NoteDocumentModel$State"
def fC_T : u_T := fun k => match k with
  | 0 => ("NoteDocumentModel$State", "rows", "[I", true)
  | 1 => ("NoteDocumentModel$State", "columns", "[I", true)
  | 2 => ("NoteDocumentModel$State", "grids", "I", false)
  | 3 => ("NoteDocumentModel$State", "types", "[I", true)
  | 4 => ("NoteDocumentModel$State", "numbers", "[J", true)
  | 5 => ("NoteDocumentModel$State", "formulas", "[I", true)
  | 6 => ("NoteDocumentModel$State", "held", "[Z", true)
  | 7 => ("NoteDocumentModel$State", "holds", "[J", true)
  | 8 => ("NoteDocumentModel$State", "found", "[LNoteDocumentModel$Found;", true)
  | 9 => ("NoteDocumentModel$State", "names", "[I", true)
  | 10 => ("NoteDocumentModel$State", "bodies", "[I", true)
  | 11 => ("NoteDocumentModel$State", "notes", "I", false)
  | 12 => ("NoteDocumentModel$State", "parts", "[I", true)
  | 13 => ("NoteDocumentModel$State", "noteParts", "[I", true)
  | 14 => ("NoteDocumentModel$State", "ove\x72", "[Z", true)
  | 15 => ("NoteDocumentModel$State", "overs", "[J", true)
  | 16 => ("NoteDocumentModel$State", "time", "J", false)
  | 17 => ("NoteDocumentModel$State", "seed", "J", false)
  | 18 => ("NoteDocumentModel$State", "ticks", "I", false)
  | 19 => ("NoteDocumentModel$State", "nodes", "I", false)
  | 20 => ("NoteDocumentModel$State", "places", "[I", true)
  | _ => ("NoteDocumentModel$State", "torn", "[Z", true)
def tC_T : Nat → FieldType := fun k => match k with
  | 0 => .array .int
  | 1 => .array .int
  | 2 => .int
  | 3 => .array .int
  | 4 => .array .long
  | 5 => .array .int
  | 6 => .array .boolean
  | 7 => .array .long
  | 8 => .array (.object "NoteDocumentModel$Found")
  | 9 => .array .int
  | 10 => .array .int
  | 11 => .int
  | 12 => .array .int
  | 13 => .array .int
  | 14 => .array .boolean
  | 15 => .array .long
  | 16 => .long
  | 17 => .long
  | 18 => .int
  | 19 => .int
  | 20 => .array .int
  | _ => .array .boolean
theorem nC_T : ∀ a, a < 22 → ∀ b, b < 22 → a ≠ b → (fC_T a).2.1 ≠ (fC_T b).2.1 := by decide +kernel
theorem oC_T : ∀ k, k < 22 → parseFieldDescriptor (fC_T k).2.2.1 = some (tC_T k) := by decide +kernel
theorem iC_T : ∀ w ∈ u_ws rC_T fC_T 22, w ∈ BIG := by
  intro w hw
  obtain ⟨k, hk, rfl⟩ := List.mem_map.mp hw
  have hk := List.mem_range.mp hk
  rcases (show k = 0 ∨ k = 1 ∨ k = 2 ∨ k = 3 ∨ k = 4 ∨ k = 5 ∨ k = 6 ∨ k = 7 ∨ k = 8 ∨ k = 9 ∨ k = 10 ∨ k = 11 ∨ k = 12 ∨ k = 13 ∨ k = 14 ∨ k = 15 ∨ k = 16 ∨ k = 17 ∨ k = 18 ∨ k = 19 ∨ k = 20 ∨ k = 21 by omega) with rfl | rfl | rfl | rfl | rfl | rfl | rfl | rfl | rfl | rfl | rfl | rfl | rfl | rfl | rfl | rfl | rfl | rfl | rfl | rfl | rfl | rfl
  · exact wd_1990
  · exact wd_1992
  · exact wd_1994
  · exact wd_1996
  · exact wd_1998
  · exact wd_2000
  · exact wd_2002
  · exact wd_2004
  · exact wd_2006
  · exact wd_2008
  · exact wd_2010
  · exact wd_2012
  · exact wd_2014
  · exact wd_2016
  · exact wd_2018
  · exact wd_2020
  · exact wd_2022
  · exact wd_2024
  · exact wd_2026
  · exact wd_2028
  · exact wd_2030
  · exact wd_2032
def rC_Va : String := "NoteDocumentModel$Val"
def fC_Va : u_T := fun k => match k with
  | 0 => ("NoteDocumentModel$Val", "kind", "I", false)
  | 1 => ("NoteDocumentModel$Val", "numbe\x72", "J", false)
  | 2 => ("NoteDocumentModel$Val", "way", "LNoteDocumentModel$Way;", false)
  | 3 => ("NoteDocumentModel$Val", "size", "I", false)
  | 4 => ("NoteDocumentModel$Val", "kinds", "[I", false)
  | 5 => ("NoteDocumentModel$Val", "numbers", "[J", false)
  | 6 => ("NoteDocumentModel$Val", "ways", "[LNoteDocumentModel$Way;", false)
  | _ => ("NoteDocumentModel$Val", "text", "[I", false)
def tC_Va : Nat → FieldType := fun k => match k with
  | 0 => .int
  | 1 => .long
  | 2 => .object "NoteDocumentModel$Way"
  | 3 => .int
  | 4 => .array .int
  | 5 => .array .long
  | 6 => .array (.object "NoteDocumentModel$Way")
  | _ => .array .int
theorem nC_Va : ∀ a, a < 8 → ∀ b, b < 8 → a ≠ b → (fC_Va a).2.1 ≠ (fC_Va b).2.1 := by decide +kernel
theorem oC_Va : ∀ k, k < 8 → parseFieldDescriptor (fC_Va k).2.2.1 = some (tC_Va k) := by decide +kernel
theorem iC_Va : ∀ w ∈ u_ws rC_Va fC_Va 8, w ∈ BIG := by
  intro w hw
  obtain ⟨k, hk, rfl⟩ := List.mem_map.mp hw
  have hk := List.mem_range.mp hk
  rcases (show k = 0 ∨ k = 1 ∨ k = 2 ∨ k = 3 ∨ k = 4 ∨ k = 5 ∨ k = 6 ∨ k = 7 by omega) with rfl | rfl | rfl | rfl | rfl | rfl | rfl | rfl
  · exact wd_2340
  · exact wd_2342
  · exact wd_2344
  · exact wd_2346
  · exact wd_2348
  · exact wd_2350
  · exact wd_2352
  · exact wd_2354
abbrev classes : List vw_C := [(rC_D, fC_D, 11), (rC_Ch, fC_Ch, 6), (rC_De, fC_De, 19), (rC_Fi, fC_Fi, 14), (rC_He, fC_He, 2), (rC_Mo, fC_Mo, 5), (rC_No, fC_No, 8), (rC_Ru, fC_Ru, 8), (rC_S, fC_S, 20), (rC_Te, fC_Te, 3), (rC_M, fC_M, 17), (rC_E, fC_E, 27), (rC_T, fC_T, 22), (rC_Va, fC_Va, 8)]
def n_strs : List (String × Nat × String) := [("NoteDocument", 81, "rows or columns out of range"), ("NoteDocument", 91, "there are 4 grids"), ("NoteDocument", 394, "no such grid"), ("NoteDocument", 396, "no such cell"), ("NoteDocument", 115, "number out of range"), ("NoteDocument", 398, "no such node"), ("NoteDocument", 153, "first out of range"), ("NoteDocument", 155, "no formula"), ("NoteDocument", 157, "bound out of range"), ("NoteDocument", 400, "there are 150 nodes"), ("NoteDocument", 180, "a range from behind"), ("NoteDocument", 186, "no such leaf"), ("NoteDocument", 191, "no such kind or sign"), ("NoteDocument", 402, "too heavy"), ("NoteDocument", 205, "name out of range"), ("NoteDocument", 210, "function out of range"), ("NoteDocument", 218, "there are 3 notes"), ("NoteDocument", 404, "no such note"), ("NoteDocument", 223, "letters out of range"), ("NoteDocument", 406, "it has 8 parts"), ("NoteDocument", 235, "format out of range"), ("NoteDocument", 238, "time or seed out of range"), ("NoteDocument", 243, "there were 1000 ticks"), ("NoteDocument", 251, "way out of range"), ("NoteDocument", 316, "no such characte\x72"), ("NoteDocument", 326, "row out of range"), ("NoteDocument", 328, "it has 10 rows"), ("java/util/Arrays", 48, "fromIndex("), ("java/util/Arrays", 57, ") > toIndex("), ("java/util/Arrays", 59, ")"), ("java/util/Arrays", 337, " > "), ("java/lang/ArrayIndexOutOfBoundsException", 13, "Array index out of range: "), ("NoteDocument", 336, "the only row"), ("NoteDocument", 342, "both are the same"), ("NoteDocument", 344, "no content"), ("NoteDocument", 349, "to is below row"), ("NoteDocument", 408, "scenario out of range"), ("NoteDocument", 358, "the cell has no numbe\x72"), ("NoteDocument", 372, "least or many out of range"), ("NoteDocument", 383, "none is kept")]
-- ===== the environment of each method: classes, arrays' classes, words, texts; the world; the statics of Throwable =====
def n_arrs : List String := ["NoteDocument$State", "NoteDocumentModel$State", "NoteDocumentModel$Found", "NoteDocumentModel$Val"]
/-- the classes of arrays, by their places -/
def ntys (D : va_G) : List (ClassId × FieldType) := [(D.1 100, .int), (D.1 101, .long), (D.1 102, .boolean), (D.1 103, .object "NoteDocument$State"), (D.1 104, .object "NoteDocumentModel$State"), (D.1 105, .object "NoteDocumentModel$Found"), (D.1 106, .object "NoteDocumentModel$Val")]
def nStr (U : State) : Prop := ∀ q ∈ n_strs, ∃ a, vk_R q.1 q.2.1 q.2.2 a U
def nAO (U : State) : Prop := ∀ C ∈ n_arrs, va_AO C U
def nNc (U : State) : Prop := va_Nc "java/lang/IndexOutOfBoundsException" "java/lang/IllegalArgumentException" U
def nK (D : va_G) (U : State) : Prop := va_K D classes (ntys D) U ∧ nZ U ∧ nStr U ∧ nAO U ∧ nNc U
theorem nK.warm {D : va_G} {s U : State} (hW : s.WarmedH U.vm) (h : nK D s) : nK D U :=
  ⟨va_K.moved hW.alike h.1, nZ.warm hW h.2.1, fun q hq => (h.2.2.1 q hq).imp fun _ ha => vk_R.warm hW ha, fun C hC => va_AO.moved hW.alike (h.2.2.2.1 C hC), va_Nc.moved hW.alike h.2.2.2.2⟩
theorem nK.calling {D : va_G} {U : State} {g : JFrame} {mk : MethodId} {a : Array Value} (h : nK D U) : nK D (U.calling g mk a) :=
  ⟨va_K.moved (u := U) (U := U.calling g mk a) (Vm.Alike.refl U.vm) h.1, nZ.same (u := U) (U := U.calling g mk a) rfl h.2.1, fun q hq => (h.2.2.1 q hq).imp fun _ ha => vk_R.same (u := U) (U := U.calling g mk a) rfl ha, fun C hC => va_AO.moved (u := U) (U := U.calling g mk a) (Vm.Alike.refl U.vm) (h.2.2.2.1 C hC), va_Nc.moved (u := U) (U := U.calling g mk a) (Vm.Alike.refl U.vm) h.2.2.2.2⟩
def nS (A : Nat → Prop) (U : State) (H : Heap) : Prop := vx_Zq Bundle.tN "UNASSIGNED_STACK" Bundle.steD A U H ∧ vx_Zq Bundle.tN "SUPPRESSED_SENTINEL" Bundle.listD A U H
def nW (D : va_G) (W0 : va_W) (sz : Nat) (U : State) : Prop := U.heap.size = sz ∧ va_P D classes W0 U.heap ∧ va_D (fun _ => True) W0 ∧ nK D U ∧ nS (va_A W0 sz) U U.heap
def nPc (av : List Value) (D : va_G) (W0 : va_W) (sz : Nat) : Array Value → State → Prop := va_Pc av (nW D W0 sz)
theorem nPc_blind {av : List Value} {D : va_G} {W0 : va_W} {sz : Nat} : FrameBlind (nPc av D W0 sz) := fun a U g mk q => by
  obtain ⟨q0, q1, qP, qD, qK, qN⟩ := q
  exact ⟨q0, q1, qP, qD, qK.calling, vx_Zq.moved (u := U) (U := U.calling g mk a) (Vm.Alike.refl U.vm) qN.1, vx_Zq.moved (u := U) (U := U.calling g mk a) (Vm.Alike.refl U.vm) qN.2⟩
def nB (D : va_G) (A : Nat → Prop) (W1 : va_W) (t : State) : Prop := va_P D classes W1 t.heap ∧ va_D A W1
theorem va_P.pick {D : va_G} {cl : List vw_C} {ws wc : va_W} {H : Heap} (h : va_P D cl ws H) (is : List Nat) (hs : is.map (fun i => ws[i]?) = wc.map some) : va_P D cl wc H := by
  intro k q hk
  have h1 : (wc.map some)[k]? = some (some q) := by rw [List.getElem?_map, hk]; rfl
  rw [← hs, List.getElem?_map] at h1
  cases hi : is[k]? with
  | none => rw [hi] at h1; cases h1
  | some i =>
    rw [hi] at h1
    exact h i q (Option.some.inj h1)
section N1
variable {D : va_G} {A : Nat → Prop} {ws wc : va_W} {H : Heap} {s : State} {locs : List Loc}
theorem nPre {av : List Value} (is : List Nat) (hP : va_P D classes ws H) (hD : va_D A ws) (hK : nK D s) (hN : nS A s s.heap) (hS : va_S A s.heap H locs) (hA : ∀ q, s.heap.size ≤ q → A q) (hn : va_nd is = true) (hC : is.map (fun i => ws[i]?) = wc.map some) : ∀ U : State, U.heap = H → s.WarmedH U.vm → nPc av D wc H.size av.toArray U := by
  intro U hU hW
  subst hU
  have hf := va_free hD hS hA is hC
  exact ⟨rfl, rfl, hP.pick is hC, (hD.sub is hn hC).weaken (fun _ _ _ _ => trivial), hK.warm hW, (vx_Zq.moved hW.alike (hN.1.kept hS.2.1)).narrow hf, (vx_Zq.moved hW.alike (hN.2.kept hS.2.1)).narrow hf⟩
theorem nPreS {av : List Value} (is : List Nat) (hP : va_P D classes ws H) (hD : va_D A ws) (hK : nK D s) (hN : nS A s s.heap) (hS : va_S A s.heap H locs) (hA : ∀ q, s.heap.size ≤ q → A q) (hn : va_nd is = true) (hC : is.map (fun i => ws[i]?) = wc.map some) : PreS s H (nPc av D wc H.size) av :=
  ⟨nPc_blind, nPre is hP hD hK hN hS hA hn hC⟩
theorem nPreV {As : List Value} {a ci N : Nat} {C : String} {T : u_T} {fs : List Value} (is : List Nat) (hP : va_P D classes ws H) (hD : va_D A ws) (hK : nK D s) (hN : nS A s s.heap) (hS : va_S A s.heap H locs) (hA : ∀ q, s.heap.size ≤ q → A q) (hn : va_nd is = true) (hC : is.map (fun i => ws[i]?) = wc.map some) (q0 : Nat) (hk : ws[q0]? = some (a, .inr (ci, fs))) (hc : classes[ci]? = some (C, T, N)) : PreV s H C a (nPc (.ref a :: As) D wc H.size) As :=
  ⟨nPc_blind, va_recv hK.1 hP hc hk, nPre is hP hD hK hN hS hA hn hC⟩
end N1
theorem va_RA.uniq {U : State} {c0 c1 : ClassId} {ty : FieldType} (h0 : va_RA U c0 ty) (h1 : va_RA U c1 ty) : c0 = c1 := by
  cases ty with
  | object C =>
    obtain ⟨-, -, -, -, -, e0⟩ := h0
    obtain ⟨-, -, -, -, -, e1⟩ := h1
    exact Option.some.inj (e0.symm.trans e1)
  | _ => exact Option.some.inj (Eq.trans (Eq.symm h0) h1)
section N2
variable {p : Program} {l : Launch} {e : Env} {R : Room} {s : State} {m : MethodId} {args : Array Value} {below : List Frame} {meth : Method} {c : Code} {H : Heap} {locs : List Loc} {cells slots : Nat} {Q : State → Prop}
variable {cc : ByteArray} {pc : Nat} {ls : Array Slot} {rest : List Value} {D : va_G} {cl : List vw_C} {A : Nat → Prop} {tys : List (ClassId × FieldType)} {ws : va_W} {H0 : Heap}
/-- a new array of numbers, of the one class that its kind has -/
theorem n_newa (hexec : p.tables.exec = Jvm.exec) (hb : c.code = cc) {atype : ArrayType} (harr : (Cond.arrayClass (newarray.typeOf atype)).before args s = true) {ty : FieldType} (hty : newarray.typeOf atype = ty) (hK : va_K D cl tys s) (hP : va_P D cl ws H) (hD : va_D A ws) (hS : va_S A H0 H locs) (hA : ∀ q, H0.size ≤ q → A q)
    (t0 : Nat) {c0 : ClassId} (ht0 : tys[t0]? = some (c0, ty)) {n : Int32} {N' : Nat} {a0 : vp_A} (ha : ∀ cA : ClassId, vp_cell cA a0 = arrV cA N' (fun _ => defaultValue ty)) (hn : ¬ n < 0) (hN : n.toNatClampNeg = N') (hbytes : N' * componentBytes ty ≤ 536870912) (hcells : cells + 1 ≤ R.cells) (hslots : slots + N' ≤ R.slots) (hdg : decode cc pc = .ok (.newarray atype, 2))
    (kk : ∀ (q : Nat) (H1 : Heap), va_P D cl (ws ++ [(q, .inl (c0, a0))]) H1 → va_D A (ws ++ [(q, .inl (c0, a0))]) → va_S A H0 H1 locs →
      W p l e R s m args below meth c H1 locs (cells + 1) (slots + N') Q (F0 m (pc + 2) ls (.ref q :: rest))) : W p l e R s m args below meth c H locs cells slots Q (F0 m pc ls (.int n :: rest)) := by
  refine va_newa hexec hb harr hty hK hP hD hS hA ha hn hN hbytes hcells hslots hdg (fun q cA H1 hK1 hP1 hD1 hS1 => ?_)
  have e1 : (tys ++ [(cA, ty)])[tys.length]? = some (cA, ty) := by rw [List.getElem?_append_right (Nat.le_refl _)]; simp
  have e2 : cA = c0 := va_RA.uniq (hK1.2 _ _ e1).2 (hK.2 _ _ ht0).2
  subst e2
  exact kk q H1 hP1 hD1 hS1
/-- .. of references -/
theorem n_newq (hexec : p.tables.exec = Jvm.exec) (hb : c.code = cc) {own C : String} {index : Nat} (hown : s.vm.findClass own = some m.cls) (hclink : (Cond.classLink own index C).before args s = true) (hover : va_AO C s) (hK : va_K D cl tys s) (hP : va_P D cl ws H) (hD : va_D A ws) (hS : va_S A H0 H locs) (hA : ∀ q, H0.size ≤ q → A q)
    (t0 : Nat) {c0 : ClassId} (ht0 : tys[t0]? = some (c0, .object C)) {n : Int32} {N' : Nat} (hn : ¬ n < 0) (hN : n.toNatClampNeg = N') (hbytes : N' * 4 ≤ 536870912) (hcells : cells + 1 ≤ R.cells) (hslots : slots + N' ≤ R.slots) (hdg : decode cc pc = .ok (.anewarray index, 3))
    (kk : ∀ (q : Nat) (H1 : Heap), va_P D cl (ws ++ [(q, .inl (c0, N', .inr (.inr (.inr (.inr (fun _ => none))))))]) H1 → va_D A (ws ++ [(q, .inl (c0, N', .inr (.inr (.inr (.inr (fun _ => none))))))]) → va_S A H0 H1 locs →
      W p l e R s m args below meth c H1 locs (cells + 1) (slots + N') Q (F0 m (pc + 3) ls (.ref q :: rest))) : W p l e R s m args below meth c H locs cells slots Q (F0 m pc ls (.int n :: rest)) := by
  refine va_newq hexec hb hown hclink hover hK hP hD hS hA hn hN hbytes hcells hslots hdg (fun q cA H1 hK1 hP1 hD1 hS1 => ?_)
  have e1 : (tys ++ [(cA, FieldType.object C)])[tys.length]? = some (cA, FieldType.object C) := by rw [List.getElem?_append_right (Nat.le_refl _)]; simp
  have e2 : cA = c0 := va_RA.uniq (hK1.2 _ _ e1).2 (hK.2 _ _ ht0).2
  subst e2
  exact kk q H1 hP1 hD1 hS1
end N2
-- ===== a throw's words, what it leaves =====
theorem n_at {L : List Cond} (h : L.all (fun w => decide (w ∈ tables_1) && (goodWord w || isX w)) = true) : ∀ w ∈ L, w ∈ BIG ∨ w ∈ XW := by
  intro w hw
  have h1 := List.all_eq_true.mp h w hw
  simp only [Bool.and_eq_true, Bool.or_eq_true, decide_eq_true_eq] at h1
  rcases h1 with ⟨h1, h2 | h2⟩
  · exact Or.inl (big_t h1 h2)
  · exact Or.inr (xw_t h1 h2)
theorem n_hat {L : List Cond} {args : Array Value} {s : State} (h : ∀ w ∈ L, w ∈ BIG ∨ w ∈ XW) (hb : ∀ w ∈ BIG, w.before args s = true) (hz : nZ s) : ∀ w ∈ L, w.before args s = true := fun w hw => (h w hw).elim (hb w) (fun q => va_Nw.use (isX_tab (List.mem_filter.mp q).2) (hz w q))
theorem n_ot {w : Cond} (h : w ∈ BIG ∨ w ∈ XW) : vx_ot w = true := by
  rcases h with h | h
  · simp [vx_ot, (List.mem_filter.mp h).2]
  · simp [vx_ot, isX_tab (List.mem_filter.mp h).2]
theorem n_hgood {L : List Cond} {w1 w2 : Cond} (h1 : w1 ∈ BIG) (h2 : w2 ∈ BIG) (h : ∀ w ∈ L, w ∈ BIG ∨ w ∈ XW) : ∀ w ∈ w1 :: w2 :: L, vx_ot w = true := by
  intro w hw
  rcases List.mem_cons.mp hw with rfl | hw
  · exact n_ot (Or.inl h1)
  · rcases List.mem_cons.mp hw with rfl | hw
    · exact n_ot (Or.inl h2)
    · exact n_ot (h w hw)
theorem n_F {A : Nat → Prop} {s t : State} {H : Heap} {locs : List Loc} (hS : va_S A s.heap H locs) (hz : H.size ≤ t.heap.size) (hk : ∀ q : Nat, q < H.size → t.heap[q]? = H[q]?) : va_F A s t := ⟨Nat.le_trans hS.1 hz, fun q h1 h2 => (hk q (Nat.lt_of_lt_of_le h1 hS.1)).trans (hS.2.1 q h1 h2)⟩
theorem nP0 {D : va_G} {cl : List vw_C} {H : Heap} : va_P D cl [] H := fun k q h => by simp at h
theorem nD0 {A : Nat → Prop} : va_D A [] := ⟨fun i j p q h => by simp at h, fun k q h => by simp at h⟩
-- ===== what calls ask of their numbers =====
def inI (x : Int32) (a b : Int) : Prop := a ≤ x.toInt ∧ x.toInt ≤ b
def nIn (v a b : Int64) : Prop := a.toInt ≤ v.toInt ∧ v.toInt ≤ b.toInt
def okN (x : Int64) : Prop := -1000000000000000 ≤ x.toInt ∧ x.toInt ≤ 1000000000000000
def okGrid (a b : Int32) : Prop := inI a 1 10 ∧ inI b 1 5
def okLeaf (k o : Int32) : Prop := (k.toInt = 1 ∧ inI o 0 5) ∨ (k.toInt = 2 ∧ inI o 0 1) ∨ (k.toInt = 6 ∧ inI o 0 9) ∨ k.toInt = 4 ∨ k.toInt = 5
def okSign (k o : Int32) : Prop := (k.toInt = 0 ∧ inI o 0 9) ∨ ((k.toInt = 1 ∨ k.toInt = 2) ∧ inI o 0 3) ∨ ((k.toInt = 5 ∨ k.toInt = 6) ∧ inI o 0 3) ∨ k.toInt = 3 ∨ k.toInt = 7
def okName (k : Int32) : Prop := inI k 0 5
def okFun (k : Int32) : Prop := inI k 0 3
def okRound (k : Int32) : Prop := inI k 1 50
def okTick (a b : Int32) : Prop := inI a 0 1000000 ∧ inI b 0 1000000
def okWay (k : Int32) : Prop := inI k 0 2
def okScen (k : Int32) : Prop := inI k 0 2
theorem n_cmp_lt (x y : Int64) : (lg_cmp x y < 0) ↔ x < y := by
  unfold lg_cmp
  simp only [gt_iff_lt, Int64.lt_iff_toInt_lt, ← Int64.toInt_inj]
  repeat' split
  all_goals (constructor <;> intro hh <;> first | omega | decide | exact absurd hh (by decide))
theorem n_cmp_gt (x y : Int64) : (0 < lg_cmp x y) ↔ y < x := by
  unfold lg_cmp
  simp only [gt_iff_lt, Int64.lt_iff_toInt_lt, ← Int64.toInt_inj]
  repeat' split
  all_goals (constructor <;> intro hh <;> first | omega | decide | exact absurd hh (by decide))
theorem n_cmp_eq (x y : Int64) : (lg_cmp x y = 0) ↔ x = y := by
  unfold lg_cmp
  simp only [gt_iff_lt, Int64.lt_iff_toInt_lt, ← Int64.toInt_inj]
  repeat' split
  all_goals (constructor <;> intro hh <;> first | omega | decide | exact absurd hh (by decide))
theorem n_cmp_ge (x y : Int64) : (0 ≤ lg_cmp x y) ↔ y ≤ x := by
  unfold lg_cmp
  simp only [gt_iff_lt, Int64.lt_iff_toInt_lt, Int64.le_iff_toInt_le, ← Int64.toInt_inj]
  repeat' split
  all_goals (constructor <;> intro hh <;> first | omega | decide | exact absurd hh (by decide))
theorem n_cmp_le (x y : Int64) : (lg_cmp x y ≤ 0) ↔ x ≤ y := by
  unfold lg_cmp
  simp only [gt_iff_lt, Int64.lt_iff_toInt_lt, Int64.le_iff_toInt_le, ← Int64.toInt_inj]
  repeat' split
  all_goals (constructor <;> intro hh <;> first | omega | decide | exact absurd hh (by decide))
theorem n_inc (a : Nat) : nI a + Int32.ofInt 1 = nI (a + 1) := nI_1 a
theorem n_upL {g : Nat → Int64} {v : Int64} {i : Nat} (hi : i < 2 ^ 31) (h : ∀ j, j < i → g j = v) : ∀ j, j < i + 1 → vp_updL g (nI i).toNatClampNeg v j = v := by
  intro j hj
  rw [nI_clamp hi]
  by_cases q : j = i
  · rw [q]; exact pk_uLs
  · rw [pk_uLn q]; exact h j (by omega)
theorem n_upI {g : Nat → Int32} {v : Int32} {i : Nat} (hi : i < 2 ^ 31) (h : ∀ j, j < i → g j = v) : ∀ j, j < i + 1 → upd g (nI i).toNatClampNeg v j = v := by
  intro j hj
  rw [nI_clamp hi]
  by_cases q : j = i
  · rw [q]; exact pk_us
  · rw [pk_un q]; exact h j (by omega)
theorem n_div10 {x y : Int32} (h : ¬ x < 0) (e : y = x / 10) : 0 ≤ y := by
  obtain ⟨j, hj, rfl⟩ := nI_of h
  have h1 : nI j / (10 : Int32) = nI (j / 10) := pk_div (d := 10) hj (by decide) (by decide)
  rw [e, h1]
  exact nI_pos' (Nat.lt_of_le_of_lt (Nat.div_le_self _ _) hj)
theorem n_in {i N : Nat} (h : i < N) (hN : N < 2 ^ 31) : vp_in (nI i) N := vp_in_nI h hN
theorem n_leaf {k o y : Int32} (h : okLeaf k o) (e : y = 13 + k) : ¬ y ≤ 8 := by
  subst e
  have h1 : k.toInt = 1 ∨ k.toInt = 2 ∨ k.toInt = 6 ∨ k.toInt = 4 ∨ k.toInt = 5 := by
    simp only [okLeaf, inI] at h
    omega
  rcases h1 with h1 | h1 | h1 | h1 | h1
  · obtain rfl : k = 1 := Int32.toInt_inj.mp h1
    decide
  · obtain rfl : k = 2 := Int32.toInt_inj.mp h1
    decide
  · obtain rfl : k = 6 := Int32.toInt_inj.mp h1
    decide
  · obtain rfl : k = 4 := Int32.toInt_inj.mp h1
    decide
  · obtain rfl : k = 5 := Int32.toInt_inj.mp h1
    decide
theorem n_leaf0 {k o : Int32} (h : okLeaf k o) : ¬ k = 0 := by
  rintro rfl
  simp only [okLeaf, inI, show (0 : Int32).toInt = 0 from rfl] at h
  omega
theorem n_scen {k : Int32} (h : okScen k) : k = 0 ∨ k = 1 ∨ k = 2 := by
  have h1 : k.toInt = 0 ∨ k.toInt = 1 ∨ k.toInt = 2 := by
    simp only [okScen, inI] at h
    omega
  rcases h1 with h1 | h1 | h1
  · exact Or.inl (Int32.toInt_inj.mp h1)
  · exact Or.inr (Or.inl (Int32.toInt_inj.mp h1))
  · exact Or.inr (Or.inr (Int32.toInt_inj.mp h1))
theorem n_range {x : Int32} {n : Nat} (h : inI x 0 ((n : Int) - 1)) : vp_in x n := vp_in_iff.mpr ⟨h.1, by have := h.2; omega⟩
theorem n_pcons {P : ExceptionTableEntry → Prop} {z : ExceptionTableEntry} {zs : List ExceptionTableEntry} (h : P z) (t : ∀ y ∈ zs, P y) : ∀ y ∈ z :: zs, P y := List.forall_mem_cons.mpr ⟨h, t⟩
