/-! PART 13: throws -/
/-- what a throw of the class cls needs of the tables -/
def th_ok (cls : String) (ic : Nat) : Prop := Bundle.fit cls = true ∧ Jvm.Cond.initialized cls ∈ hl_T ∧ Jvm.Cond.castable cls cls ∈ lw_tbl ∧ ∀ w ∈ vx_atS RX7 ic cls ["java/lang/RuntimeException", "java/lang/Exception"], w ∈ hl_T ∨ (∃ y, w = Jvm.Cond.declares y ∧ w ∈ lw_tbl) ∨ ∃ C T, w = Jvm.Cond.castable C T ∧ w ∈ lw_tbl
def th_dc (w : Jvm.Cond) : Bool := match w with | .declares _ => true | .castable _ _ => true | _ => false
theorem th_of {cls : String} {ic : Nat} (h1 : Bundle.fit cls = true) (h2 : Jvm.Cond.initialized cls ∈ hl_T) (h4 : Jvm.Cond.castable cls cls ∈ lw_tbl) (h3 : (vx_atS RX7 ic cls ["java/lang/RuntimeException", "java/lang/Exception"]).all (fun w => decide (w ∈ lw_tbl) && (goodWord w || th_dc w)) = true) : th_ok cls ic :=
  ⟨h1, h2, h4, fun w hw => by
    have h := List.all_eq_true.mp h3 w hw
    simp only [Bool.and_eq_true, decide_eq_true_eq, Bool.or_eq_true] at h
    rcases h with ⟨g1, g2 | g2⟩
    · exact Or.inl (List.mem_filter.mpr ⟨g1, g2⟩)
    · unfold th_dc at g2
      split at g2
      · exact Or.inr (Or.inl ⟨_, rfl, g1⟩)
      · exact Or.inr (Or.inr ⟨_, _, rfl, g1⟩)
      · cases g2⟩
theorem th_at {cls : String} {ic : Nat} (T : th_ok cls ic) {G : hl_G} {args : Array Value} {s : State} (hts : ∀ w ∈ hl_T, w.before args s = true) (hE : hl_Ev G s) : ∀ w ∈ vx_atS RX7 ic cls ["java/lang/RuntimeException", "java/lang/Exception"], w.before args s = true := by
  intro w hw
  rcases T.2.2.2 w hw with h | ⟨y, rfl, h⟩ | ⟨C, D, rfl, h⟩
  · exact hts w h
  · exact va_Nw.use rfl (hE.2.2.2.2.2.2.1 _ h)
  · exact va_Nw.use rfl (hE.2.2.2.2.2.2.2.1 _ _ h)
theorem th_ot {cls : String} {ic : Nat} (T : th_ok cls ic) : ∀ w ∈ vx_atS RX7 ic cls ["java/lang/RuntimeException", "java/lang/Exception"], vx_ot w = true := by
  intro w hw
  rcases T.2.2.2 w hw with h | ⟨y, rfl, h⟩ | ⟨C, D, rfl, h⟩
  · have h2 := (List.mem_filter.mp h).2
    unfold vx_ot
    rw [h2, Bool.or_true]
  · rfl
  · rfl
theorem hl_T_ot {w : Jvm.Cond} (h : w ∈ hl_T) : vx_ot w = true := by
  have h2 := (List.mem_filter.mp h).2
  unfold vx_ot
  rw [h2, Bool.or_true]
set_option maxRecDepth 100000 in
theorem th_ISE : th_ok "java/lang/IllegalStateException" 70 := th_of (by decide +kernel) (hl_T_of (k := 61) (by decide +kernel) rfl) (List.mem_of_getElem? (i := 465) (by decide +kernel)) (by decide +kernel)
set_option maxRecDepth 100000 in
theorem th_IAE : th_ok "java/lang/IllegalArgumentException" 104 := th_of (by decide +kernel) (hl_T_of (k := 60) (by decide +kernel) rfl) (List.mem_of_getElem? (i := 387) (by decide +kernel)) (by decide +kernel)
set_option maxRecDepth 100000 in
theorem th_UOE : th_ok "java/lang/UnsupportedOperationException" 95 := th_of (by decide +kernel) (hl_T_of (k := 65) (by decide +kernel) rfl) (List.mem_of_getElem? (i := 534) (by decide +kernel)) (by decide +kernel)
set_option maxRecDepth 100000 in
theorem th_IOB : th_ok "java/lang/IndexOutOfBoundsException" 220 := th_of (by decide +kernel) (hl_T_of (k := 62) (by decide +kernel) rfl) (List.mem_of_getElem? (i := 521) (by decide +kernel)) (by decide +kernel)
set_option maxRecDepth 100000 in
theorem th_ARE : th_ok "java/lang/ArithmeticException" 289 := th_of (by decide +kernel) (hl_T_of (k := 69) (by decide +kernel) rfl) (List.mem_of_getElem? (i := 934) (by decide +kernel)) (by decide +kernel)
/-! the throw of NoSuchElementException: its constructor links the one above it by a number of its own (13); the walk goes as the library's for the other throws does -/
def nx_C : String := "java/util/NoSuchElementException"
def nx_up : String := "java/lang/RuntimeException"
/-- the words of its constructors' chain -/
def nx_ch : List Cond := Bundle.passSAtoms nx_C nx_up 13 prog_23_method_4_code ++ Bundle.chainSAtoms nx_up ["java/lang/Exception"]
/-- the words of its own cell and of the call that makes it -/
def nx_ws (own : String) (ic : Nat) : List Cond :=
  [.methodLink own ic (Bundle.initS nx_C), .instantiable nx_C 6, .castable nx_C nx_C, .selects nx_C Bundle.tFill0 Bundle.tFill0, .selects nx_C Bundle.tFill Bundle.tFill,
   .lays nx_C Bundle.tN "cause" "Ljava/lang/Throwable;", .lays nx_C Bundle.tN "stackTrace" Bundle.steD, .lays nx_C Bundle.tN "suppressedExceptions" Bundle.listD, .lays nx_C Bundle.tN "detailMessage" "Ljava/lang/String;",
   .isRef (.static Bundle.tN "UNASSIGNED_STACK" Bundle.steD), .isRef (.static Bundle.tN "SUPPRESSED_SENTINEL" Bundle.listD),
   .fieldLink Bundle.tN 198 Bundle.tN "backtrace" "Ljava/lang/Object;", .lays Bundle.tN Bundle.tN "backtrace" "Ljava/lang/Object;", .lays nx_C Bundle.tN "backtrace" "Ljava/lang/Object;"]
def nx_at (own : String) (ic : Nat) : List Cond := (Bundle.throwableAtoms ++ Bundle.throwableSAtoms) ++ (nx_ch ++ nx_ws own ic)
theorem nx_aw {own : String} {ic : Nat} {w : Cond} (h : w ∈ nx_ws own ic) : w ∈ nx_at own ic := List.mem_append_right _ (List.mem_append_right _ h)
theorem nx_ac {own : String} {ic : Nat} {w : Cond} (h : w ∈ nx_ch) : w ∈ nx_at own ic := List.mem_append_right _ (List.mem_append_left _ h)
theorem nx_at1 {own : String} {ic : Nat} {w : Cond} (h : w ∈ Bundle.throwableAtoms) : w ∈ nx_at own ic := List.mem_append_left _ (List.mem_append_left _ h)
theorem nx_at2 {own : String} {ic : Nat} {w : Cond} (h : w ∈ Bundle.throwableSAtoms) : w ∈ nx_at own ic := List.mem_append_left _ (List.mem_append_right _ h)
theorem nx_x0 : decode prog_23_method_4_code 0 = .ok (.aload_n 0, 1) := by decide +kernel
theorem nx_x1 : decode prog_23_method_4_code 1 = .ok (.aload_n 1, 1) := by decide +kernel
theorem nx_x2 : decode prog_23_method_4_code 2 = .ok (.invokespecial 13, 3) := by decide +kernel
theorem nx_x5 : decode prog_23_method_4_code 5 = .ok (.return_, 1) := by decide +kernel
section NX
variable {p : Program} {l : Launch} {e : Env} {R : Room} {s : State} {m₀ : MethodId} {args : Array Value} {below : List Frame} {meth : Method} {c : Code} {W9 : State} {locs : List Loc} {cells slots : Nat}
/-- the chain of the three constructors -/
theorem nx_chain {pl : Platform} (hpl : pl.magicAccessors = ({} : Platform).magicAccessors) {top : MethodId} (htop : s.methodNamed? (Bundle.initS Bundle.tN) = some top) (h : ∀ w ∈ nx_ch, w.before args s = true) :
    ∃ (A B D : PassC), A.LinksS pl s ∧ B.LinksS pl s ∧ D.LinksS pl s ∧ s.methodNamed? (Bundle.initS nx_C) = some A.m ∧ A.sup = B.m ∧ B.sup = D.m ∧ D.sup = top := by
  obtain ⟨A, LA, hA1, hA2⟩ := PassC.ofS_atoms (args := args) (s := s) hpl (X := nx_C) (Y := nx_up) (by decide +kernel) (by decide +kernel) nx_x0 nx_x1 nx_x2 nx_x5 (fun w hw => h w (List.mem_append_left _ hw))
  obtain ⟨B, Ps, hlen, LB, hL, hB, hs, hp⟩ := Bundle.chainS (args := args) hpl htop ["java/lang/Exception"] nx_up (by decide +kernel) (by decide +kernel) (fun w hw => h w (List.mem_append_right _ hw))
  rcases Ps with _ | ⟨D, Ps⟩
  · cases hlen
  · rcases Ps with _ | ⟨D2, Ps⟩
    · exact ⟨A, B, D, LA, LB, hL D List.mem_cons_self, hA1, Option.some.inj (hA2.symm.trans hB), hs, hp.1⟩
    · cases hlen
set_option maxHeartbeats 1000000 in
theorem nx_ctor (X : Stand p l e R s m₀ args below meth c W9 locs cells slots) (hexec : p.tables.exec = Jvm.exec) (htr : e.platform.stackTraces = false) {own : String} {ic : Nat}
    (hown : s.vm.findClass own = some m₀.cls) (h : ∀ w ∈ nx_at own ic, w.before args s = true)
    (hlocs : ∀ x ∈ locs, ∀ cell, s.heap[x.base]? = some cell → cell.vm.isStatics = false)
    {a : Addr} {cX : ClassId} {kX : Class} (hfX : s.vm.findClass nx_C = some cX) (hkX : s.vm.classes[cX]? = some kX) (hcell : W9.heap[a]? = some (freshCell cX kX)) (hnew : s.heap.size ≤ a)
    {msg : Value} (hmsg : msg.isRef = true)
    {g : JFrame} (hg : g.method = m₀) (hsize : g.locals.size = c.maxLocals) (hlocked : g.locked = none) (hentered : g.entered = []) {rest : List Value} (hstack : g.stack = msg :: .ref a :: .ref a :: rest)
    (hd6 : decode c.code g.pc = .ok (.invokespecial ic, 3)) (hd9 : decode c.code (g.pc + 3) = .ok (.athrow, 1)) (hout : ∀ x ∈ c.exceptionTable.toList, covers x (g.pc + 3) = false)
    (hRf : 5 < R.frames) (hRl : 2 * g.monitorRoom + ((Value.ref a :: rest).map fun v => v.category).sum + (13 * 3 + 42) ≤ R.locals) (hlk : meth.locks = false) :
    ∃ U : State, Steps p.tables e below (W9.setTop g) U ∧ U.status = .running ∧ Ended U below (.threw a) ∧ s.WarmedH U.vm ∧ s.sameButNew ({ U with vm := s.vm } : State) locs cells slots ∧
      ∃ ce, U.heap[a]? = some ce ∧ ce.vm = .none ∧ s.vm.findClass nx_C = some ce.cls := by
  have hpl : e.platform.magicAccessors = ({} : Platform).magicAccessors := by rw [X.admits.platform]
  have w' : ∀ {w : Cond}, w ∈ nx_ws own ic → w.holds args s none s [] = true := fun hw => h _ (nx_aw hw)
  obtain ⟨T, Z0, L, -, Y⟩ := ThrowableC.of_atoms (args := args) (s := s) (pl := e.platform) (by rw [X.admits.platform]) (by rw [X.admits.platform]) hpl (fun w hw => h w (nx_at1 hw))
  obtain ⟨Z, M, LZ, LM, hnZ⟩ := Init0T.ofS_atoms (args := args) hpl L Y (fun w hw => h w (nx_at2 hw))
  obtain ⟨A, B, D, LA, LB, LD, hAm, eAB, eBD, eD⟩ := nx_chain (args := args) hpl hnZ (fun w hw => h w (nx_ac hw))
  have hfound : s.vm.findClass nx_C = some A.m.cls := findClass_of_methodNamed hAm
  cases Option.some.inj (hfX.symm.trans hfound)
  obtain ⟨c1, kX', hc1, hk, hord, -, -, hn6⟩ := Cond.instantiable_spec (w' (w := .instantiable nx_C 6) (by simp [nx_ws]))
  cases Option.some.inj (hc1.symm.trans hfound)
  cases Option.some.inj (hkX.symm.trans hk)
  have hsel0 : selectMethod e.platform s.vm A.m.cls T.fill0 = .method T.fill0 := by
    obtain ⟨c2, r2, m2, q1, q2, q3, q4, -⟩ := Cond.selects_spec (w' (w := .selects nx_C Bundle.tFill0 Bundle.tFill0) (by simp [nx_ws]))
    cases Option.some.inj (q1.symm.trans hfound)
    cases Option.some.inj (q2.symm.trans (State.methodFound?_of_named Y.fill0 (by decide)))
    cases Option.some.inj (q3.symm.trans Y.fill0)
    rw [Launch.admits_selectMethod X.admits]; exact q4
  have hselF : selectMethod e.platform s.vm A.m.cls T.fill = .method T.fill := by
    obtain ⟨c2, r2, m2, q1, q2, q3, q4, -⟩ := Cond.selects_spec (w' (w := .selects nx_C Bundle.tFill Bundle.tFill) (by simp [nx_ws]))
    cases Option.some.inj (q1.symm.trans hfound)
    cases Option.some.inj (q2.symm.trans (State.methodFound?_of_named Y.fill (by decide)))
    cases Option.some.inj (q3.symm.trans Y.fill)
    rw [Launch.admits_selectMethod X.admits]; exact q4
  obtain ⟨cS0, hcS0, hiss⟩ := Y.statics
  obtain ⟨u0, hu0⟩ := Cond.staticRefV Y.unassigned L.unassignedStatic L.statics hcS0 hiss (w' (w := .isRef (.static Bundle.tN "UNASSIGNED_STACK" Bundle.steD)) (by simp [nx_ws]))
  obtain ⟨sen, hsen⟩ := Cond.staticRefV Y.sentinel L.sentinelStatic L.statics hcS0 hiss (w' (w := .isRef (.static Bundle.tN "SUPPRESSED_SENTINEL" Bundle.listD)) (by simp [nx_ws]))
  obtain ⟨ci, ib, fB, hk198, hg198, ha198, hsB, -, hnB, htB, hffB⟩ := Cond.ownField (t := .object "java/lang/Object") Y.found L.cls (by decide +kernel) (w' (w := .fieldLink Bundle.tN 198 Bundle.tN "backtrace" "Ljava/lang/Object;") (by simp [nx_ws])) (w' (w := .lays Bundle.tN Bundle.tN "backtrace" "Ljava/lang/Object;") (by simp [nx_ws])) e.platform hpl
  obtain ⟨cS, hcS', heS, -, hkeep⟩ := X.same.2.2.2.2.2 T.aS cS0 hcS0
  have hcS : W9.heap[T.aS]? = some cS := hcS'
  have hout' : ∀ i, (⟨T.aS, i⟩ : Loc) ∉ locs := fun i hmem => by
    have := hlocs _ hmem cS0 hcS0
    rw [hiss] at this; cases this
  have hknS : cS.vm ≠ .unknown := by
    rw [heS]; intro hu
    rw [show cS0.vm = .unknown from hu] at hiss
    cases hiss
  have hneS : T.aS ≠ a := Nat.ne_of_lt (Nat.lt_of_lt_of_le (Array.getElem?_eq_some_iff.mp hcS0).1 hnew)
  obtain ⟨iM, hffM⟩ := Y.msg
  obtain ⟨tyC, dC, hdC, hdnC⟩ := Cond.laysAt hfound hk Y.cause (w' (w := .lays nx_C Bundle.tN "cause" "Ljava/lang/Throwable;") (by simp [nx_ws]))
  obtain ⟨tyS, dS, hdS, hdnS⟩ := Cond.laysAt hfound hk Y.stack (w' (w := .lays nx_C Bundle.tN "stackTrace" Bundle.steD) (by simp [nx_ws]))
  obtain ⟨tyP, dP, hdP, hdnP⟩ := Cond.laysAt hfound hk Y.supp (w' (w := .lays nx_C Bundle.tN "suppressedExceptions" Bundle.listD) (by simp [nx_ws]))
  obtain ⟨tyM, dM, hdM, hdnM⟩ := Cond.laysAt hfound hk hffM (w' (w := .lays nx_C Bundle.tN "detailMessage" "Ljava/lang/String;") (by simp [nx_ws]))
  obtain ⟨tyB, dB, hdB, hdnB⟩ := Cond.laysAt hfound hk hffB (w' (w := .lays nx_C Bundle.tN "backtrace" "Ljava/lang/Object;") (by simp [nx_ws]))
  have bC := Cond.laysApart hdB hdC hdnB hdnC (by rw [hnB, Y.causeName]; decide)
  have bS := Cond.laysApart hdB hdS hdnB hdnS (by rw [hnB, Y.stackName]; decide)
  have bP := Cond.laysApart hdB hdP hdnB hdnP (by rw [hnB, Y.suppName]; decide)
  have hskip : SkipFacts T e.platform s (fun u => u) u0 ((preparedCellV T.toThrowableT (freshCell A.m.cls kX) a u0 sen).withEntry W9.cur) :=
    ⟨{ ci198 := ci, i198 := ib, fBack := fB }, ⟨hk198, hg198, ha198, hsB⟩, by
      have hz := fresh_default (c := A.m.cls) tyB
      rw [htB] at hz
      simpa [preparedCellV, Cell.setSlot, Cell.withEntry, Array.getElem?_setIfInBounds, bC, bS, bP, bC.symm, bS.symm, bP.symm, defaultValue] using hz, fun _ _ => rfl⟩
  obtain ⟨tm, methC, cdC, kC, vm₁, hnC, -, -, -, -, -, -, -, hW₁, st1⟩ := Steps.initColdS (tb := p.tables) (e := e) (below := below) (s := s) (U := W9) X.here hexec X.warmed hpl hown (t := Bundle.initS nx_C) rfl rfl (by decide +kernel)
    (w' (w := .methodLink own ic (Bundle.initS nx_C)) (by simp [nx_ws])) (h (.instanceMethod (Bundle.initS nx_C)) (nx_ac (by simp [nx_ch, Bundle.passSAtoms]))) (bytes := prog_23_method_4_code) (maxL := 2) (h (.code (Bundle.initS nx_C) prog_23_method_4_code 2 none) (nx_ac (by simp [nx_ch, Bundle.passSAtoms])))
    (f := g) hg (a := a) (msg := msg) (rest := .ref a :: rest) hstack hd6
  cases Option.some.inj (hnC.symm.trans hAm)
  have X₁ := X.noted hW₁
  obtain ⟨vm₂, X₂, st2⟩ := X₁.ctorMessageOffV hexec (g := { g with stack := .ref a :: rest }) hg hsize T L Z LZ M LM [A, B, D]
    (fun P hP => by
      rcases List.mem_cons.mp hP with rfl | hP
      · exact LA
      · rcases List.mem_cons.mp hP with rfl | hP
        · exact LB
        · rcases List.mem_cons.mp hP with rfl | hP
          · exact LD
          · cases hP) ⟨eAB, eBD, eD, trivial⟩ (u0 := u0) (sen := sen) (self := a) hmsg (cell := freshCell A.m.cls kX) (cellS := cS)
    hcell (fun _ => by simp) (by simp) rfl rfl hsel0 hselF hcS hneS hknS (by rw [hkeep _ (hout' _)]; exact hu0) (by rw [hkeep _ (hout' _)]; exact hsen)
    (Takes.of_laid hk hord tyC (by rw [Y.causeType]; rfl)) (Takes.of_laid hk hord tyS (by rw [Y.stackType]; exact fits_refV_array _ u0)) (Takes.of_laid hk hord tyP (by rw [Y.suppType]; exact fits_refV_object _ sen))
    (Takes.of_laid hk hord tyM (by rw [Y.msgType]; exact fits_refV_object _ ⟨msg, hmsg⟩)) Y.objLocals hskip htr [] hd6
    (by show _ < R.frames; simp only [List.length_cons, List.length_nil]; omega) (by simp only [List.length_cons, List.length_nil]; exact hRl)
  obtain ⟨hwalk, hrun, hended, hWU, hsame⟩ := X₂.athrowLeaves hexec (g := { g with stack := .ref a :: rest, pc := g.pc + 3 }) hg hlocked hentered hout (a := a) (rest := rest) rfl hd9
  have hlt : a < ((W9.setVm vm₁).setVm vm₂).heap.size := (Array.getElem?_eq_some_iff.mp hcell).1
  have hU := heapAt_setCell_self (s := (W9.setVm vm₁).setVm vm₂) (plainBareV T.toThrowableT (freshCell A.m.cls kX) a u0 sen msg) hlt
  refine ⟨_, st1 _ (fun acts => ?_), hrun, hended, hWU, hsame.weaken (fun y hy hlt' => ?_) (Nat.le_refl _) (Nat.le_refl _), _, hU, rfl, hfound⟩
  · rw [doInvoke_state]
    exact st2 _ hwalk
  · rcases List.mem_append.mp hy with h1 | h1
    · exact h1
    · exfalso
      have hb : y.base = a := by
        simp only [List.mem_cons, List.not_mem_nil, or_false] at h1
        rcases h1 with rfl | rfl | rfl | rfl | rfl <;> rfl
      rw [hb] at hlt'
      exact Nat.not_lt.mpr hnew hlt'
end NX
section NY
variable {p : Program} {l : Launch} {e : Env} {R : Room} {s : State} {m : MethodId} {args : Array Value} {below : List Frame} {meth : Method} {c : Code} {H : Heap} {locs : List Loc} {cells slots : Nat} {ls : Array Slot} {rest : List Value}
variable {Qc : Array Value → State → Outcome → State → Prop} {XC : String → State → State → Prop} {free : Addr → Prop}
/-- 'throw new NoSuchElementException("text")' -/
theorem nx_throw {cc : ByteArray} {pc : Nat} (hexec : p.tables.exec = Jvm.exec) (hb : c.code = cc) (hl : l.stackTraces = false) {own text : String} {ik is ic mc ms sa : Nat} {A : Nat → Prop}
    (hown : s.vm.findClass own = some m.cls)
    (hk : (Cond.classLink own ik nx_C).before args s = true) (hini : (Cond.initialized nx_C).before args s = true) (hstr : vk_R own is text sa s) (hat : ∀ w ∈ (nx_at own ic).filter vx_no, w.before args s = true)
    (hgood : ∀ w ∈ Cond.classLink own ik nx_C :: Cond.initialized nx_C :: (nx_at own ic).filter vx_no, vx_ot w = true)
    (hU : vx_Zq Bundle.tN "UNASSIGNED_STACK" Bundle.steD A s s.heap) (hN : vx_Zq Bundle.tN "SUPPRESSED_SENTINEL" Bundle.listD A s s.heap) (hS : va_S A s.heap H locs) (hsize : ls.size = c.maxLocals)
    (d0 : decode cc pc = .ok (.new ik, 3)) (d3 : decode cc (pc + 3) = .ok (.dup, 1)) (d4 : decode cc (pc + 4) = .ok (.ldc is, 2)) (d6 : decode cc (pc + 6) = .ok (.invokespecial ic, 3)) (d9 : decode cc (pc + 9) = .ok (.athrow, 1))
    (hout : ∀ x ∈ c.exceptionTable.toList, covers x (pc + 9) = false)
    (hRf : 5 < R.frames) (hRl : (rest.map fun v => v.category).sum + (13 * 3 + 43) ≤ R.locals) (hRcells : cells + 1 ≤ R.cells) (hRslots : slots + 6 ≤ R.slots) (hlocks : meth.locks = false)
    (hx : ∀ t : State, s.vm.Alike t.vm → H.size ≤ t.heap.size → (∀ q : Nat, q < H.size → t.heap[q]? = H[q]?) → XC nx_C s t)
    (hf : ∀ z ∈ locs, free z.base) (hc : cells + 1 ≤ mc) (hs : slots + 6 ≤ ms) :
    W p l e R s m args below meth c H locs cells slots (vx_MQ below Qc XC args s mc ms free) (F0 m pc ls rest) := by
  intro T hT X
  have htr : e.platform.stackTraces = false := (show e.platform.stackTraces = l.stackTraces by rw [X.admits.platform]).trans hl
  have Y := vx_rebase X (R' := { frames := R.frames, locals := R.locals, cells := 1, slots := 6 }) (Nat.le_refl _) (Nat.le_refl _) hRcells hRslots
  obtain ⟨s', hA⟩ : ∃ z, z = (T.setVm s.vm).setFrames (.invoking m args :: below) := ⟨_, rfl⟩
  rw [← hA] at Y
  have hvm : s'.vm = s.vm := by rw [hA]; rfl
  have hhp : s'.heap = H := by rw [hA]; exact hT
  have hW0 : s.WarmedH s'.vm := by rw [hvm]; exact State.WarmedH.refl s
  have hat' : ∀ w ∈ (nx_at own ic).filter vx_no, w.before args s' = true := fun w hw => vx_ot_at hW0 hvm.symm (hgood w (List.mem_cons_of_mem _ (List.mem_cons_of_mem _ hw))) (hat w hw)
  have hk' : (Cond.classLink own ik nx_C).before args s' = true := vx_ot_at hW0 hvm.symm (hgood _ List.mem_cons_self) hk
  have hini' : (Cond.initialized nx_C).before args s' = true := vx_ot_at hW0 hvm.symm (hgood _ (List.mem_cons_of_mem _ List.mem_cons_self)) hini
  have hU' : vx_Zq Bundle.tN "UNASSIGNED_STACK" Bundle.steD A s' s'.heap := by rw [hhp]; exact vx_Zq.moved hW0.alike (hU.kept hS.2.1)
  have hN' : vx_Zq Bundle.tN "SUPPRESSED_SENTINEL" Bundle.listD A s' s'.heap := by rw [hhp]; exact vx_Zq.moved hW0.alike (hN.kept hS.2.1)
  have h : ∀ w ∈ nx_at own ic, w.before args s' = true := vx_own hat' (vx_isRefq hU'.1) (vx_isRefq hN'.1) hU'.2.word hN'.2.word
  have hown' : s'.vm.findClass own = some m.cls := by rw [hvm]; exact hown
  have hins : (Cond.instantiable nx_C 6).before args s' = true := h _ (nx_aw (by simp [nx_ws]))
  obtain ⟨vm₁, cX, kX, hfX, hkX, -, -, X₁, st1⟩ := Y.newCold hexec (own := own) (C := nx_C) (index := ik) (n := 6) hown' hk' hins hini'
    (g := F0 m pc ls rest) rfl (by rw [hb]; exact d0) (Nat.le_refl _) (Nat.le_refl _)
  generalize hT1 : (T.setVm vm₁).pushCell { cls := cX, slots := kX.instanceTypes.map defaultValue, vm := .none } = T1 at X₁ st1
  have hcat : (Value.ref T.heap.size).category = 1 := rfl
  have hcellA : T1.heap[T.heap.size]? = some (freshCell cX kX) := by rw [← hT1]; exact State.heap_pushCell_size _ _
  have d3' : decode c.code (pc + 3) = .ok (.dup, 1) := by rw [hb]; exact d3
  have d4' : decode c.code (pc + 4) = .ok (.ldc is, 2) := by rw [hb]; exact d4
  have hstr' : vk_R own is text sa s' := vk_R.warm hW0 hstr
  obtain ⟨U, hsteps, hrun, hend, hW, hsame, ce, hce, hvm9, hcl9⟩ := nx_ctor X₁ hexec htr (own := own) (ic := ic) hown' h (fun x hx => nomatch hx) hfX hkX hcellA (by rw [hhp, hT]; exact Nat.le_refl _) (msg := .ref sa) rfl
    (g := { method := m, pc := pc + 6, locals := ls, stack := .ref sa :: .ref T.heap.size :: .ref T.heap.size :: rest, locked := none }) rfl hsize rfl rfl (rest := rest) rfl
    (by rw [hb]; exact d6) (by rw [hb]; exact d9) hout hRf (by simp only [List.map_cons, List.sum_cons, hcat]; omega) hlocks
  obtain ⟨f1, f2⟩ := vx_frame hsame
  rw [hhp] at f1 f2
  have hWs : s.WarmedH U.vm := State.WarmedH.trans hW0 hW
  have hcl : s.vm.findClass nx_C = some ce.cls := by
    rw [hvm] at hcl9
    exact hcl9
  have hall : s.sameButNew ({ U with vm := s.vm } : State) locs mc ms := by
    subst hA
    obtain ⟨e1, e2⟩ := hsame
    rw [State.setFrames_setFrames] at e1
    have h2 : (T.setVm s.vm).sameButNew ({ U with vm := s.vm } : State) [] (0 + 1) (0 + 6) := ⟨e1, e2⟩
    have h3 := X.same.trans h2
    rw [List.append_nil] at h3
    exact h3.mono hc hs
  refine ⟨U, ?_, .threw T.heap.size, hrun, hend, Or.inr ⟨T.heap.size, rfl, nx_C, ce, locs, hx U hWs.alike f1 (fun q hq => f2 q hq (fun z hz => nomatch hz)), hce, hvm9, hcl, hWs, hall, hf⟩⟩
  refine st1 _ ?_
  show Steps p.tables e below (T1.setTop { method := m, pc := pc + 3, locals := ls, stack := .ref T.heap.size :: rest, locked := none }) _
  jvm_step X₁.here [X₁.here.top, hexec, d3', Value.category]
  exact X₁.ldcString hexec (own := own) (text := text) (index := is) (a := sa) hown' hstr'.1 hstr'.2
    (g := { method := m, pc := pc + 4, locals := ls, stack := .ref T.heap.size :: .ref T.heap.size :: rest, locked := none }) rfl d4' _ hsteps
/-- 'throw new NoSuchElementException("text")', the text by a wide index -/
theorem nx_throwW {cc : ByteArray} {pc : Nat} (hexec : p.tables.exec = Jvm.exec) (hb : c.code = cc) (hl : l.stackTraces = false) {own text : String} {ik is ic mc ms sa : Nat} {A : Nat → Prop}
    (hown : s.vm.findClass own = some m.cls)
    (hk : (Cond.classLink own ik nx_C).before args s = true) (hini : (Cond.initialized nx_C).before args s = true) (hstr : vk_R own is text sa s) (hat : ∀ w ∈ (nx_at own ic).filter vx_no, w.before args s = true)
    (hgood : ∀ w ∈ Cond.classLink own ik nx_C :: Cond.initialized nx_C :: (nx_at own ic).filter vx_no, vx_ot w = true)
    (hU : vx_Zq Bundle.tN "UNASSIGNED_STACK" Bundle.steD A s s.heap) (hN : vx_Zq Bundle.tN "SUPPRESSED_SENTINEL" Bundle.listD A s s.heap) (hS : va_S A s.heap H locs) (hsize : ls.size = c.maxLocals)
    (d0 : decode cc pc = .ok (.new ik, 3)) (d3 : decode cc (pc + 3) = .ok (.dup, 1)) (d4 : decode cc (pc + 4) = .ok (.ldc_w is, 3)) (d6 : decode cc (pc + 7) = .ok (.invokespecial ic, 3)) (d9 : decode cc (pc + 10) = .ok (.athrow, 1))
    (hout : ∀ x ∈ c.exceptionTable.toList, covers x (pc + 10) = false)
    (hRf : 5 < R.frames) (hRl : (rest.map fun v => v.category).sum + (13 * 3 + 43) ≤ R.locals) (hRcells : cells + 1 ≤ R.cells) (hRslots : slots + 6 ≤ R.slots) (hlocks : meth.locks = false)
    (hx : ∀ t : State, s.vm.Alike t.vm → H.size ≤ t.heap.size → (∀ q : Nat, q < H.size → t.heap[q]? = H[q]?) → XC nx_C s t)
    (hf : ∀ z ∈ locs, free z.base) (hc : cells + 1 ≤ mc) (hs : slots + 6 ≤ ms) :
    W p l e R s m args below meth c H locs cells slots (vx_MQ below Qc XC args s mc ms free) (F0 m pc ls rest) := by
  intro T hT X
  have htr : e.platform.stackTraces = false := (show e.platform.stackTraces = l.stackTraces by rw [X.admits.platform]).trans hl
  have Y := vx_rebase X (R' := { frames := R.frames, locals := R.locals, cells := 1, slots := 6 }) (Nat.le_refl _) (Nat.le_refl _) hRcells hRslots
  obtain ⟨s', hA⟩ : ∃ z, z = (T.setVm s.vm).setFrames (.invoking m args :: below) := ⟨_, rfl⟩
  rw [← hA] at Y
  have hvm : s'.vm = s.vm := by rw [hA]; rfl
  have hhp : s'.heap = H := by rw [hA]; exact hT
  have hW0 : s.WarmedH s'.vm := by rw [hvm]; exact State.WarmedH.refl s
  have hat' : ∀ w ∈ (nx_at own ic).filter vx_no, w.before args s' = true := fun w hw => vx_ot_at hW0 hvm.symm (hgood w (List.mem_cons_of_mem _ (List.mem_cons_of_mem _ hw))) (hat w hw)
  have hk' : (Cond.classLink own ik nx_C).before args s' = true := vx_ot_at hW0 hvm.symm (hgood _ List.mem_cons_self) hk
  have hini' : (Cond.initialized nx_C).before args s' = true := vx_ot_at hW0 hvm.symm (hgood _ (List.mem_cons_of_mem _ List.mem_cons_self)) hini
  have hU' : vx_Zq Bundle.tN "UNASSIGNED_STACK" Bundle.steD A s' s'.heap := by rw [hhp]; exact vx_Zq.moved hW0.alike (hU.kept hS.2.1)
  have hN' : vx_Zq Bundle.tN "SUPPRESSED_SENTINEL" Bundle.listD A s' s'.heap := by rw [hhp]; exact vx_Zq.moved hW0.alike (hN.kept hS.2.1)
  have h : ∀ w ∈ nx_at own ic, w.before args s' = true := vx_own hat' (vx_isRefq hU'.1) (vx_isRefq hN'.1) hU'.2.word hN'.2.word
  have hown' : s'.vm.findClass own = some m.cls := by rw [hvm]; exact hown
  have hins : (Cond.instantiable nx_C 6).before args s' = true := h _ (nx_aw (by simp [nx_ws]))
  obtain ⟨vm₁, cX, kX, hfX, hkX, -, -, X₁, st1⟩ := Y.newCold hexec (own := own) (C := nx_C) (index := ik) (n := 6) hown' hk' hins hini'
    (g := F0 m pc ls rest) rfl (by rw [hb]; exact d0) (Nat.le_refl _) (Nat.le_refl _)
  generalize hT1 : (T.setVm vm₁).pushCell { cls := cX, slots := kX.instanceTypes.map defaultValue, vm := .none } = T1 at X₁ st1
  have hcat : (Value.ref T.heap.size).category = 1 := rfl
  have hcellA : T1.heap[T.heap.size]? = some (freshCell cX kX) := by rw [← hT1]; exact State.heap_pushCell_size _ _
  have d3' : decode c.code (pc + 3) = .ok (.dup, 1) := by rw [hb]; exact d3
  have d4' : decode c.code (pc + 4) = .ok (.ldc_w is, 3) := by rw [hb]; exact d4
  have hstr' : vk_R own is text sa s' := vk_R.warm hW0 hstr
  obtain ⟨U, hsteps, hrun, hend, hW, hsame, ce, hce, hvm9, hcl9⟩ := nx_ctor X₁ hexec htr (own := own) (ic := ic) hown' h (fun x hx => nomatch hx) hfX hkX hcellA (by rw [hhp, hT]; exact Nat.le_refl _) (msg := .ref sa) rfl
    (g := { method := m, pc := pc + 7, locals := ls, stack := .ref sa :: .ref T.heap.size :: .ref T.heap.size :: rest, locked := none }) rfl hsize rfl rfl (rest := rest) rfl
    (by rw [hb]; exact d6) (by rw [hb]; exact d9) hout hRf (by simp only [List.map_cons, List.sum_cons, hcat]; omega) hlocks
  obtain ⟨f1, f2⟩ := vx_frame hsame
  rw [hhp] at f1 f2
  have hWs : s.WarmedH U.vm := State.WarmedH.trans hW0 hW
  have hcl : s.vm.findClass nx_C = some ce.cls := by
    rw [hvm] at hcl9
    exact hcl9
  have hall : s.sameButNew ({ U with vm := s.vm } : State) locs mc ms := by
    subst hA
    obtain ⟨e1, e2⟩ := hsame
    rw [State.setFrames_setFrames] at e1
    have h2 : (T.setVm s.vm).sameButNew ({ U with vm := s.vm } : State) [] (0 + 1) (0 + 6) := ⟨e1, e2⟩
    have h3 := X.same.trans h2
    rw [List.append_nil] at h3
    exact h3.mono hc hs
  refine ⟨U, ?_, .threw T.heap.size, hrun, hend, Or.inr ⟨T.heap.size, rfl, nx_C, ce, locs, hx U hWs.alike f1 (fun q hq => f2 q hq (fun z hz => nomatch hz)), hce, hvm9, hcl, hWs, hall, hf⟩⟩
  refine st1 _ ?_
  show Steps p.tables e below (T1.setTop { method := m, pc := pc + 3, locals := ls, stack := .ref T.heap.size :: rest, locked := none }) _
  jvm_step X₁.here [X₁.here.top, hexec, d3', Value.category]
  exact X₁.ldcStringW hexec (own := own) (text := text) (index := is) (a := sa) hown' hstr'.1 hstr'.2
    (g := { method := m, pc := pc + 4, locals := ls, stack := .ref T.heap.size :: .ref T.heap.size :: rest, locked := none }) rfl d4' _ hsteps
end NY
theorem nx_ini : Jvm.Cond.initialized nx_C ∈ hl_T := hl_T_of (k := 67) (by decide +kernel) rfl
set_option maxRecDepth 100000 in
theorem nx_chk : ((nx_at RX7 198).filter vx_no).all (fun w => decide (w ∈ lw_tbl) && (goodWord w || th_dc w)) = true := by decide +kernel
theorem nx_all : ∀ w ∈ (nx_at RX7 198).filter vx_no, w ∈ hl_T ∨ (∃ y, w = Jvm.Cond.declares y ∧ w ∈ lw_tbl) ∨ ∃ C D, w = Jvm.Cond.castable C D ∧ w ∈ lw_tbl := fun w hw => by
  have h := List.all_eq_true.mp nx_chk w hw
  simp only [Bool.and_eq_true, decide_eq_true_eq, Bool.or_eq_true] at h
  rcases h with ⟨g1, g2 | g2⟩
  · exact Or.inl (List.mem_filter.mpr ⟨g1, g2⟩)
  · unfold th_dc at g2
    split at g2
    · exact Or.inr (Or.inl ⟨_, rfl, g1⟩)
    · exact Or.inr (Or.inr ⟨_, _, rfl, g1⟩)
    · cases g2
section TH
variable {G : hl_G} {l : Launch} {M : hl_M} {d k n : Nat} {Q : Option Value → hl_H → Prop} {X : String → hl_H → Prop}
variable {p : Program} {e : Env} {s : State} {m : MethodId} {args : Array Value} {below : List Frame} {meth : Method} {c : Code} {lv : List (Nat × Value)} {h : hl_H} {ce sl pc : Nat}
theorem hl_Xc_of {H : Heap} {locs : List Loc} {E : String} (hP : hl_P G h H) (hS : va_S (hl_A G) s.heap H locs) (hX : X E h) : ∀ t : State, s.vm.Alike t.vm → H.size ≤ t.heap.size → (∀ q : Nat, q < H.size → t.heap[q]? = H[q]?) → hl_Xc G X E s t := by
  intro t _ hz hq
  obtain ⟨w, h1, h2, h3⟩ := hP
  refine ⟨h, ⟨w, h1, h2.kept (fun j x hj => hq x.1 ((h2 j x hj).lt)), h3⟩, hX, Nat.le_trans hS.1 hz, fun q g1 g2 => ?_⟩
  rw [hq q (Nat.lt_of_lt_of_le g1 hS.1)]
  exact hS.2.1 q g1 g2
theorem hl_Zq {C nm ds : String} (hS0 : va_S (hl_A G) G.2.2 s.heap []) (hz : vx_Zq C nm ds (hl_A G) s G.2.2) : vx_Zq C nm ds (hl_A G) s s.heap :=
  hz.kept (fun q g1 g2 => hS0.2.1 q g1 g2)
/-- 'throw new E("text")', the text's number small -/
theorem hl_throw (B : hl_B G M d k n p s m args meth c) (hM : M.1.cls = RX7) (hl : l.stackTraces = false) {cls text : String} {ik is ic kk ks : Nat} (T : th_ok cls ic) (hk : hl_w kk (Jvm.Cond.classLink RX7 ik cls) = true) (hst : lw_tbl[ks]? = some (Jvm.Cond.stringRef RX7 is text))
    (d0 : decode M.2.1 pc = .ok (.new ik, 3)) (d3 : decode M.2.1 (pc + 3) = .ok (.dup, 1)) (d4 : decode M.2.1 (pc + 4) = .ok (.ldc is, 2)) (d6 : decode M.2.1 (pc + 6) = .ok (.invokespecial ic, 3)) (d9 : decode M.2.1 (pc + 9) = .ok (.athrow, 1))
    (hc : ce + 1 ≤ k) (hs : sl + 6 ≤ n) (hX : X cls h) : hl_GM G M d k n Q X p l e s m args below meth c pc lv [] h ce sl := by
  intro H locs ls hP hS hlv
  obtain ⟨⟨hx, hb, hml, hown, hts, hE, hS0, hRf, hRl⟩, hlk, hrt, hnm, hno⟩ := id B
  rw [hM] at hown
  obtain ⟨sa, hsa⟩ := hE.2.2.2.2.2.1 _ _ _ (List.mem_of_getElem? hst)
  exact vx_throwS (names := ["java/lang/RuntimeException", "java/lang/Exception"]) hx hb hl hown T.1 (by decide +kernel) (hts _ (hl_w_T hk)) (hts _ T.2.1) hsa (th_at T hts hE) (fun w hw => by
      rcases List.mem_cons.mp hw with e1 | hw
      · rw [e1]; exact hl_T_ot (hl_w_T hk)
      · rcases List.mem_cons.mp hw with e1 | hw
        · rw [e1]; exact hl_T_ot T.2.1
        · exact th_ot T w hw) (hl_Zq hS0 hE.2.1) (hl_Zq hS0 hE.2.2.1) hS (by rw [hml]; exact hlv.1) d0 d3 d4 d6 d9 (fun x hx => (hno x hx).elim) (by show 2 + 3 < d + 6; omega) (by show 0 + (13 * 3 + 43) ≤ 40 * d + 140; omega) hc hs hlk (hl_Xc_of hP hS hX) hS.2.2 hc hs
/-- .. and where it is large -/
theorem hl_throwW (B : hl_B G M d k n p s m args meth c) (hM : M.1.cls = RX7) (hl : l.stackTraces = false) {cls text : String} {ik is ic kk ks : Nat} (T : th_ok cls ic) (hk : hl_w kk (Jvm.Cond.classLink RX7 ik cls) = true) (hst : lw_tbl[ks]? = some (Jvm.Cond.stringRef RX7 is text))
    (d0 : decode M.2.1 pc = .ok (.new ik, 3)) (d3 : decode M.2.1 (pc + 3) = .ok (.dup, 1)) (d4 : decode M.2.1 (pc + 4) = .ok (.ldc_w is, 3)) (d6 : decode M.2.1 (pc + 7) = .ok (.invokespecial ic, 3)) (d9 : decode M.2.1 (pc + 10) = .ok (.athrow, 1))
    (hc : ce + 1 ≤ k) (hs : sl + 6 ≤ n) (hX : X cls h) : hl_GM G M d k n Q X p l e s m args below meth c pc lv [] h ce sl := by
  intro H locs ls hP hS hlv
  obtain ⟨⟨hx, hb, hml, hown, hts, hE, hS0, hRf, hRl⟩, hlk, hrt, hnm, hno⟩ := id B
  rw [hM] at hown
  obtain ⟨sa, hsa⟩ := hE.2.2.2.2.2.1 _ _ _ (List.mem_of_getElem? hst)
  exact vx_throwSW (names := ["java/lang/RuntimeException", "java/lang/Exception"]) hx hb hl hown T.1 (by decide +kernel) (hts _ (hl_w_T hk)) (hts _ T.2.1) hsa (th_at T hts hE) (fun w hw => by
      rcases List.mem_cons.mp hw with e1 | hw
      · rw [e1]; exact hl_T_ot (hl_w_T hk)
      · rcases List.mem_cons.mp hw with e1 | hw
        · rw [e1]; exact hl_T_ot T.2.1
        · exact th_ot T w hw) (hl_Zq hS0 hE.2.1) (hl_Zq hS0 hE.2.2.1) hS (by rw [hml]; exact hlv.1) d0 d3 d4 d6 d9 (fun x hx => (hno x hx).elim) (by show 2 + 3 < d + 6; omega) (by show 0 + (13 * 3 + 43) ≤ 40 * d + 140; omega) hc hs hlk (hl_Xc_of hP hS hX) hS.2.2 hc hs
/-- 'throw new NoSuchElementException("text")' -/
theorem hl_throwN (B : hl_B G M d k n p s m args meth c) (hM : M.1.cls = RX7) (hl : l.stackTraces = false) {text : String} {ik is kk ks : Nat} (hk : hl_w kk (Jvm.Cond.classLink RX7 ik "java/util/NoSuchElementException") = true) (hst : lw_tbl[ks]? = some (Jvm.Cond.stringRef RX7 is text))
    (d0 : decode M.2.1 pc = .ok (.new ik, 3)) (d3 : decode M.2.1 (pc + 3) = .ok (.dup, 1)) (d4 : decode M.2.1 (pc + 4) = .ok (.ldc is, 2)) (d6 : decode M.2.1 (pc + 6) = .ok (.invokespecial 198, 3)) (d9 : decode M.2.1 (pc + 9) = .ok (.athrow, 1))
    (hc : ce + 1 ≤ k) (hs : sl + 6 ≤ n) (hX : X "java/util/NoSuchElementException" h) : hl_GM G M d k n Q X p l e s m args below meth c pc lv [] h ce sl := by
  intro H locs ls hP hS hlv
  obtain ⟨⟨hx, hb, hml, hown, hts, hE, hS0, hRf, hRl⟩, hlk, hrt, hnm, hno⟩ := id B
  rw [hM] at hown
  obtain ⟨sa, hsa⟩ := hE.2.2.2.2.2.1 _ _ _ (List.mem_of_getElem? hst)
  exact nx_throw hx hb hl hown (hts _ (hl_w_T hk)) (hts _ nx_ini) hsa (fun w hw => by
      rcases nx_all w hw with g | ⟨y, rfl, g⟩ | ⟨C, D, rfl, g⟩
      · exact hts w g
      · exact va_Nw.use rfl (hE.2.2.2.2.2.2.1 _ g)
      · exact va_Nw.use rfl (hE.2.2.2.2.2.2.2.1 _ _ g)) (fun w hw => by
      rcases List.mem_cons.mp hw with e1 | hw
      · rw [e1]; exact hl_T_ot (hl_w_T hk)
      · rcases List.mem_cons.mp hw with e1 | hw
        · rw [e1]; exact hl_T_ot nx_ini
        · rcases nx_all w hw with g | ⟨y, rfl, g⟩ | ⟨C, D, rfl, g⟩
          · exact hl_T_ot g
          · rfl
          · rfl) (hl_Zq hS0 hE.2.1) (hl_Zq hS0 hE.2.2.1) hS (by rw [hml]; exact hlv.1) d0 d3 d4 d6 d9 (fun x hx => (hno x hx).elim) (by show 5 < d + 6; omega) (by show 0 + (13 * 3 + 43) ≤ 40 * d + 140; omega) hc hs hlk (hl_Xc_of hP hS hX) hS.2.2 hc hs
/-- 'throw new NoSuchElementException("text")', the text by a wide index -/
theorem hl_throwNW (B : hl_B G M d k n p s m args meth c) (hM : M.1.cls = RX7) (hl : l.stackTraces = false) {text : String} {ik is kk ks : Nat} (hk : hl_w kk (Jvm.Cond.classLink RX7 ik "java/util/NoSuchElementException") = true) (hst : lw_tbl[ks]? = some (Jvm.Cond.stringRef RX7 is text))
    (d0 : decode M.2.1 pc = .ok (.new ik, 3)) (d3 : decode M.2.1 (pc + 3) = .ok (.dup, 1)) (d4 : decode M.2.1 (pc + 4) = .ok (.ldc_w is, 3)) (d6 : decode M.2.1 (pc + 7) = .ok (.invokespecial 198, 3)) (d9 : decode M.2.1 (pc + 10) = .ok (.athrow, 1))
    (hc : ce + 1 ≤ k) (hs : sl + 6 ≤ n) (hX : X "java/util/NoSuchElementException" h) : hl_GM G M d k n Q X p l e s m args below meth c pc lv [] h ce sl := by
  intro H locs ls hP hS hlv
  obtain ⟨⟨hx, hb, hml, hown, hts, hE, hS0, hRf, hRl⟩, hlk, hrt, hnm, hno⟩ := id B
  rw [hM] at hown
  obtain ⟨sa, hsa⟩ := hE.2.2.2.2.2.1 _ _ _ (List.mem_of_getElem? hst)
  exact nx_throwW hx hb hl hown (hts _ (hl_w_T hk)) (hts _ nx_ini) hsa (fun w hw => by
      rcases nx_all w hw with g | ⟨y, rfl, g⟩ | ⟨C, D, rfl, g⟩
      · exact hts w g
      · exact va_Nw.use rfl (hE.2.2.2.2.2.2.1 _ g)
      · exact va_Nw.use rfl (hE.2.2.2.2.2.2.2.1 _ _ g)) (fun w hw => by
      rcases List.mem_cons.mp hw with e1 | hw
      · rw [e1]; exact hl_T_ot (hl_w_T hk)
      · rcases List.mem_cons.mp hw with e1 | hw
        · rw [e1]; exact hl_T_ot nx_ini
        · rcases nx_all w hw with g | ⟨y, rfl, g⟩ | ⟨C, D, rfl, g⟩
          · exact hl_T_ot g
          · rfl
          · rfl) (hl_Zq hS0 hE.2.1) (hl_Zq hS0 hE.2.2.1) hS (by rw [hml]; exact hlv.1) d0 d3 d4 d6 d9 (fun x hx => (hno x hx).elim) (by show 5 < d + 6; omega) (by show 0 + (13 * 3 + 43) ≤ 40 * d + 140; omega) hc hs hlk (hl_Xc_of hP hS hX) hS.2.2 hc hs
end TH
