/-! PART 03: contracts: a body, its returns, calls, throws -/
/-- a method: its name, code, number of locals, return type -/
abbrev hl_M : Type := MethodName × ByteArray × Nat × Option FieldType
def hl_rm (d k n : Nat) : Room := { frames := d + 6, cells := k, slots := n, locals := 40 * d + 140 }
def hl_Pc (G : hl_G) (av : List Value) (P : hl_H → Prop) : Array Value → State → Prop := fun v U => v = av.toArray ∧ hl_Ev G U ∧ va_S (hl_A G) G.2.2 U.heap [] ∧ ∃ h, hl_P G h U.heap ∧ P h
def hl_Qc (G : hl_G) (Q : Option Value → hl_H → Prop) : Array Value → State → Outcome → State → Prop := fun _ st o t => ∃ (r : Option Value) (h : hl_H), o = .returned r ∧ hl_P G h t.heap ∧ Q r h ∧ va_F (hl_A G) st t
def hl_Xc (G : hl_G) (X : String → hl_H → Prop) : String → State → State → Prop := fun E st t => ∃ h : hl_H, hl_P G h t.heap ∧ X E h ∧ va_F (hl_A G) st t
/-- the contract: called with av in a heap with P, in a room of depth d, it makes at most k cells of n slots, and returns with Q or throws with X -/
def hl_Ct (G : hl_G) (l : Launch) (M : hl_M) (d k n : Nat) (av : List Value) (P : hl_H → Prop) (Q : Option Value → hl_H → Prop) (X : String → hl_H → Prop) : Prop :=
  vx_Met l M.1 (Jvm.Cond.code M.1 M.2.1 M.2.2.1 M.2.2.2 :: hl_T) (hl_rm d k n) (hl_Pc G av P) (hl_Qc G Q) (hl_Xc G X) k n (hl_A G)
theorem hl_blind {G : hl_G} {av : List Value} {P : hl_H → Prop} : FrameBlind (hl_Pc G av P) := by
  intro a U g mk h
  obtain ⟨h1, h2, h3, h4⟩ := h
  exact ⟨h1, hl_Ev.same (U := U.calling g mk a) rfl h2, h3, h4⟩
/-- what a body knows -/
def hl_B (G : hl_G) (M : hl_M) (d k n : Nat) (p : Program) (s : State) (m : MethodId) (args : Array Value) (meth : Method) (c : Code) : Prop :=
  hl_X G M.2.1 M.2.2.1 M.1.cls p (hl_rm d k n) s m args c ∧ meth.locks = false ∧ meth.sig.returnType = M.2.2.2 ∧ meth.name = M.1.name ∧ ∀ x ∈ c.exceptionTable.toList, False
def hl_GM (G : hl_G) (M : hl_M) (d k n : Nat) (Q : Option Value → hl_H → Prop) (X : String → hl_H → Prop) (p : Program) (l : Launch) (e : Env) (s : State) (m : MethodId) (args : Array Value) (below : List Frame) (meth : Method) (c : Code) (pc : Nat) (lv : List (Nat × Value)) (st : List Value) (h : hl_H) (ce sl : Nat) : Prop :=
  hl_Go G M.2.2.1 p l e (hl_rm d k n) s m args below meth c (vx_MQ below (hl_Qc G Q) (hl_Xc G X) args s k n (hl_A G)) pc lv st h ce sl
/-- a throw that no row of the body's table takes -/
def hl_TM (G : hl_G) (M : hl_M) (d k n : Nat) (Q : Option Value → hl_H → Prop) (X : String → hl_H → Prop) (p : Program) (l : Launch) (e : Env) (s : State) (m : MethodId) (args : Array Value) (below : List Frame) (meth : Method) (c : Code) (pc : Nat) (lv : List (Nat × Value)) (st : List Value) (E : String) (h : hl_H) (ce sl : Nat) : Prop :=
  ∀ (H : Heap) (locs : List Loc) (ls : Array Slot) (q : Addr) (cell : Cell), hl_P G h H → va_S (hl_A G) s.heap H locs → lv_has ls M.2.2.1 lv → H[q]? = some cell → cell.vm = .none → s.vm.findClass E = some cell.cls → vx_W p l e (hl_rm d k n) s m args below meth c H locs ce sl (vx_MQ below (hl_Qc G Q) (hl_Xc G X) args s k n (hl_A G)) (F0 m pc ls st) q
theorem hl_ok_drop {cc : ByteArray} {own : String} {nL : Nat} {ini : Bool} : ∀ (j : Nat) (r : List hl_I), hl_ok cc own nL ini r = true → hl_ok cc own nL ini (r.drop j) = true
  | 0, _, h => h
  | _ + 1, [], h => h
  | j + 1, (pc, t, u, k, c, d, i) :: r, h => by
    simp only [hl_ok, Bool.and_eq_true] at h
    exact hl_ok_drop j r h.2
theorem hl_dec {cc : ByteArray} {own : String} {nL : Nat} {ini : Bool} {r : List hl_I} (h : hl_ok cc own nL ini r = true) (j : Nat) {pc t u k : Nat} {c : Int32} {d : Int64} {i : Instr} (hj : r[j]? = some (pc, t, u, k, c, d, i)) : decode cc pc = .ok (i, hl_len i) := by
  have h2 := hl_ok_drop j r h
  have hl := (List.getElem?_eq_some_iff.mp hj)
  obtain ⟨hl1, hl2⟩ := hl
  rw [List.drop_eq_getElem_cons hl1, hl2] at h2
  simp only [hl_ok, Bool.and_eq_true, decide_eq_true_eq] at h2
  exact h2.1.1.1
section CT
variable {G : hl_G} {l : Launch} {M : hl_M} {d k n : Nat} {av : List Value} {P : hl_H → Prop} {Q : Option Value → hl_H → Prop} {X : String → hl_H → Prop}
theorem hl_body (hy : plainName M.1.cls = true) (hn : (lg_sl av).length ≤ M.2.2.1)
    (body : ∀ (p : Program) (e : Env) (s : State) (m : MethodId) (args : Array Value) (below : List Frame) (meth : Method) (c : Code), hl_B G M d k n p s m args meth c → ∀ h, P h → hl_GM G M d k n Q X p l e s m args below meth c 0 (lv_args 0 av) [] h 0 0) : hl_Ct G l M d k n av P Q X := by
  refine vx_ofW (cc := M.2.1) (maxL := M.2.2.1) (ret := M.2.2.2) hy rfl ?_
  intro p e s m args below meth c s₁ B hml ht hv
  obtain ⟨rfl, hE, hS, h, hP, hPh⟩ := hv
  have hts : ∀ w ∈ hl_T, w.before av.toArray s = true := fun w hw => atoms_spec (ws := Jvm.Cond.code M.1 M.2.1 M.2.2.1 M.2.2.2 :: hl_T) B.pre w (List.mem_cons_of_mem _ hw)
  have hB : hl_B G M d k n p s m av.toArray meth c := ⟨⟨B.exec, B.bytes, hml, findClass_of_methodNamed B.named, hts, hE, hS, by show 1 ≤ d + 6; omega, by show 40 ≤ 40 * d + 140; omega⟩, B.notSynchronized, B.returns, (name_of_methodNamed B.named B.method).1, ht⟩
  rw [lg_entry_eq]
  exact body p e s m av.toArray below meth c hB h hPh s.heap [] _ hP va_S.rf (lv_entry av hn)
/-- weaker ends -/
theorem hl_Ct.mono {P' : hl_H → Prop} {Q' : Option Value → hl_H → Prop} {X' : String → hl_H → Prop} (h : hl_Ct G l M d k n av P Q X) (hP : ∀ h, P' h → P h) (hQ : ∀ r h, Q r h → Q' r h) (hX : ∀ E h, X E h → X' E h) : hl_Ct G l M d k n av P' Q' X' := by
  intro p e h1 h2 h3 s m args below h4 h5 h6 h7
  obtain ⟨hv, hE, hS, hh, hPh, hp⟩ := h6
  obtain ⟨nn, o, q1, q2, q3, q4⟩ := h p e h1 h2 h3 s m args below h4 h5 ⟨hv, hE, hS, hh, hPh, hP _ hp⟩ h7
  refine ⟨nn, o, q1, q2, q3, ?_⟩
  rcases q4 with ⟨⟨r, g, e1, e2, e3, e4⟩, L⟩ | ⟨q, e1, E, ce, L, ⟨g, e2, e3, e4⟩, e5⟩
  · exact Or.inl ⟨⟨r, g, e1, e2, hQ _ _ e3, e4⟩, L⟩
  · exact Or.inr ⟨q, e1, E, ce, L, ⟨g, e2, hX _ _ e3, e4⟩, e5⟩
/-- a contract without throws, in the kit's plain form -/
theorem hl_Ct.met (h : hl_Ct G l M d k n av P Q (fun _ _ => False)) : Met l M.1 (Jvm.Cond.code M.1 M.2.1 M.2.2.1 M.2.2.2 :: hl_T) (hl_rm d k n) (hl_Pc G av P) (hl_Qc G Q) k n (hl_A G) := by
  intro p e h1 h2 h3 s m args below h4 h5 h6 h7
  obtain ⟨nn, o, q1, q2, q3, q4⟩ := h p e h1 h2 h3 s m args below h4 h5 h6 h7
  refine ⟨nn, o, q1, q2, q3, ?_⟩
  rcases q4 with q4 | ⟨q, e1, E, ce, L, ⟨g, e2, e3, e4⟩, e5⟩
  · exact q4
  · exact e3.elim
variable {p : Program} {e : Env} {s : State} {m : MethodId} {args : Array Value} {below : List Frame} {meth : Method} {c : Code} {lv : List (Nat × Value)} {st : List Value} {h : hl_H} {ce sl pc : Nat}
theorem hl_seg (B : hl_B G M d k n p s m args meth c) {ini : Bool} {r : List hl_I} (hok : hl_ok M.2.1 M.1.cls M.2.2.1 ini r = true) (hini : ini = true → M.1.name = "<init>") (j nn : Nat) (hj : (r.drop j).head?.map (fun q => q.1) = some pc) (hw : hl_wp (hl_GM G M d k n Q X p l e s m args below meth c) k n (r.drop j) nn lv st h ce sl) : hl_GM G M d k n Q X p l e s m args below meth c pc lv st h ce sl :=
  hl_run B.1 (fun q => by rw [B.2.2.2.1]; exact hini q) _ (hl_ok_drop j r hok) nn pc lv st h ce sl hj hw
/-! fewer locals, in another order -/
theorem hl_lv (B : hl_B G M d k n p s m args meth c) {lv' : List (Nat × Value)} (hlv : ∀ q ∈ lv', q ∈ lv) (hw : hl_GM G M d k n Q X p l e s m args below meth c pc lv' st h ce sl) : hl_GM G M d k n Q X p l e s m args below meth c pc lv st h ce sl :=
  fun H locs ls hP hS hl => hw H locs ls hP hS ⟨hl.1, hl.2.1, fun q hq => hl.2.2 q (hlv q hq)⟩
theorem hl_wid (B : hl_B G M d k n p s m args meth c) {ce' sl' : Nat} (h1 : ce ≤ ce') (h2 : sl ≤ sl') (hw : hl_GM G M d k n Q X p l e s m args below meth c pc lv st h ce' sl') : hl_GM G M d k n Q X p l e s m args below meth c pc lv st h ce sl :=
  fun H locs ls hP hS hl => W.widen h1 h2 (hw H locs ls hP hS hl)
theorem hl_drop (B : hl_B G M d k n p s m args meth c) (lv' : List (Nat × Value)) (hlv : ∀ q ∈ lv', q ∈ lv) (hw : hl_GM G M d k n Q X p l e s m args below meth c pc lv' st h ce sl) : hl_GM G M d k n Q X p l e s m args below meth c pc lv st h ce sl := hl_lv B hlv hw
/-! returns -/
theorem hl_iret (B : hl_B G M d k n p s m args meth c) {v : Int32} {ty : FieldType} (hty : M.2.2.2 = some ty) (hn : narrow ty (.int v) = .int v) (hd : decode M.2.1 pc = .ok (.ireturn, 1)) (hc : ce ≤ k) (hs : sl ≤ n) (hQ : Q (some (.int v)) h) : hl_GM G M d k n Q X p l e s m args below meth c pc lv [.int v] h ce sl := by
  intro H locs ls hP hS hl
  have hlocks := B.2.1
  exact vx_ret (W.widen hc hs (W.zret B.1.1 B.1.2.1 (B.2.2.1.trans hty) hn (fun t ht hW => ⟨_, h, rfl, by rw [ht]; exact hP, hQ, hS.F ht⟩) hS.2.2 hd))
theorem hl_lret (B : hl_B G M d k n p s m args meth c) {v : Int64} (hty : M.2.2.2 = some .long) (hd : decode M.2.1 pc = .ok (.lreturn, 1)) (hc : ce ≤ k) (hs : sl ≤ n) (hQ : Q (some (.long v)) h) : hl_GM G M d k n Q X p l e s m args below meth c pc lv [.long v] h ce sl := by
  intro H locs ls hP hS hl
  have hlocks := B.2.1
  exact vx_ret (W.widen hc hs (W.lret B.1.1 B.1.2.1 (B.2.2.1.trans hty) (fun t ht hW => ⟨_, h, rfl, by rw [ht]; exact hP, hQ, hS.F ht⟩) hS.2.2 hd))
theorem hl_fret (B : hl_B G M d k n p s m args meth c) {v : UInt32} (hty : M.2.2.2 = some .float) (hd : decode M.2.1 pc = .ok (.freturn, 1)) (hc : ce ≤ k) (hs : sl ≤ n) (hQ : Q (some (.float v)) h) : hl_GM G M d k n Q X p l e s m args below meth c pc lv [.float v] h ce sl := by
  intro H locs ls hP hS hl
  have hlocks := B.2.1
  exact vx_ret (W.widen hc hs (W.fret B.1.1 B.1.2.1 (B.2.2.1.trans hty) (fun t ht hW => ⟨_, h, rfl, by rw [ht]; exact hP, hQ, hS.F ht⟩) hS.2.2 hd))
theorem hl_dret (B : hl_B G M d k n p s m args meth c) {v : UInt64} (hty : M.2.2.2 = some .double) (hd : decode M.2.1 pc = .ok (.dreturn, 1)) (hc : ce ≤ k) (hs : sl ≤ n) (hQ : Q (some (.double v)) h) : hl_GM G M d k n Q X p l e s m args below meth c pc lv [.double v] h ce sl := by
  intro H locs ls hP hS hl
  have hlocks := B.2.1
  exact vx_ret (W.widen hc hs (W.dret B.1.1 B.1.2.1 (B.2.2.1.trans hty) (fun t ht hW => ⟨_, h, rfl, by rw [ht]; exact hP, hQ, hS.F ht⟩) hS.2.2 hd))
theorem hl_vret (B : hl_B G M d k n p s m args meth c) (hty : M.2.2.2 = none) (hd : decode M.2.1 pc = .ok (.return_, 1)) (hc : ce ≤ k) (hs : sl ≤ n) (hQ : Q none h) : hl_GM G M d k n Q X p l e s m args below meth c pc lv [] h ce sl := by
  intro H locs ls hP hS hl
  have hlocks := B.2.1
  exact vx_ret (W.widen hc hs (W.vret B.1.1 B.1.2.1 (B.2.2.1.trans hty) (fun t ht hW => ⟨_, h, rfl, by rw [ht]; exact hP, hQ, hS.F ht⟩) hS.2.2 hd))
theorem hl_aret (B : hl_B G M d k n p s m args meth c) {v : Value} {C : String} (hty : M.2.2.2 = some (.object C)) (hv : v = .null ∨ ∃ a, v = .ref a) (hd : decode M.2.1 pc = .ok (.areturn, 1)) (hc : ce ≤ k) (hs : sl ≤ n) (hQ : Q (some v) h) : hl_GM G M d k n Q X p l e s m args below meth c pc lv [v] h ce sl := by
  intro H locs ls hP hS hl
  have hlocks := B.2.1
  exact vx_ret (W.widen hc hs (W.aret B.1.1 B.1.2.1 (B.2.2.1.trans hty) (Or.inl ⟨C, rfl⟩) hv (fun t ht hW => ⟨_, h, rfl, by rw [ht]; exact hP, hQ, hS.F ht⟩) hS.2.2 hd))
/-! a throw leaves the body -/
theorem hl_out (B : hl_B G M d k n p s m args meth c) {E : String} (hc : ce ≤ k) (hs : sl ≤ n) (hX : X E h) : hl_TM G M d k n Q X p l e s m args below meth c pc lv st E h ce sl := by
  intro H locs ls q cell hP hS hl hq hv hcl
  exact vx_out (fun x hx => (B.2.2.2.2 x hx).elim) B.2.1 hq hv hcl (fun t ht hA => ⟨h, by rw [ht]; exact hP, hX, hS.F ht⟩) hS.2.2 hc hs
/-! calls -/
/-- what the tables say of a method that is called -/
def hl_mt (M : hl_M) (na : Nat) : Prop := Jvm.Cond.code M.1 M.2.1 M.2.2.1 M.2.2.2 ∈ hl_T ∧ Jvm.Cond.initialized M.1.cls ∈ hl_T ∧ (M.1.cls ≠ "java/lang/invoke/MethodHandle" ∧ M.1.cls ≠ "java/lang/invoke/VarHandle") ∧ (parseMethodDescriptor M.1.desc).map (fun d => d.parameters.length) = some na
def hl_mv (M : hl_M) (na : Nat) : Prop := hl_mt M na ∧ Jvm.Cond.instanceMethod M.1 ∈ hl_T ∧ Jvm.Cond.selects M.1.cls M.1 M.1 ∈ hl_T
def hl_ms (M : hl_M) (na : Nat) : Prop := hl_mt M na ∧ Jvm.Cond.static M.1 ∈ hl_T
def hl_mi (M : hl_M) (na : Nat) : Prop := hl_mt M na ∧ Jvm.Cond.instanceMethod M.1 ∈ hl_T ∧ M.1.name = "<init>"
theorem hl_T_warm (hts : ∀ w ∈ hl_T, w.before args s = true) : ∀ w ∈ hl_T, ∀ (a' : Array Value) (U : State), s.WarmedH U.vm → w.before a' U = true :=
  fun w hw a' U hW => word_at hW (good_of_word (List.mem_filter.mp hw).2) (hts w hw)
theorem hl_CB {R : Room} {N : hl_M} {d1 k1 n1 na idx kk : Nat} {own : String} (hts : ∀ w ∈ hl_T, w.before args s = true) (hm : hl_mt N na) (hk : hl_w kk (Jvm.Cond.methodLink own idx N.1) = true) (hfr : d1 + 7 ≤ R.frames) (hlo : N.2.2.1 + 159 + 40 * d1 ≤ R.locals) :
    CallB R s args own idx N.1 N.2.1 N.2.2.1 N.2.2.2 (Jvm.Cond.code N.1 N.2.1 N.2.2.1 N.2.2.2 :: hl_T) (hl_rm d1 k1 n1) k1 n1 na := by
  refine ⟨rfl, rfl, by show d1 + 6 + 1 ≤ R.frames; omega, by show 8 + (N.2.2.1 + 11) + (40 * d1 + 140) ≤ R.locals; omega, ?_, List.mem_cons_self, hts _ hm.1, hts _ hm.2.1, hm.2.2.1, fun sig h9 => ?_, hts _ (hl_w_T hk)⟩
  · intro w hw
    rcases List.mem_cons.mp hw with e9 | hw
    · rw [e9]; exact hl_T_warm hts _ hm.1
    · exact hl_T_warm hts w hw
  · have h2 := hm.2.2.2
    rw [h9] at h2
    exact (Option.some.inj h2).symm
theorem hl_S0 {H : Heap} {locs : List Loc} (h0 : va_S (hl_A G) G.2.2 s.heap []) (h1 : va_S (hl_A G) s.heap H locs) : va_S (hl_A G) G.2.2 H [] :=
  ⟨Nat.le_trans h0.1 h1.1, fun q hq hA => by rw [h1.2.1 q (Nat.lt_of_lt_of_le hq h0.1) hA]; exact h0.2.1 q hq hA, fun _ hx => nomatch hx⟩
theorem hl_callV (B : hl_B G M d k n p s m args meth c) {N : hl_M} {d1 k1 n1 na idx kk : Nat} {av1 As rest : List Value} {P1 : hl_H → Prop} {Q1 : Option Value → hl_H → Prop} {X1 : String → hl_H → Prop} (hct : hl_Ct G l N d1 k1 n1 av1 P1 Q1 X1) (hm : hl_mv N na) (hd : decode M.2.1 pc = .ok (.invokevirtual idx, 3)) (hk : hl_w kk (Jvm.Cond.methodLink M.1.cls idx N.1) = true)
    {b ci : Nat} (hav : av1 = .ref b :: As) (hna : As.length = na) {fs : List Value} (hrec : h b = some (.inr (ci, fs))) (hcl : vwCl[ci]?.map (fun q => q.1) = some N.1.cls) (hrest : (rest.map fun v => v.category).sum ≤ 8) (hfr : d1 + 1 ≤ d) (hlo : N.2.2.1 ≤ 21) (hce : ce + k1 ≤ k) (hsl : sl + n1 ≤ n) (hP : P1 h)
    (hQ : ∀ (r : Option Value) (h' : hl_H), Q1 r h' → hl_GM G M d k n Q X p l e s m args below meth c (pc + 3) lv (r.toList ++ rest) h' (ce + k1) (sl + n1))
    (hX : ∀ (E : String) (h' : hl_H), X1 E h' → hl_TM G M d k n Q X p l e s m args below meth c pc lv rest E h' (ce + k1) (sl + n1)) : hl_GM G M d k n Q X p l e s m args below meth c pc lv (As.reverse ++ .ref b :: rest) h ce sl := by
  intro H locs ls hPh hS hl T hT X9
  obtain ⟨⟨hx, hb, hml, hown, hts, hE, hS0, hRf, hRl⟩, hlk, hrt, hnm, hno⟩ := id B
  have hA : ∀ q : Nat, s.heap.size ≤ q → hl_A G q := fun q h => Nat.le_trans hS0.1 h
  have cw : CallW (hl_rm d k n) s args M.1.cls N.1.cls idx N.1 N.2.1 N.2.2.1 N.2.2.2 (Jvm.Cond.code N.1 N.2.1 N.2.2.1 N.2.2.2 :: hl_T) (hl_rm d1 k1 n1) k1 n1 na :=
    ⟨hl_CB hts hm.1 hk (by show d1 + 7 ≤ d + 6; omega) (by show _ ≤ 40 * d + 140; omega), hts _ hm.2.1, hts _ hm.2.2⟩
  obtain ⟨w, hw1, hw2, hw3⟩ := id hPh
  obtain ⟨kq, hkq⟩ := hw1 b _ hrec
  obtain ⟨q9, hq9, hcl9⟩ : ∃ q9, vwCl[ci]? = some q9 ∧ q9.1 = N.1.cls := by
    cases hz : vwCl[ci]? with
    | none => rw [hz] at hcl; cases hcl
    | some q9 => rw [hz] at hcl; exact ⟨q9, rfl, Option.some.inj hcl⟩
  have hrc := va_recv hE.1 hw2 hq9 hkq
  rw [hcl9] at hrc
  have hr := vx_runV (l := l) (e := e) (below := below) (meth := meth) (locs := locs) (cells := ce) (slots := sl) (g := F0 m pc ls (As.reverse ++ .ref b :: rest)) (rest := rest) ⟨hx, hb, hml, hown, hts⟩ hct cw ⟨hl_blind, hrc, fun U hU hW => ⟨by rw [hav], hE.warm hW, by rw [hU]; exact hl_S0 hS0 hS, h, by rw [hU]; exact hPh, hP⟩⟩ rfl hna hl.1 rfl (lv_room hrest) hd ⟨hce, hsl⟩
  rcases hr T hT X9 with ⟨v, st₀, t, T', L, h0, X', hL, e1, e2, ⟨r, h', hv, hP', hQ', hF⟩, st9⟩ | ⟨q, st₀, t, T', L, E, ce9, h0, X', hL, e1, e2, ⟨h', hP', hX', hF⟩, hce9, hcv, hcl2, st9⟩
  · cases hv
    obtain ⟨k1', k2', k3'⟩ := vx_keep h0 e1 hS (fun q _ hq => hq) (fun q hq => hq) hL hF
    obtain ⟨t2, a1, b1⟩ := hQ v h' hQ' T'.heap (locs ++ L) ls (by rw [e1]; exact hP') k3' hl T' rfl X'
    exact ⟨t2, st9 t2 a1, b1⟩
  · obtain ⟨k1', k2', k3'⟩ := vx_keep h0 e1 hS (fun q _ hq => hq) (fun q hq => hq) hL hF
    obtain ⟨t2, a1, b1⟩ := hX E h' hX' T'.heap (locs ++ L) ls q ce9 (by rw [e1]; exact hP') k3' hl (by rw [e1]; exact hce9) hcv hcl2 T' rfl X'
    exact ⟨t2, st9.trans a1, b1⟩
theorem hl_callS (B : hl_B G M d k n p s m args meth c) {N : hl_M} {d1 k1 n1 na idx kk : Nat} {av1 rest : List Value} {P1 : hl_H → Prop} {Q1 : Option Value → hl_H → Prop} {X1 : String → hl_H → Prop} (hct : hl_Ct G l N d1 k1 n1 av1 P1 Q1 X1) (hm : hl_ms N na) (hd : decode M.2.1 pc = .ok (.invokestatic idx, 3)) (hk : hl_w kk (Jvm.Cond.methodLink M.1.cls idx N.1) = true)
    (hna : av1.length = na) (hrest : (rest.map fun v => v.category).sum ≤ 8) (hfr : d1 + 1 ≤ d) (hlo : N.2.2.1 ≤ 21) (hce : ce + k1 ≤ k) (hsl : sl + n1 ≤ n) (hP : P1 h)
    (hQ : ∀ (r : Option Value) (h' : hl_H), Q1 r h' → hl_GM G M d k n Q X p l e s m args below meth c (pc + 3) lv (r.toList ++ rest) h' (ce + k1) (sl + n1))
    (hX : ∀ (E : String) (h' : hl_H), X1 E h' → hl_TM G M d k n Q X p l e s m args below meth c pc lv rest E h' (ce + k1) (sl + n1)) : hl_GM G M d k n Q X p l e s m args below meth c pc lv (av1.reverse ++ rest) h ce sl := by
  intro H locs ls hPh hS hl T hT X9
  obtain ⟨⟨hx, hb, hml, hown, hts, hE, hS0, hRf, hRl⟩, hlk, hrt, hnm, hno⟩ := id B
  have cw : CallB (hl_rm d k n) s args M.1.cls idx N.1 N.2.1 N.2.2.1 N.2.2.2 (Jvm.Cond.code N.1 N.2.1 N.2.2.1 N.2.2.2 :: hl_T) (hl_rm d1 k1 n1) k1 n1 na ∧ (Jvm.Cond.static N.1).before args s = true :=
    ⟨hl_CB hts hm.1 hk (by show d1 + 7 ≤ d + 6; omega) (by show _ ≤ 40 * d + 140; omega), hts _ hm.2⟩
  have hr := vx_runS (l := l) (e := e) (below := below) (meth := meth) (H := H) (locs := locs) (cells := ce) (slots := sl) (g := F0 m pc ls (av1.reverse ++ rest)) (rest := rest) ⟨hx, hb, hml, hown, hts⟩ hct cw ⟨hl_blind, fun U hU hW => ⟨rfl, hE.warm hW, by rw [hU]; exact hl_S0 hS0 hS, h, by rw [hU]; exact hPh, hP⟩⟩ rfl hna hl.1 rfl (lv_room hrest) hd ⟨hce, hsl⟩
  rcases hr T hT X9 with ⟨v, st₀, t, T', L, h0, X', hL, e1, e2, ⟨r, h', hv, hP', hQ', hF⟩, st9⟩ | ⟨q, st₀, t, T', L, E, ce9, h0, X', hL, e1, e2, ⟨h', hP', hX', hF⟩, hce9, hcv, hcl2, st9⟩
  · cases hv
    obtain ⟨k1', k2', k3'⟩ := vx_keep h0 e1 hS (fun q _ hq => hq) (fun q hq => hq) hL hF
    obtain ⟨t2, a1, b1⟩ := hQ v h' hQ' T'.heap (locs ++ L) ls (by rw [e1]; exact hP') k3' hl T' rfl X'
    exact ⟨t2, st9 t2 a1, b1⟩
  · obtain ⟨k1', k2', k3'⟩ := vx_keep h0 e1 hS (fun q _ hq => hq) (fun q hq => hq) hL hF
    obtain ⟨t2, a1, b1⟩ := hX E h' hX' T'.heap (locs ++ L) ls q ce9 (by rw [e1]; exact hP') k3' hl (by rw [e1]; exact hce9) hcv hcl2 T' rfl X'
    exact ⟨t2, st9.trans a1, b1⟩
theorem hl_back {H : Heap} {locs : List Loc} {g : JFrame} {rest : List Value} {R : Room} {Qf : State → Prop} {k1 n1 : Nat} {Q1 : Option Value → hl_H → Prop} {a1 : Array Value} (hS : va_S (hl_A G) s.heap H locs)
    (hr : va_Run p l e R s m args below meth c H locs ce sl k1 n1 g rest (hl_Qc G Q1 a1) (hl_A G))
    (hQ : ∀ (r : Option Value) (h' : hl_H) (H1 : Heap) (locs1 : List Loc), Q1 r h' → hl_P G h' H1 → va_S (hl_A G) s.heap H1 locs1 → W p l e R s m args below meth c H1 locs1 (ce + k1) (sl + n1) Qf { g with pc := g.pc + 3, stack := r.toList ++ rest }) : W p l e R s m args below meth c H locs ce sl Qf g := by
  intro T hT X9
  obtain ⟨v, st₀, t, T', L, h0, X', hL, e1, e2, ⟨r, h', hv, hP', hQ', hF⟩, st9⟩ := hr T hT X9
  cases hv
  obtain ⟨k1', k2', k3'⟩ := vx_keep h0 e1 hS (fun q _ hq => hq) (fun q hq => hq) hL hF
  obtain ⟨t2, a1, b1⟩ := hQ v h' T'.heap (locs ++ L) hQ' (by rw [e1]; exact hP') k3' T' rfl X'
  exact ⟨t2, st9 t2 a1, b1⟩
/-- a constructor -/
theorem hl_callI (B : hl_B G M d k n p s m args meth c) {N : hl_M} {d1 k1 n1 na idx kk : Nat} {av1 As rest : List Value} {P1 : hl_H → Prop} {Q1 : Option Value → hl_H → Prop} (hct : hl_Ct G l N d1 k1 n1 av1 P1 Q1 (fun _ _ => False)) (hm : hl_mi N na) (hvd : N.2.2.2 = none) (hd : decode M.2.1 pc = .ok (.invokespecial idx, 3)) (hk : hl_w kk (Jvm.Cond.methodLink M.1.cls idx N.1) = true)
    {b : Nat} (hav : av1 = .ref b :: As) (hna : As.length = na) (hrest : (rest.map fun v => v.category).sum ≤ 8) (hfr : d1 + 1 ≤ d) (hlo : N.2.2.1 ≤ 21) (hce : ce + k1 ≤ k) (hsl : sl + n1 ≤ n) (hP : P1 h)
    (hQ : ∀ (r : Option Value) (h' : hl_H), Q1 r h' → hl_GM G M d k n Q X p l e s m args below meth c (pc + 3) lv (r.toList ++ rest) h' (ce + k1) (sl + n1)) : hl_GM G M d k n Q X p l e s m args below meth c pc lv (As.reverse ++ .ref b :: rest) h ce sl := by
  intro H locs ls hPh hS hl
  obtain ⟨⟨hx, hb, hml, hown, hts, hE, hS0, hRf, hRl⟩, hlk, hrt, hnm, hno⟩ := id B
  have cb := hl_CB (R := hl_rm d k n) (k1 := k1) (n1 := n1) hts hm.1 hk (by show d1 + 7 ≤ d + 6; omega) (by show _ ≤ 40 * d + 140; omega)
  rw [hvd] at cb
  have hct9 := hct.met
  rw [hvd] at hct9
  exact hl_back hS (va_runI (l := l) (e := e) (below := below) (meth := meth) (H := H) (locs := locs) (cells := ce) (slots := sl) (g := F0 m pc ls (As.reverse ++ .ref b :: rest)) (b := b) (As := As) (rest := rest) ⟨hx, hb, hml, hown, hts⟩ hct9 ⟨cb, hm.2.2, hts _ hm.2.1⟩ ⟨hl_blind, fun U hU hW => ⟨by rw [hav], hE.warm hW, by rw [hU]; exact hl_S0 hS0 hS, h, by rw [hU]; exact hPh, hP⟩⟩ rfl hna hl.1 rfl (lv_room hrest) hd ⟨hce, hsl⟩)
    (fun r h' H1 locs1 q1 q2 q3 => hQ r h' q1 H1 locs1 ls q2 q3 hl)
/-- a nest mate's private constructor -/
theorem hl_callIN (B : hl_B G M d k n p s m args meth c) {N : hl_M} {d1 k1 n1 na idx kk : Nat} {av1 As rest : List Value} {P1 : hl_H → Prop} {Q1 : Option Value → hl_H → Prop} (hct : hl_Ct G l N d1 k1 n1 av1 P1 Q1 (fun _ _ => False)) (hm : hl_mi N na) (hvd : N.2.2.2 = none) (hd : decode M.2.1 pc = .ok (.invokespecial idx, 3)) (hk : lw_tbl[kk]? = some (Jvm.Cond.methodLinkNest M.1.cls idx N.1 "LedgerStream"))
    {b : Nat} (hav : av1 = .ref b :: As) (hna : As.length = na) (hrest : (rest.map fun v => v.category).sum ≤ 8) (hfr : d1 + 1 ≤ d) (hlo : N.2.2.1 ≤ 21) (hce : ce + k1 ≤ k) (hsl : sl + n1 ≤ n) (hP : P1 h)
    (hQ : ∀ (r : Option Value) (h' : hl_H), Q1 r h' → hl_GM G M d k n Q X p l e s m args below meth c (pc + 3) lv (r.toList ++ rest) h' (ce + k1) (sl + n1)) : hl_GM G M d k n Q X p l e s m args below meth c pc lv (As.reverse ++ .ref b :: rest) h ce sl := by
  intro H locs ls hPh hS hl
  obtain ⟨⟨hx, hb, hml, hown, hts, hE, hS0, hRf, hRl⟩, hlk, hrt, hnm, hno⟩ := id B
  have hct9 := hct.met
  rw [hvd] at hct9
  have hcd : Jvm.Cond.code N.1 N.2.1 N.2.2.1 none ∈ hl_T := by have := hm.1.1; rw [hvd] at this; exact this
  have cn : va_CN (hl_rm d k n) s args M.1.cls idx N.1 "LedgerStream" N.2.1 N.2.2.1 none (Jvm.Cond.code N.1 N.2.1 N.2.2.1 none :: hl_T) (hl_rm d1 k1 n1) k1 n1 na := by
    refine ⟨⟨rfl, rfl, by show d1 + 6 + 1 ≤ d + 6; omega, by show 8 + (N.2.2.1 + 11) + (40 * d1 + 140) ≤ 40 * d + 140; omega, ?_, List.mem_cons_self⟩, hts _ hcd, hts _ hm.1.2.1, hm.1.2.2.1, fun sig h9 => ?_, va_Nw.use rfl (hE.2.2.2.2.1 _ _ _ _ (List.mem_of_getElem? hk))⟩
    · intro w hw
      rcases List.mem_cons.mp hw with e9 | hw
      · rw [e9]; exact hl_T_warm hts _ hcd
      · exact hl_T_warm hts w hw
    · have h2 := hm.1.2.2.2
      rw [h9] at h2
      exact (Option.some.inj h2).symm
  exact hl_back hS (va_runIN (l := l) (e := e) (below := below) (meth := meth) (H := H) (locs := locs) (cells := ce) (slots := sl) (g := F0 m pc ls (As.reverse ++ .ref b :: rest)) (b := b) (As := As) (rest := rest) ⟨hx, hb, hml, hown, hts⟩ hct9 ⟨cn, hm.2.2, hts _ hm.2.1⟩ ⟨hl_blind, fun U hU hW => ⟨by rw [hav], hE.warm hW, by rw [hU]; exact hl_S0 hS0 hS, h, by rw [hU]; exact hPh, hP⟩⟩ rfl hna hl.1 rfl (lv_room hrest) hd ⟨hce, hsl⟩)
    (fun r h' H1 locs1 q1 q2 q3 => hQ r h' q1 H1 locs1 ls q2 q3 hl)
/-- a new long array of a length that is no constant -/
theorem hl_newJ (B : hl_B G M d k n p s m args meth c) {x : Int32} {N' kk : Nat} {rest : List Value} (hd : decode M.2.1 pc = .ok (.newarray .long, 2)) (hk : hl_w kk (Jvm.Cond.arrayClass .long) = true) (h0 : ¬ x < 0) (hN : x.toNatClampNeg = N') (hN2 : N' ≤ 10000) (hce : ce + 1 ≤ k) (hsl : sl + N' ≤ n)
    (hw : ∀ q : Nat, h q = none → hl_GM G M d k n Q X p l e s m args below meth c (pc + 2) lv (.ref q :: rest) (hl_set h q (.inl (N', .inr (.inl (fun _ => 0))))) (ce + 1) (sl + N')) : hl_GM G M d k n Q X p l e s m args below meth c pc lv (.int x :: rest) h ce sl := by
  intro H locs ls hP hS hl
  obtain ⟨⟨hx, hb, hml, hown, hts, hE, hS0, hRf, hRl⟩, hlk, hrt, hnm, hno⟩ := id B
  have hA : ∀ q : Nat, s.heap.size ≤ q → hl_A G q := fun q h => Nat.le_trans hS0.1 h
  obtain ⟨w, hw1, hw2, hw3⟩ := id hP
  exact va_newa (D := G.1) (atype := .long) hx hb (hts _ (hl_w_T hk)) rfl hE.1 hw2 hw3 hS hA (a0 := (N', .inr (.inl (fun _ => 0)))) (fun cA => rfl) h0 hN (Nat.le_trans (Nat.mul_le_mul hN2 (by decide : componentBytes .long ≤ 8)) (by decide)) hce hsl hd (fun q cA H1 hK1 hP1 hD1 hS1 => by
    have e1 : s.vm.findClass ("[" ++ FieldType.long.toString) = some cA := (hK1.2 4 _ rfl).2
    have e2 : s.vm.findClass ("[" ++ FieldType.long.toString) = some G.2.1.2.1 := (hE.1.2 1 _ rfl).2
    cases Option.some.inj (e1.symm.trans e2)
    obtain ⟨hn, hP9⟩ := hl_P.push (x := .inl (N', .inr (.inl (fun _ => 0)))) hw1 hP1 hD1
    exact hw q hn H1 locs ls hP9 hS1 hl)
end CT
