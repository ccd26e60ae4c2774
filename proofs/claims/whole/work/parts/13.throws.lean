/-! PART 13: throws -/
/-- what a throw of the class cls needs of the tables -/
def th_ok (cls : String) (ic : Nat) : Prop := Bundle.fit cls = true ∧ Jvm.Cond.initialized cls ∈ hl_T ∧ Jvm.Cond.castable cls cls ∈ lw_tbl ∧ ∀ w ∈ vx_atS RX7 ic cls ["java/lang/RuntimeException", "java/lang/Exception"], w ∈ hl_T ∨ (∃ y, w = Jvm.Cond.declares y ∧ w ∈ lw_tbl) ∨ ∃ C T, w = Jvm.Cond.castable C T ∧ w ∈ lw_tbl
def th_dc (w : Jvm.Cond) : Bool := match w with | .declares _ => true | .castable _ _ => true | _ => false
theorem th_of {cls : String} {ic : Nat} (h1 : Bundle.fit cls = true) (h2 : Jvm.Cond.initialized cls ∈ hl_T) (h4 : Jvm.Cond.castable cls cls ∈ lw_tbl) (h3 : (vx_atS RX7 ic cls ["java/lang/RuntimeException", "java/lang/Exception"]).all (fun w => decide (w ∈ lw_tbl) && (goodWord w || th_dc w)) = true) : th_ok cls ic :=
  ⟨h1, h2, h4, fun w hw => by
    have h := List.all_eq_true.mp h3 w hw
    simp only [Bool.and_eq_true, decide_eq_true_eq, Bool.or_eq_true] at h
    rcases h with ⟨g1, g2 | g2⟩
    · exact Or.inl (List.mem_filter.mpr ⟨g1, g2⟩)
    · unfold th_dc at g2
      split at g2
      · exact Or.inr (Or.inl ⟨_, rfl, g1⟩)
      · exact Or.inr (Or.inr ⟨_, _, rfl, g1⟩)
      · cases g2⟩
theorem th_at {cls : String} {ic : Nat} (T : th_ok cls ic) {G : hl_G} {args : Array Value} {s : State} (hts : ∀ w ∈ hl_T, w.before args s = true) (hE : hl_Ev G s) : ∀ w ∈ vx_atS RX7 ic cls ["java/lang/RuntimeException", "java/lang/Exception"], w.before args s = true := by
  intro w hw
  rcases T.2.2.2 w hw with h | ⟨y, rfl, h⟩ | ⟨C, D, rfl, h⟩
  · exact hts w h
  · exact va_Nw.use rfl (hE.2.2.2.2.2.2.1 _ h)
  · exact va_Nw.use rfl (hE.2.2.2.2.2.2.2.1 _ _ h)
theorem th_ot {cls : String} {ic : Nat} (T : th_ok cls ic) : ∀ w ∈ vx_atS RX7 ic cls ["java/lang/RuntimeException", "java/lang/Exception"], vx_ot w = true := by
  intro w hw
  rcases T.2.2.2 w hw with h | ⟨y, rfl, h⟩ | ⟨C, D, rfl, h⟩
  · have h2 := (List.mem_filter.mp h).2
    unfold vx_ot
    rw [h2, Bool.or_true]
  · rfl
  · rfl
theorem hl_T_ot {w : Jvm.Cond} (h : w ∈ hl_T) : vx_ot w = true := by
  have h2 := (List.mem_filter.mp h).2
  unfold vx_ot
  rw [h2, Bool.or_true]
set_option maxRecDepth 100000 in
theorem th_ISE : th_ok "java/lang/IllegalStateException" 70 := th_of (by decide +kernel) (hl_T_of (k := 61) (by decide +kernel) rfl) (List.mem_of_getElem? (i := 465) (by decide +kernel)) (by decide +kernel)
set_option maxRecDepth 100000 in
theorem th_IAE : th_ok "java/lang/IllegalArgumentException" 104 := th_of (by decide +kernel) (hl_T_of (k := 60) (by decide +kernel) rfl) (List.mem_of_getElem? (i := 387) (by decide +kernel)) (by decide +kernel)
set_option maxRecDepth 100000 in
theorem th_UOE : th_ok "java/lang/UnsupportedOperationException" 95 := th_of (by decide +kernel) (hl_T_of (k := 65) (by decide +kernel) rfl) (List.mem_of_getElem? (i := 534) (by decide +kernel)) (by decide +kernel)
set_option maxRecDepth 100000 in
theorem th_IOB : th_ok "java/lang/IndexOutOfBoundsException" 220 := th_of (by decide +kernel) (hl_T_of (k := 62) (by decide +kernel) rfl) (List.mem_of_getElem? (i := 521) (by decide +kernel)) (by decide +kernel)
set_option maxRecDepth 100000 in
theorem th_ARE : th_ok "java/lang/ArithmeticException" 289 := th_of (by decide +kernel) (hl_T_of (k := 69) (by decide +kernel) rfl) (List.mem_of_getElem? (i := 934) (by decide +kernel)) (by decide +kernel)
section TH
variable {G : hl_G} {l : Launch} {M : hl_M} {d k n : Nat} {Q : Option Value → hl_H → Prop} {X : String → hl_H → Prop}
variable {p : Program} {e : Env} {s : State} {m : MethodId} {args : Array Value} {below : List Frame} {meth : Method} {c : Code} {lv : List (Nat × Value)} {h : hl_H} {ce sl pc : Nat}
theorem hl_Xc_of {H : Heap} {locs : List Loc} {E : String} (hP : hl_P G h H) (hS : va_S (hl_A G) s.heap H locs) (hX : X E h) : ∀ t : State, s.vm.Alike t.vm → H.size ≤ t.heap.size → (∀ q : Nat, q < H.size → t.heap[q]? = H[q]?) → hl_Xc G X E s t := by
  intro t _ hz hq
  obtain ⟨w, h1, h2, h3⟩ := hP
  refine ⟨h, ⟨w, h1, h2.kept (fun j x hj => hq x.1 ((h2 j x hj).lt)), h3⟩, hX, Nat.le_trans hS.1 hz, fun q g1 g2 => ?_⟩
  rw [hq q (Nat.lt_of_lt_of_le g1 hS.1)]
  exact hS.2.1 q g1 g2
theorem hl_Zq {C nm ds : String} (hS0 : va_S (hl_A G) G.2.2 s.heap []) (hz : vx_Zq C nm ds (hl_A G) s G.2.2) : vx_Zq C nm ds (hl_A G) s s.heap :=
  hz.kept (fun q g1 g2 => hS0.2.1 q g1 g2)
/-- 'throw new E("text")', the text's number small -/
theorem hl_throw (B : hl_B G M d k n p s m args meth c) (hM : M.1.cls = RX7) (hl : l.stackTraces = false) {cls text : String} {ik is ic kk ks : Nat} (T : th_ok cls ic) (hk : hl_w kk (Jvm.Cond.classLink RX7 ik cls) = true) (hst : lw_tbl[ks]? = some (Jvm.Cond.stringRef RX7 is text))
    (d0 : decode M.2.1 pc = .ok (.new ik, 3)) (d3 : decode M.2.1 (pc + 3) = .ok (.dup, 1)) (d4 : decode M.2.1 (pc + 4) = .ok (.ldc is, 2)) (d6 : decode M.2.1 (pc + 6) = .ok (.invokespecial ic, 3)) (d9 : decode M.2.1 (pc + 9) = .ok (.athrow, 1))
    (hc : ce + 1 ≤ k) (hs : sl + 6 ≤ n) (hX : X cls h) : hl_GM G M d k n Q X p l e s m args below meth c pc lv [] h ce sl := by
  intro H locs ls hP hS hlv
  obtain ⟨⟨hx, hb, hml, hown, hts, hE, hS0, hRf, hRl⟩, hlk, hrt, hnm, hno⟩ := id B
  rw [hM] at hown
  obtain ⟨sa, hsa⟩ := hE.2.2.2.2.2.1 _ _ _ (List.mem_of_getElem? hst)
  exact vx_throwS (names := ["java/lang/RuntimeException", "java/lang/Exception"]) hx hb hl hown T.1 (by decide +kernel) (hts _ (hl_w_T hk)) (hts _ T.2.1) hsa (th_at T hts hE) (fun w hw => by
      rcases List.mem_cons.mp hw with e1 | hw
      · rw [e1]; exact hl_T_ot (hl_w_T hk)
      · rcases List.mem_cons.mp hw with e1 | hw
        · rw [e1]; exact hl_T_ot T.2.1
        · exact th_ot T w hw) (hl_Zq hS0 hE.2.1) (hl_Zq hS0 hE.2.2.1) hS (by rw [hml]; exact hlv.1) d0 d3 d4 d6 d9 (fun x hx => (hno x hx).elim) (by show 2 + 3 < d + 6; omega) (by show 0 + (13 * 3 + 43) ≤ 40 * d + 140; omega) hc hs hlk (hl_Xc_of hP hS hX) hS.2.2 hc hs
/-- .. and where it is large -/
theorem hl_throwW (B : hl_B G M d k n p s m args meth c) (hM : M.1.cls = RX7) (hl : l.stackTraces = false) {cls text : String} {ik is ic kk ks : Nat} (T : th_ok cls ic) (hk : hl_w kk (Jvm.Cond.classLink RX7 ik cls) = true) (hst : lw_tbl[ks]? = some (Jvm.Cond.stringRef RX7 is text))
    (d0 : decode M.2.1 pc = .ok (.new ik, 3)) (d3 : decode M.2.1 (pc + 3) = .ok (.dup, 1)) (d4 : decode M.2.1 (pc + 4) = .ok (.ldc_w is, 3)) (d6 : decode M.2.1 (pc + 7) = .ok (.invokespecial ic, 3)) (d9 : decode M.2.1 (pc + 10) = .ok (.athrow, 1))
    (hc : ce + 1 ≤ k) (hs : sl + 6 ≤ n) (hX : X cls h) : hl_GM G M d k n Q X p l e s m args below meth c pc lv [] h ce sl := by
  intro H locs ls hP hS hlv
  obtain ⟨⟨hx, hb, hml, hown, hts, hE, hS0, hRf, hRl⟩, hlk, hrt, hnm, hno⟩ := id B
  rw [hM] at hown
  obtain ⟨sa, hsa⟩ := hE.2.2.2.2.2.1 _ _ _ (List.mem_of_getElem? hst)
  exact vx_throwSW (names := ["java/lang/RuntimeException", "java/lang/Exception"]) hx hb hl hown T.1 (by decide +kernel) (hts _ (hl_w_T hk)) (hts _ T.2.1) hsa (th_at T hts hE) (fun w hw => by
      rcases List.mem_cons.mp hw with e1 | hw
      · rw [e1]; exact hl_T_ot (hl_w_T hk)
      · rcases List.mem_cons.mp hw with e1 | hw
        · rw [e1]; exact hl_T_ot T.2.1
        · exact th_ot T w hw) (hl_Zq hS0 hE.2.1) (hl_Zq hS0 hE.2.2.1) hS (by rw [hml]; exact hlv.1) d0 d3 d4 d6 d9 (fun x hx => (hno x hx).elim) (by show 2 + 3 < d + 6; omega) (by show 0 + (13 * 3 + 43) ≤ 40 * d + 140; omega) hc hs hlk (hl_Xc_of hP hS hX) hS.2.2 hc hs
/-- 'throw new E("text")', the text's number small -/
theorem hl_throwN (B : hl_B G M d k n p s m args meth c) (hM : M.1.cls = RX7) (hl : l.stackTraces = false) {text : String} {ik is kk ks : Nat} (hk : hl_w kk (Jvm.Cond.classLink RX7 ik "java/util/NoSuchElementException") = true) (hst : lw_tbl[ks]? = some (Jvm.Cond.stringRef RX7 is text))
    (d0 : decode M.2.1 pc = .ok (.new ik, 3)) (d3 : decode M.2.1 (pc + 3) = .ok (.dup, 1)) (d4 : decode M.2.1 (pc + 4) = .ok (.ldc is, 2)) (d6 : decode M.2.1 (pc + 6) = .ok (.invokespecial 198, 3)) (d9 : decode M.2.1 (pc + 9) = .ok (.athrow, 1))
    (hc : ce + 1 ≤ k) (hs : sl + 6 ≤ n) (hX : X "java/util/NoSuchElementException" h) : hl_GM G M d k n Q X p l e s m args below meth c pc lv [] h ce sl := by
  sorry
/-- .. and where it is large -/
theorem hl_throwNW (B : hl_B G M d k n p s m args meth c) (hM : M.1.cls = RX7) (hl : l.stackTraces = false) {text : String} {ik is kk ks : Nat} (hk : hl_w kk (Jvm.Cond.classLink RX7 ik "java/util/NoSuchElementException") = true) (hst : lw_tbl[ks]? = some (Jvm.Cond.stringRef RX7 is text))
    (d0 : decode M.2.1 pc = .ok (.new ik, 3)) (d3 : decode M.2.1 (pc + 3) = .ok (.dup, 1)) (d4 : decode M.2.1 (pc + 4) = .ok (.ldc_w is, 3)) (d6 : decode M.2.1 (pc + 7) = .ok (.invokespecial 198, 3)) (d9 : decode M.2.1 (pc + 10) = .ok (.athrow, 1))
    (hc : ce + 1 ≤ k) (hs : sl + 6 ≤ n) (hX : X "java/util/NoSuchElementException" h) : hl_GM G M d k n Q X p l e s m args below meth c pc lv [] h ce sl := by
  sorry
end TH
