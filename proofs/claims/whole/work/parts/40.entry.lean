/-! PART 41: what holds at the law's entry -/
theorem en_in {C : String} {T : u_T} {N : Nat} (h : (u_ws C T N).all (fun w => decide (w ∈ lw_tbl)) = true) : ∀ w ∈ u_ws C T N, w ∈ lw_tbl := fun w hw => of_decide_eq_true (List.all_eq_true.mp h w hw)
section EN
variable {s : State} {args : Array Value}
set_option maxRecDepth 100000 in
theorem en_c0 (hts : ∀ w ∈ lw_tbl, w.before args s = true) : ∃ (c : ClassId) (iS : Nat → Nat), u_Kn s RJ0 TJ0 2 c iS := u_known (n := 4) hts (en_in (by decide +kernel)) (hts _ (List.mem_of_getElem? (i := 505) (by decide +kernel)))
set_option maxRecDepth 100000 in
theorem en_c1 (hts : ∀ w ∈ lw_tbl, w.before args s = true) : ∃ (c : ClassId) (iS : Nat → Nat), u_Kn s RJx00060 TJx00060 6 c iS := u_known (n := 6) hts (en_in (by decide +kernel)) (hts _ (List.mem_of_getElem? (i := 487) (by decide +kernel)))
set_option maxRecDepth 100000 in
theorem en_c2 (hts : ∀ w ∈ lw_tbl, w.before args s = true) : ∃ (c : ClassId) (iS : Nat → Nat), u_Kn s RX0 TX0 4 c iS := u_known (n := 4) hts (en_in (by decide +kernel)) (hts _ (List.mem_of_getElem? (i := 203) (by decide +kernel)))
set_option maxRecDepth 100000 in
theorem en_c3 (hts : ∀ w ∈ lw_tbl, w.before args s = true) : ∃ (c : ClassId) (iS : Nat → Nat), u_Kn s RX1 TX1 7 c iS := u_known (n := 7) hts (en_in (by decide +kernel)) (hts _ (List.mem_of_getElem? (i := 79) (by decide +kernel)))
set_option maxRecDepth 100000 in
theorem en_c4 (hts : ∀ w ∈ lw_tbl, w.before args s = true) : ∃ (c : ClassId) (iS : Nat → Nat), u_Kn s RX2 TX2 8 c iS := u_known (n := 8) hts (en_in (by decide +kernel)) (hts _ (List.mem_of_getElem? (i := 564) (by decide +kernel)))
set_option maxRecDepth 100000 in
theorem en_c5 (hts : ∀ w ∈ lw_tbl, w.before args s = true) : ∃ (c : ClassId) (iS : Nat → Nat), u_Kn s RX3 TX3 6 c iS := u_known (n := 6) hts (en_in (by decide +kernel)) (hts _ (List.mem_of_getElem? (i := 170) (by decide +kernel)))
set_option maxRecDepth 100000 in
theorem en_c6 (hts : ∀ w ∈ lw_tbl, w.before args s = true) : ∃ (c : ClassId) (iS : Nat → Nat), u_Kn s RX4 TX4 8 c iS := u_known (n := 8) hts (en_in (by decide +kernel)) (hts _ (List.mem_of_getElem? (i := 130) (by decide +kernel)))
set_option maxRecDepth 100000 in
theorem en_c7 (hts : ∀ w ∈ lw_tbl, w.before args s = true) : ∃ (c : ClassId) (iS : Nat → Nat), u_Kn s RX5 TX5 2 c iS := u_known (n := 2) hts (en_in (by decide +kernel)) (hts _ (List.mem_of_getElem? (i := 228) (by decide +kernel)))
set_option maxRecDepth 100000 in
theorem en_c8 (hts : ∀ w ∈ lw_tbl, w.before args s = true) : ∃ (c : ClassId) (iS : Nat → Nat), u_Kn s RX6 TX6 1 c iS := u_known (n := 1) hts (en_in (by decide +kernel)) (hts _ (List.mem_of_getElem? (i := 85) (by decide +kernel)))
set_option maxRecDepth 100000 in
theorem en_c9 (hts : ∀ w ∈ lw_tbl, w.before args s = true) : ∃ (c : ClassId) (iS : Nat → Nat), u_Kn s RX7 TX7 7 c iS := u_known (n := 7) hts (en_in (by decide +kernel)) (hts _ (List.mem_of_getElem? (i := 71) (by decide +kernel)))
set_option maxRecDepth 100000 in
theorem en_c10 (hts : ∀ w ∈ lw_tbl, w.before args s = true) : ∃ (c : ClassId) (iS : Nat → Nat), u_Kn s RX8 TX8 32 c iS := u_known (n := 32) hts (en_in (by decide +kernel)) (hts _ (List.mem_of_getElem? (i := 960) (by decide +kernel)))
theorem en_K (hts : ∀ w ∈ lw_tbl, w.before args s = true) : ∃ (dC : Nat → ClassId) (dI : Nat → Nat → Nat), ∀ (k : Nat) (q : vw_C), vwCl[k]? = some q → u_Kn s q.1 q.2.1 q.2.2 (dC k) (dI k) := by
  obtain ⟨c0, i0, h0⟩ := en_c0 hts
  obtain ⟨c1, i1, h1⟩ := en_c1 hts
  obtain ⟨c2, i2, h2⟩ := en_c2 hts
  obtain ⟨c3, i3, h3⟩ := en_c3 hts
  obtain ⟨c4, i4, h4⟩ := en_c4 hts
  obtain ⟨c5, i5, h5⟩ := en_c5 hts
  obtain ⟨c6, i6, h6⟩ := en_c6 hts
  obtain ⟨c7, i7, h7⟩ := en_c7 hts
  obtain ⟨c8, i8, h8⟩ := en_c8 hts
  obtain ⟨c9, i9, h9⟩ := en_c9 hts
  obtain ⟨c10, i10, h10⟩ := en_c10 hts
  refine ⟨fun k => if k = 0 then c0 else if k = 1 then c1 else if k = 2 then c2 else if k = 3 then c3 else if k = 4 then c4 else if k = 5 then c5 else if k = 6 then c6 else if k = 7 then c7 else if k = 8 then c8 else if k = 9 then c9 else c10, fun k => if k = 0 then i0 else if k = 1 then i1 else if k = 2 then i2 else if k = 3 then i3 else if k = 4 then i4 else if k = 5 then i5 else if k = 6 then i6 else if k = 7 then i7 else if k = 8 then i8 else if k = 9 then i9 else i10, ?_⟩
  intro k q hq
  match k, hq with
  | 0, hq => cases hq; exact h0
  | 1, hq => cases hq; exact h1
  | 2, hq => cases hq; exact h2
  | 3, hq => cases hq; exact h3
  | 4, hq => cases hq; exact h4
  | 5, hq => cases hq; exact h5
  | 6, hq => cases hq; exact h6
  | 7, hq => cases hq; exact h7
  | 8, hq => cases hq; exact h8
  | 9, hq => cases hq; exact h9
  | 10, hq => cases hq; exact h10
  | k + 11, hq => simp at hq
theorem en_int (hts : ∀ w ∈ lw_tbl, w.before args s = true) : ∃ cA : ClassId, ArrOfT s cA .int ∧ va_RA s cA .int := by
  obtain ⟨cA, kA, comp, h1, h2, h3⟩ := Cond.arrayClass_spec (hts (Jvm.Cond.arrayClass .int) (List.mem_of_getElem? (i := 1062) (by decide +kernel)))
  exact ⟨cA, fun n z => ⟨fun k h => (nomatch h), kA, h2, comp, h3⟩, h1⟩
theorem en_long (hts : ∀ w ∈ lw_tbl, w.before args s = true) : ∃ cA : ClassId, ArrOfT s cA .long ∧ va_RA s cA .long := by
  obtain ⟨cA, kA, comp, h1, h2, h3⟩ := Cond.arrayClass_spec (hts (Jvm.Cond.arrayClass .long) (List.mem_of_getElem? (i := 94) (by decide +kernel)))
  exact ⟨cA, fun n z => ⟨fun k h => (nomatch h), kA, h2, comp, h3⟩, h1⟩
theorem en_double (hts : ∀ w ∈ lw_tbl, w.before args s = true) : ∃ cA : ClassId, ArrOfT s cA .double ∧ va_RA s cA .double := by
  obtain ⟨cA, kA, comp, h1, h2, h3⟩ := Cond.arrayClass_spec (hts (Jvm.Cond.arrayClass .double) (List.mem_of_getElem? (i := 1334) (by decide +kernel)))
  exact ⟨cA, fun n z => ⟨fun k h => (nomatch h), kA, h2, comp, h3⟩, h1⟩
theorem en_call (hts : ∀ w ∈ lw_tbl, w.before args s = true) : (∃ cA : ClassId, ArrOfT s cA (.object RX2) ∧ va_RA s cA (.object RX2)) ∧ va_AO RX2 s := by
  have h := hts (Jvm.Cond.arrayOver (.object RX2)) (List.mem_of_getElem? (i := 234) (by decide +kernel))
  obtain ⟨comp, cA, kA, f4, -, f2, f3, f1⟩ := Cond.arrayOver_spec h
  exact ⟨⟨cA, fun n z => ⟨fun k h => (nomatch h), kA, f2, comp, f3⟩, kA, comp, f2, f3, f4, f1⟩, va_AO.of h⟩
theorem en_tab {w : Cond} (hts : ∀ w ∈ lw_tbl, w.before args s = true) (hw : w ∈ lw_tbl) (ht : w.onTables = true) : va_Nw w s := va_Nw.of ht (hts w hw)
/-- the texts of the tables are among the premises -/
def en_str (w : Jvm.Cond) : Bool := match w with
  | .stringRef own n _ => (flatC (Jvm.Cond.and given_1 narrow_1)).any (fun c => match c with | .exactly t _ => decide (t = .string own n) | _ => false)
  | _ => true
set_option maxRecDepth 100000 in
theorem en_strs : lw_tbl.all en_str = true := by decide +kernel
theorem en_text (hts : ∀ w ∈ lw_tbl, w.before args s = true) (hgv : (Jvm.Cond.and given_1 narrow_1).before args s = true) {own tx : String} {n : Nat} (h : Jvm.Cond.stringRef own n tx ∈ lw_tbl) : ∃ a, vk_R own n tx a s := by
  have h1 : en_str (Jvm.Cond.stringRef own n tx) = true := List.all_eq_true.mp en_strs _ h
  obtain ⟨c, hc, hq⟩ := List.any_eq_true.mp (show (flatC (Jvm.Cond.and given_1 narrow_1)).any (fun c => match c with | .exactly t _ => decide (t = .string own n) | _ => false) = true from h1)
  cases c with
  | exactly t cls =>
    have ht : t = .string own n := of_decide_eq_true hq
    subst ht
    obtain ⟨a, _, _, _, ha, -⟩ := Cond.exactly_spec (flat_of_before _ hgv _ hc)
    exact ⟨a, vk_R.of (hts _ h) ha⟩
  | _ => cases hq
set_option maxRecDepth 100000 in
theorem en_ncs : hl_ex.all (fun E => hl_ex.all (fun F => decide (E = F) || decide (Jvm.Cond.not (.castable E F) ∈ flatC (Jvm.Cond.and given_1 narrow_1)))) = true := by decide +kernel
theorem en_nc (hgv : (Jvm.Cond.and given_1 narrow_1).before args s = true) {E F : String} (hE : E ∈ hl_ex) (hF : F ∈ hl_ex) (hne : E ≠ F) : va_Nc E F s := by
  have h := List.all_eq_true.mp (List.all_eq_true.mp en_ncs E hE) F hF
  rw [Bool.or_eq_true] at h
  rcases h with h | h
  · exact absurd (of_decide_eq_true h) hne
  · exact va_Nc.of (flat_of_before _ hgv _ (of_decide_eq_true h))
theorem en_Ev (hts : ∀ w ∈ lw_tbl, w.before args s = true) (hgv : (Jvm.Cond.and given_1 narrow_1).before args s = true) : ∃ G : hl_G, G.2.2 = s.heap ∧ hl_Ev G s := by
  obtain ⟨dC, dI, hC⟩ := en_K hts
  obtain ⟨cI, hI⟩ := en_int hts
  obtain ⟨cL, hL⟩ := en_long hts
  obtain ⟨cD, hD⟩ := en_double hts
  obtain ⟨⟨cQ, hQ⟩, hAO⟩ := en_call hts
  have hA : ∀ a : Nat, a < s.heap.size → ¬ hl_A (((dC, dI), (cI, cL, cD, cQ), s.heap) : hl_G) a := fun a h z => absurd h (Nat.not_lt.mpr z)
  refine ⟨((dC, dI), (cI, cL, cD, cQ), s.heap), rfl, ⟨hC, fun k q hq => ?_⟩, ?_, ?_, fun own n a b d host h => en_tab hts h rfl, fun own n y host h => en_tab hts h rfl, fun own n tx h => en_text hts hgv h, fun y h => en_tab hts h rfl, fun C T h => en_tab hts h rfl, fun E hE F hF hne => en_nc hgv hE hF hne, hAO⟩
  · match k, hq with
    | 0, hq => cases hq; exact hI
    | 1, hq => cases hq; exact hL
    | 2, hq => cases hq; exact hD
    | 3, hq => cases hq; exact hQ
    | k + 4, hq => simp [hl_tys] at hq
  · exact vx_Zqof (hts _ (List.mem_of_getElem? (i := 412) (by decide +kernel))) (hts _ (List.mem_of_getElem? (i := 57) (by decide +kernel))) (flat_of_before _ hgv (.isRef (.static Bundle.tN "UNASSIGNED_STACK" Bundle.steD)) (by decide +kernel)) hA
  · exact vx_Zqof (hts _ (List.mem_of_getElem? (i := 414) (by decide +kernel))) (hts _ (List.mem_of_getElem? (i := 57) (by decide +kernel))) (flat_of_before _ hgv (.isRef (.static Bundle.tN "SUPPRESSED_SENTINEL" Bundle.listD)) (by decide +kernel)) hA
end EN
section ER
variable {p : Program} {l : Launch} {e : Env} {s : State} {m : MethodId} {args : Array Value} {below : List Frame} {meth : Method} {c : Code} {H : Heap} {locs : List Loc} {cells slots : Nat} {Q : State → Prop} {g : JFrame}
/-- a smaller room is enough -/
theorem en_room {R R' : Room} (h1 : R'.frames ≤ R.frames) (h2 : R'.cells ≤ R.cells) (h3 : R'.slots ≤ R.slots) (h4 : R'.locals ≤ R.locals) (w : W p l e R' s m args below meth c H locs cells slots Q g) : W p l e R s m args below meth c H locs cells slots Q g := by
  intro T hT X
  refine w T hT ⟨X.admits, X.cas, X.clock, X.frames, ?_, X.hears, X.method, X.code, X.here, X.tail, X.warmed, X.limits, X.bytes, X.same⟩
  have h := X.room
  simp only [State.hasRoom, Bool.and_eq_true, decide_eq_true_eq] at h ⊢
  obtain ⟨⟨⟨⟨a1, a2, a3, a4, a5, a6⟩, a7⟩, a8⟩, a9⟩ := h
  exact ⟨⟨⟨⟨by omega, by omega, by omega, by omega, by omega, a6⟩, by omega⟩, by omega⟩, a9⟩
/-- a weaker end -/
theorem en_end {R : Room} {Q' : State → Prop} (h : ∀ t, Q t → Q' t) (w : W p l e R s m args below meth c H locs cells slots Q g) : W p l e R s m args below meth c H locs cells slots Q' g := by
  intro T hT X
  obtain ⟨t, h1, h2⟩ := w T hT X
  exact ⟨t, h1, h _ h2⟩
end ER
