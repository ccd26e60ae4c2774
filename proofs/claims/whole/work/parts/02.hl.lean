/-! PART 02: a small logic over the kit's rows: an abstract heap as a function, and a reader of straight-line code -/
/-- an abstract cell: an array, or an object of a class of vwCl -/
abbrev hl_C : Type := vp_A ⊕ (Nat × List Value)
/-- an abstract heap -/
abbrev hl_H : Type := Nat → Option hl_C
def hl_set (h : hl_H) (a : Nat) (x : hl_C) : hl_H := fun q => if q = a then some x else h q
/-- the launch's numbers: the classes, the four array classes (int, long, double, Call), the heap at the law's entry -/
abbrev hl_G : Type := va_G × (ClassId × ClassId × ClassId × ClassId) × Heap
def hl_tys (G : hl_G) : List (ClassId × FieldType) := [(G.2.1.1, .int), (G.2.1.2.1, .long), (G.2.1.2.2.1, .double), (G.2.1.2.2.2, .object RX2)]
def hl_A (G : hl_G) : Nat → Prop := fun q => G.2.2.size ≤ q
def hl_cls (G : hl_G) (x : vp_A) : ClassId := match x.2 with
  | .inl _ => G.2.1.1
  | .inr (.inl _) => G.2.1.2.1
  | .inr (.inr (.inl _)) => G.2.1.1
  | .inr (.inr (.inr (.inl _))) => G.2.1.2.2.1
  | .inr (.inr (.inr (.inr _))) => G.2.1.2.2.2
def hl_tr (G : hl_G) (x : hl_C) : va_E := match x with
  | .inl a => .inl (hl_cls G a, a)
  | .inr o => .inr o
/-- the machine's heap holds the abstract one -/
def hl_P (G : hl_G) (h : hl_H) (H : Heap) : Prop := ∃ w : va_W, (∀ (a : Nat) (x : hl_C), h a = some x → ∃ k : Nat, w[k]? = some (a, hl_tr G x)) ∧ va_P G.1 vwCl w H ∧ va_D (hl_A G) w
theorem hl_P.of {G : hl_G} {h : hl_H} {H : Heap} (hh : hl_P G h H) {h' : hl_H} (hs : ∀ (a : Nat) (x : hl_C), h' a = some x → h a = some x) : hl_P G h' H := by
  obtain ⟨w, h1, h2, h3⟩ := hh
  exact ⟨w, fun a x q => h1 a x (hs a x q), h2, h3⟩
theorem hl_P.put {G : hl_G} {h : hl_H} {H1 : Heap} {w : va_W} {a k : Nat} {x0 : va_E} {x : hl_C} (h1 : ∀ (a : Nat) (x : hl_C), h a = some x → ∃ k : Nat, w[k]? = some (a, hl_tr G x)) (hk : w[k]? = some (a, x0)) (hD0 : va_D (hl_A G) w) (hP : va_P G.1 vwCl (w.set k (a, hl_tr G x)) H1) (hD : va_D (hl_A G) (w.set k (a, hl_tr G x))) : hl_P G (hl_set h a x) H1 := by
  have hl := (List.getElem?_eq_some_iff.mp hk).1
  refine ⟨_, fun b y hb => ?_, hP, hD⟩
  by_cases hba : b = a
  · subst hba
    simp only [hl_set, if_pos rfl] at hb
    cases hb
    exact ⟨k, by rw [List.getElem?_set_self hl]⟩
  · simp only [hl_set, if_neg hba] at hb
    obtain ⟨j, hj⟩ := h1 b y hb
    have hjk : k ≠ j := by
      intro z
      subst z
      rw [hk] at hj
      cases hj
      exact hba rfl
    exact ⟨j, by rw [List.getElem?_set_ne hjk]; exact hj⟩
theorem hl_P.push {G : hl_G} {h : hl_H} {H1 : Heap} {w : va_W} {a : Nat} {x : hl_C} (h1 : ∀ (a : Nat) (x : hl_C), h a = some x → ∃ k : Nat, w[k]? = some (a, hl_tr G x)) (hP : va_P G.1 vwCl (w ++ [(a, hl_tr G x)]) H1) (hD : va_D (hl_A G) (w ++ [(a, hl_tr G x)])) : h a = none ∧ hl_P G (hl_set h a x) H1 := by
  have hn : h a = none := by
    cases hh : h a with
    | none => rfl
    | some y =>
      obtain ⟨k, hk⟩ := h1 a y hh
      have hl := (List.getElem?_eq_some_iff.mp hk).1
      have e1 : (w ++ [(a, hl_tr G x)])[k]? = some (a, hl_tr G y) := by rw [List.getElem?_append_left hl]; exact hk
      have e2 : (w ++ [(a, hl_tr G x)])[w.length]? = some (a, hl_tr G x) := by simp
      have := hD.1 k w.length _ _ e1 e2 rfl
      omega
  refine ⟨hn, _, fun b y hb => ?_, hP, hD⟩
  by_cases hba : b = a
  · subst hba
    simp only [hl_set, if_pos rfl] at hb
    cases hb
    exact ⟨w.length, by simp⟩
  · simp only [hl_set, if_neg hba] at hb
    obtain ⟨j, hj⟩ := h1 b y hb
    have hl := (List.getElem?_eq_some_iff.mp hj).1
    exact ⟨j, by rw [List.getElem?_append_left hl]; exact hj⟩
/-- the exceptions that the class throws -/
def hl_ex : List String := ["java/lang/IllegalStateException", "java/lang/IllegalArgumentException", "java/lang/UnsupportedOperationException", "java/lang/IndexOutOfBoundsException", "java/util/NoSuchElementException", "java/lang/ArithmeticException"]
def hl_nF (w : Jvm.Cond) : Bool := match w with | .fieldLinkNest _ _ _ _ _ _ => true | _ => false
def hl_nM (w : Jvm.Cond) : Bool := match w with | .methodLinkNest _ _ _ _ => true | _ => false
def hl_nS (w : Jvm.Cond) : Bool := match w with | .stringRef _ _ _ => true | _ => false
def hl_Ev (G : hl_G) (U : State) : Prop := va_K G.1 vwCl (hl_tys G) U ∧ vx_Zq Bundle.tN "UNASSIGNED_STACK" Bundle.steD (hl_A G) U G.2.2 ∧ vx_Zq Bundle.tN "SUPPRESSED_SENTINEL" Bundle.listD (hl_A G) U G.2.2 ∧ (∀ own n a b d host, Jvm.Cond.fieldLinkNest own n a b d host ∈ lw_tbl → va_Nw (Jvm.Cond.fieldLinkNest own n a b d host) U) ∧ (∀ own n y host, Jvm.Cond.methodLinkNest own n y host ∈ lw_tbl → va_Nw (Jvm.Cond.methodLinkNest own n y host) U) ∧ (∀ own n tx, Jvm.Cond.stringRef own n tx ∈ lw_tbl → ∃ a, vk_R own n tx a U) ∧ (∀ y, Jvm.Cond.declares y ∈ lw_tbl → va_Nw (Jvm.Cond.declares y) U) ∧ (∀ C T, Jvm.Cond.castable C T ∈ lw_tbl → va_Nw (Jvm.Cond.castable C T) U) ∧ (∀ E ∈ hl_ex, ∀ F ∈ hl_ex, E ≠ F → va_Nc E F U) ∧ va_AO RX2 U
theorem hl_Ev.warm {G : hl_G} {u U : State} (hW : u.WarmedH U.vm) (h : hl_Ev G u) : hl_Ev G U := by
  obtain ⟨h1, h2, h3, h4, h5, h6, h7, h8, h9, h10⟩ := h
  refine ⟨va_K.moved hW.alike h1, vx_Zq.moved hW.alike h2, vx_Zq.moved hW.alike h3, fun own n a b d host q => va_Nw.warmF hW (h4 _ _ _ _ _ _ q), fun own n y host q => va_Nw.warmM hW (h5 _ _ _ _ q), fun own n tx q => ?_, fun y q => va_Nw.warmD hW (h7 _ q), fun C T q => va_Nw.warmC hW (h8 _ _ q), fun E hE F hF n => (h9 E hE F hF n).moved hW.alike, h10.moved hW.alike⟩
  obtain ⟨a, ha⟩ := h6 own n tx q
  exact ⟨a, vk_R.warm hW ha⟩
theorem hl_Ev.same {G : hl_G} {u U : State} (hv : u.vm = U.vm) (h : hl_Ev G u) : hl_Ev G U := by
  obtain ⟨h1, h2, h3, h4, h5, h6, h7, h8, h9, h10⟩ := h
  have ha : u.vm.Alike U.vm := by rw [hv]; exact Vm.Alike.refl _
  refine ⟨va_K.moved ha h1, vx_Zq.moved ha h2, vx_Zq.moved ha h3, fun own n a b d host q => va_Nw.same rfl hv (h4 _ _ _ _ _ _ q), fun own n y host q => va_Nw.same rfl hv (h5 _ _ _ _ q), fun own n tx q => ?_, fun y q => va_Nw.same rfl hv (h7 _ q), fun C T q => va_Nw.same rfl hv (h8 _ _ q), fun E hE F hF n => (h9 E hE F hF n).moved ha, h10.moved ha⟩
  obtain ⟨a, ha⟩ := h6 own n tx q
  exact ⟨a, vk_R.same hv.symm ha⟩
/-! locals -/
def hl_rd : List (Nat × Value) → Nat → Option Value
  | [], _ => none
  | (j, v) :: r, i => if j = i then some v else hl_rd r i
def hl_f1 (i : Nat) : List (Nat × Value) → List (Nat × Value)
  | [] => []
  | (j, v) :: r => if j = i then hl_f1 i r else if j + 1 = i then (if v.category = 2 then hl_f1 i r else (j, v) :: hl_f1 i r) else (j, v) :: hl_f1 i r
def hl_f2 (i : Nat) : List (Nat × Value) → List (Nat × Value)
  | [] => []
  | (j, v) :: r => if j = i then hl_f2 i r else if j = i + 1 then hl_f2 i r else if j + 1 = i then (if v.category = 2 then hl_f2 i r else (j, v) :: hl_f2 i r) else (j, v) :: hl_f2 i r
theorem hl_f1_eq (i : Nat) : ∀ l : List (Nat × Value), l.filter (fun q => !(q.1 == i) && !(q.1 + 1 == i && q.2.category == 2)) = hl_f1 i l
  | [] => rfl
  | (j, v) :: r => by
    have ih := hl_f1_eq i r
    simp only [List.filter_cons, hl_f1, ih]
    by_cases h1 : j = i
    · simp [h1]
    · by_cases h2 : j + 1 = i
      · by_cases h3 : v.category = 2
        · simp [h1, h2, h3]
        · simp [h1, h2, h3]
      · simp [h1, h2]
theorem hl_f2_eq (i : Nat) : ∀ l : List (Nat × Value), l.filter (fun q => !(q.1 == i) && (!(q.1 == i + 1) && !(q.1 + 1 == i && q.2.category == 2))) = hl_f2 i l
  | [] => rfl
  | (j, v) :: r => by
    have ih := hl_f2_eq i r
    simp only [List.filter_cons, hl_f2, ih]
    by_cases h1 : j = i
    · simp [h1]
    · by_cases h4 : j = i + 1
      · simp [h4]
      · by_cases h2 : j + 1 = i
        · by_cases h3 : v.category = 2
          · simp [h1, h2, h3, h4]
          · simp [h1, h2, h3, h4]
        · simp [h1, h2, h4]
/-- the locals stay in their order -/
def hl_ins (i : Nat) (v : Value) : List (Nat × Value) → List (Nat × Value)
  | [] => [(i, v)]
  | (j, u) :: r => if i < j then (i, v) :: (j, u) :: r else (j, u) :: hl_ins i v r
theorem hl_ins_mem {i : Nat} {v : Value} : ∀ {l : List (Nat × Value)} {q : Nat × Value}, q ∈ hl_ins i v l → q = (i, v) ∨ q ∈ l
  | [], q, h => Or.inl (List.mem_singleton.mp h)
  | (j, u) :: r, q, h => by
    simp only [hl_ins] at h
    by_cases hij : i < j
    · rw [if_pos hij] at h
      rcases List.mem_cons.mp h with h | h
      · exact Or.inl h
      · exact Or.inr h
    · rw [if_neg hij] at h
      rcases List.mem_cons.mp h with h | h
      · exact Or.inr (List.mem_cons.mpr (Or.inl h))
      · rcases hl_ins_mem h with h | h
        · exact Or.inl h
        · exact Or.inr (List.mem_cons_of_mem _ h)
theorem hl_ins_has {ls : Array Slot} {nL i : Nat} {v : Value} {l : List (Nat × Value)} (h : lv_has ls nL ((i, v) :: l)) : lv_has ls nL (hl_ins i v l) :=
  ⟨h.1, h.2.1, fun q hq => h.2.2 q (by
    rcases hl_ins_mem hq with h9 | h9
    · exact List.mem_cons.mpr (Or.inl h9)
    · exact List.mem_cons_of_mem _ h9)⟩
theorem hl_rd_mem {l : List (Nat × Value)} {i : Nat} {v : Value} (h : hl_rd l i = some v) : (i, v) ∈ l := by
  induction l with
  | nil => cases h
  | cons q r ih =>
    obtain ⟨j, u⟩ := q
    simp only [hl_rd] at h
    by_cases hj : j = i
    · rw [if_pos hj] at h
      cases h
      subst hj
      exact List.mem_cons_self
    · rw [if_neg hj] at h
      exact List.mem_cons_of_mem _ (ih h)
theorem hl_rd_at {ls : Array Slot} {nL : Nat} {l : List (Nat × Value)} (h : lv_has ls nL l) {i : Nat} {v : Value} (hr : hl_rd l i = some v) : ls[i]? = some (.val v) := h.2.2 (i, v) (hl_rd_mem hr)
theorem hl_rd_ix {l : List (Nat × Value)} {i : Nat} {v : Value} (hr : hl_rd l i = some v) : ∃ k : Nat, l[k]? = some (i, v) := List.getElem?_of_mem (hl_rd_mem hr)
/-! the state of a body -/
section HL
variable {p : Program} {l : Launch} {e : Env} {R : Room} {s : State} {m : MethodId} {args : Array Value} {below : List Frame} {meth : Method} {c : Code} {Qf : State → Prop}
/-- what is fixed in a body -/
def hl_X (G : hl_G) (cc : ByteArray) (nL : Nat) (own : String) (p : Program) (R : Room) (s : State) (m : MethodId) (args : Array Value) (c : Code) : Prop :=
  p.tables.exec = Jvm.exec ∧ c.code = cc ∧ c.maxLocals = nL ∧ s.vm.findClass own = some m.cls ∧ (∀ w ∈ lw_tbl.filter goodWord, w.before args s = true) ∧ hl_Ev G s ∧ va_S (hl_A G) G.2.2 s.heap [] ∧ 1 ≤ R.frames ∧ 40 ≤ R.locals
/-- from this point the body comes to Qf -/
def hl_Go (G : hl_G) (nL : Nat) (p : Program) (l : Launch) (e : Env) (R : Room) (s : State) (m : MethodId) (args : Array Value) (below : List Frame) (meth : Method) (c : Code) (Qf : State → Prop) (pc : Nat) (lv : List (Nat × Value)) (st : List Value) (h : hl_H) (ce sl : Nat) : Prop :=
  ∀ (H : Heap) (locs : List Loc) (ls : Array Slot), hl_P G h H → va_S (hl_A G) s.heap H locs → lv_has ls nL lv → W p l e R s m args below meth c H locs ce sl Qf (F0 m pc ls st)
end HL
/-! straight-line code: (pc, target or class, local or field, place of its word, an int constant, a long constant, the instruction) -/
abbrev hl_I : Type := Nat × Nat × Nat × Nat × Int32 × Int64 × Instr
def hl_len (i : Instr) : Nat := match i with
  | .iload _ | .aload _ | .lload _ | .fload _ | .dload _ | .istore _ | .astore _ | .lstore _ | .fstore _ | .dstore _ | .bipush _ | .ldc _ | .newarray _ => 2
  | .sipush _ | .ldc_w _ | .ldc2_w _ | .getfield _ | .putfield _ | .invokevirtual _ | .invokespecial _ | .invokestatic _ | .new _ | .anewarray _ | .goto _ | .ifCond _ _ | .if_icmp _ _ | .ifnull _ | .ifnonnull _ | .iinc _ _ => 3
  | _ => 1
def hl_new (t : Nat) : List Value := match t with
  | 2 => [.int 0, .null, .null, .null]
  | 3 => [.int 0, .null, .null, .null, .null, .null, .null]
  | 4 => [.int 0, .int 0, .int 0, .int 0, .int 0, .int 0, .int 0, .int 0]
  | 5 => [.int 0, .null, .null, .null, .null, .null]
  | 6 => [.int 0, .null, .null, .null, .null, .null, .null, .null]
  | 7 => [.int 0, .null]
  | 8 => [.null]
  | 9 => [.null, .null, .null, .null, .null, .null, .int 0]
  | 10 => [.null, .null, .null, .null, .null, .null, .null, .null, .null, .null, .null, .null, .null, .null, .null, .null, .null, .null, .null, .null, .null, .null, .null, .null, .null, .null, .int 0, .int 0, .int 0, .int 0, .int 0, .int 0]
  | _ => []
def hl_ii (st : List Value) (k : Int32 → Int32 → List Value → Prop) : Prop := match st with | .int y :: .int x :: s => k x y s | _ => False
def hl_i1 (st : List Value) (k : Int32 → List Value → Prop) : Prop := match st with | .int x :: s => k x s | _ => False
def hl_ll (st : List Value) (k : Int64 → Int64 → List Value → Prop) : Prop := match st with | .long y :: .long x :: s => k x y s | _ => False
def hl_l1 (st : List Value) (k : Int64 → List Value → Prop) : Prop := match st with | .long x :: s => k x s | _ => False
def hl_ff (st : List Value) (k : UInt32 → UInt32 → List Value → Prop) : Prop := match st with | .float y :: .float x :: s => k x y s | _ => False
def hl_g1 (st : List Value) (k : UInt32 → List Value → Prop) : Prop := match st with | .float x :: s => k x s | _ => False
def hl_dd (st : List Value) (k : UInt64 → UInt64 → List Value → Prop) : Prop := match st with | .double y :: .double x :: s => k x y s | _ => False
def hl_d1 (st : List Value) (k : UInt64 → List Value → Prop) : Prop := match st with | .double x :: s => k x s | _ => False
def hl_r1 (st : List Value) (k : Nat → List Value → Prop) : Prop := match st with | .ref a :: s => k a s | _ => False
def hl_rv (st : List Value) (k : Value → List Value → Prop) : Prop := match st with | .ref a :: s => k (.ref a) s | .null :: s => k .null s | _ => False
def hl_n1 (st : List Value) (kn : List Value → Prop) (k : List Value → Prop) : Prop := match st with | .ref _ :: s => k s | .null :: s => kn s | _ => False
def hl_v1 (st : List Value) (k : Value → List Value → Prop) : Prop := match st with | v :: s => v.category = 1 ∧ k v s | _ => False
def hl_a1 (st : List Value) (k : Int32 → Nat → List Value → Prop) : Prop := match st with | .int i :: .ref a :: s => k i a s | _ => False
def hl_d2 (st : List Value) (k : List Value → Prop) : Prop := match st with | .long x :: s => k (.long x :: .long x :: s) | .int i :: .ref a :: s => k (.int i :: .ref a :: .int i :: .ref a :: s) | _ => False
def hl_ri (o : Option Value) (k : Int32 → Prop) : Prop := match o with | some (.int x) => k x | _ => False
def hl_rl (o : Option Value) (k : Int64 → Prop) : Prop := match o with | some (.long x) => k x | _ => False
def hl_rg (o : Option Value) (k : UInt32 → Prop) : Prop := match o with | some (.float x) => k x | _ => False
def hl_rd8 (o : Option Value) (k : UInt64 → Prop) : Prop := match o with | some (.double x) => k x | _ => False
def hl_rr (o : Option Value) (k : Value → Prop) : Prop := match o with | some (.ref a) => k (.ref a) | some .null => k .null | _ => False
def hl_gf (o : Option hl_C) (t u : Nat) (k : Value → Prop) : Prop := match o with | some (.inr (ci, fs)) => ci = t ∧ (match fs[u]? with | some v => k v | none => False) | _ => False
def hl_pf (st : List Value) (h : hl_H) (t u : Nat) (c : Int32) (k : List Value → hl_H → Prop) : Prop := match st with
  | .int x :: .ref a :: s => (match h a with | some (.inr (ci, fs)) => ci = t ∧ u < fs.length ∧ (c = 0 ∨ (c = 2 ∧ narrow .char (.int x) = .int x ∧ fits .char (.int x) = true)) ∧ k s (hl_set h a (.inr (ci, fs.set u (.int x)))) | _ => False)
  | .ref b :: .ref a :: s => (match h a with | some (.inr (ci, fs)) => ci = t ∧ u < fs.length ∧ c = 1 ∧ k s (hl_set h a (.inr (ci, fs.set u (.ref b)))) | _ => False)
  | _ => False
def hl_ia (o : Option hl_C) (i : Int32) (k : Int32 → Prop) : Prop := match o with | some (.inl (n, .inl f)) => vp_in i n ∧ k (f i.toNatClampNeg) | _ => False
def hl_la (o : Option hl_C) (i : Int32) (k : Int64 → Prop) : Prop := match o with | some (.inl (n, .inr (.inl f))) => vp_in i n ∧ k (f i.toNatClampNeg) | _ => False
def hl_da (o : Option hl_C) (i : Int32) (k : UInt64 → Prop) : Prop := match o with | some (.inl (n, .inr (.inr (.inr (.inl f))))) => vp_in i n ∧ k (f i.toNatClampNeg) | _ => False
def hl_qa (o : Option hl_C) (i : Int32) (k : Value → Prop) : Prop := match o with | some (.inl (n, .inr (.inr (.inr (.inr f))))) => vp_in i n ∧ k (va_rf (f i.toNatClampNeg)) | _ => False
def hl_al (o : Option hl_C) (k : Int32 → Prop) : Prop := match o with | some (.inl (n, _)) => k (Int32.ofNat n) | _ => False
def hl_is (st : List Value) (h : hl_H) (k : List Value → hl_H → Prop) : Prop := match st with
  | .int x :: .int i :: .ref a :: s => (match h a with | some (.inl (n, .inl f)) => vp_in i n ∧ k s (hl_set h a (.inl (n, .inl (upd f i.toNatClampNeg x)))) | _ => False)
  | _ => False
def hl_ls (st : List Value) (h : hl_H) (k : List Value → hl_H → Prop) : Prop := match st with
  | .long x :: .int i :: .ref a :: s => (match h a with | some (.inl (n, .inr (.inl f))) => vp_in i n ∧ k s (hl_set h a (.inl (n, .inr (.inl (vp_updL f i.toNatClampNeg x))))) | _ => False)
  | _ => False
def hl_ds (st : List Value) (h : hl_H) (k : List Value → hl_H → Prop) : Prop := match st with
  | .double x :: .int i :: .ref a :: s => (match h a with | some (.inl (n, .inr (.inr (.inr (.inl f))))) => vp_in i n ∧ k s (hl_set h a (.inl (n, .inr (.inr (.inr (.inl (vf_upd f i.toNatClampNeg x)))))) ) | _ => False)
  | _ => False
def hl_qs (st : List Value) (h : hl_H) (k : List Value → hl_H → Prop) : Prop := match st with
  | .ref b :: .int i :: .ref a :: s => (match h a with | some (.inl (n, .inr (.inr (.inr (.inr f))))) => vp_in i n ∧ (∃ vs, h b = some (.inr (4, vs))) ∧ k s (hl_set h a (.inl (n, .inr (.inr (.inr (.inr (va_up f i.toNatClampNeg (some b)))))))) | _ => False)
  | _ => False
def hl_na (t : Nat) (n : Int32) : vp_A := (n.toNatClampNeg, match t with | 0 => .inl (fun _ => 0) | 1 => .inr (.inl (fun _ => 0)) | _ => .inr (.inr (.inr (.inl (fun _ => 0)))))
/-- what must hold ahead of a piece of code; 'go' is what must hold where it ends, jumps or calls -/
def hl_wp (go : Nat → List (Nat × Value) → List Value → hl_H → Nat → Nat → Prop) (Rc Rs : Nat) : List hl_I → Nat → List (Nat × Value) → List Value → hl_H → Nat → Nat → Prop
  | [], _, _, _, _, _, _ => False
  | (pc, t, u, k, c, d, i) :: _, 0, lv, st, h, ce, sl => go pc lv st h ce sl
  | (pc, t, u, k, c, d, i) :: r, n + 1, lv, st, h, ce, sl => match i with
    | .iload_n _ => hl_ri (hl_rd lv u) fun x => hl_wp go Rc Rs r n lv (.int x :: st) h ce sl
    | .iload _ => hl_ri (hl_rd lv u) fun x => hl_wp go Rc Rs r n lv (.int x :: st) h ce sl
    | .lload_n _ => hl_rl (hl_rd lv u) fun x => hl_wp go Rc Rs r n lv (.long x :: st) h ce sl
    | .lload _ => hl_rl (hl_rd lv u) fun x => hl_wp go Rc Rs r n lv (.long x :: st) h ce sl
    | .fload _ => hl_rg (hl_rd lv u) fun x => hl_wp go Rc Rs r n lv (.float x :: st) h ce sl
    | .dload _ => hl_rd8 (hl_rd lv u) fun x => hl_wp go Rc Rs r n lv (.double x :: st) h ce sl
    | .aload_n _ => hl_rr (hl_rd lv u) fun v => hl_wp go Rc Rs r n lv (v :: st) h ce sl
    | .aload _ => hl_rr (hl_rd lv u) fun v => hl_wp go Rc Rs r n lv (v :: st) h ce sl
    | .istore_n _ => hl_i1 st fun x s => hl_wp go Rc Rs r n (hl_ins u (.int x) (hl_f1 u lv)) s h ce sl
    | .istore _ => hl_i1 st fun x s => hl_wp go Rc Rs r n (hl_ins u (.int x) (hl_f1 u lv)) s h ce sl
    | .astore_n _ => hl_rv st fun x s => hl_wp go Rc Rs r n (hl_ins u x (hl_f1 u lv)) s h ce sl
    | .astore _ => hl_rv st fun x s => hl_wp go Rc Rs r n (hl_ins u x (hl_f1 u lv)) s h ce sl
    | .fstore _ => hl_g1 st fun x s => hl_wp go Rc Rs r n (hl_ins u (.float x) (hl_f1 u lv)) s h ce sl
    | .lstore_n _ => hl_l1 st fun x s => hl_wp go Rc Rs r n (hl_ins u (.long x) (hl_f2 u lv)) s h ce sl
    | .lstore _ => hl_l1 st fun x s => hl_wp go Rc Rs r n (hl_ins u (.long x) (hl_f2 u lv)) s h ce sl
    | .dstore _ => hl_d1 st fun x s => hl_wp go Rc Rs r n (hl_ins u (.double x) (hl_f2 u lv)) s h ce sl
    | .iinc _ _ => hl_ri (hl_rd lv u) fun x => hl_wp go Rc Rs r n (hl_ins u (.int (x + c)) (hl_f1 u lv)) st h ce sl
    | .iconst _ => hl_wp go Rc Rs r n lv (.int c :: st) h ce sl
    | .bipush _ => hl_wp go Rc Rs r n lv (.int c :: st) h ce sl
    | .sipush _ => hl_wp go Rc Rs r n lv (.int c :: st) h ce sl
    | .ldc _ => if t = 999 then go pc lv st h ce sl else hl_wp go Rc Rs r n lv (.int c :: st) h ce sl
    | .ldc_w _ => if t = 999 then go pc lv st h ce sl else hl_wp go Rc Rs r n lv (.int c :: st) h ce sl
    | .lconst _ => hl_wp go Rc Rs r n lv (.long d :: st) h ce sl
    | .ldc2_w _ => hl_wp go Rc Rs r n lv (.long d :: st) h ce sl
    | .fconst _ => hl_wp go Rc Rs r n lv (.float FP.fconst0 :: st) h ce sl
    | .dconst _ => hl_wp go Rc Rs r n lv (.double FP.dconst0 :: st) h ce sl
    | .aconst_null => hl_wp go Rc Rs r n lv (.null :: st) h ce sl
    | .iadd => hl_ii st fun x y s => hl_wp go Rc Rs r n lv (.int (x + y) :: s) h ce sl
    | .isub => hl_ii st fun x y s => hl_wp go Rc Rs r n lv (.int (x - y) :: s) h ce sl
    | .imul => hl_ii st fun x y s => hl_wp go Rc Rs r n lv (.int (x * y) :: s) h ce sl
    | .iand => hl_ii st fun x y s => hl_wp go Rc Rs r n lv (.int (x &&& y) :: s) h ce sl
    | .ineg => hl_i1 st fun x s => hl_wp go Rc Rs r n lv (.int (-x) :: s) h ce sl
    | .ladd => hl_ll st fun x y s => hl_wp go Rc Rs r n lv (.long (x + y) :: s) h ce sl
    | .lsub => hl_ll st fun x y s => hl_wp go Rc Rs r n lv (.long (x - y) :: s) h ce sl
    | .lmul => hl_ll st fun x y s => hl_wp go Rc Rs r n lv (.long (x * y) :: s) h ce sl
    | .ldiv => hl_ll st fun x y s => ¬ y = 0 ∧ hl_wp go Rc Rs r n lv (.long (x / y) :: s) h ce sl
    | .lneg => hl_l1 st fun x s => hl_wp go Rc Rs r n lv (.long (-x) :: s) h ce sl
    | .i2l => hl_i1 st fun x s => hl_wp go Rc Rs r n lv (.long x.toInt64 :: s) h ce sl
    | .l2i => hl_l1 st fun x s => hl_wp go Rc Rs r n lv (.int x.toInt32 :: s) h ce sl
    | .i2c => hl_i1 st fun x s => hl_wp go Rc Rs r n lv (.int (x.toUInt32 % 65536).toInt32 :: s) h ce sl
    | .i2f => hl_i1 st fun x s => hl_wp go Rc Rs r n lv (.float (FP.i2f x) :: s) h ce sl
    | .i2d => hl_i1 st fun x s => hl_wp go Rc Rs r n lv (.double (FP.i2d x) :: s) h ce sl
    | .l2d => hl_l1 st fun x s => hl_wp go Rc Rs r n lv (.double (FP.l2d x) :: s) h ce sl
    | .f2d => hl_g1 st fun x s => vf_n64 (FP.f2d x) ∧ hl_wp go Rc Rs r n lv (.double (FP.f2d x) :: s) h ce sl
    | .fdiv => hl_ff st fun x y s => vf_n32 (FP.fdiv x y) ∧ hl_wp go Rc Rs r n lv (.float (FP.fdiv x y) :: s) h ce sl
    | .ddiv => hl_dd st fun x y s => vf_n64 (FP.ddiv x y) ∧ hl_wp go Rc Rs r n lv (.double (FP.ddiv x y) :: s) h ce sl
    | .lcmp => hl_ll st fun x y s => hl_wp go Rc Rs r n lv (.int (lg_cmp x y) :: s) h ce sl
    | .fcmp op => hl_ff st fun x y s => hl_wp go Rc Rs r n lv (.int (Op.cmpValue (FP.fcmp x y) op) :: s) h ce sl
    | .dcmp op => hl_dd st fun x y s => hl_wp go Rc Rs r n lv (.int (Op.cmpValue (FP.dcmp x y) op) :: s) h ce sl
    | .dup => hl_v1 st fun v s => hl_wp go Rc Rs r n lv (v :: v :: s) h ce sl
    | .dup2 => hl_d2 st fun s => hl_wp go Rc Rs r n lv s h ce sl
    | .pop => hl_v1 st fun _ s => hl_wp go Rc Rs r n lv s h ce sl
    | .ifCond .eq _ => hl_i1 st fun x s => (x = 0 → go t lv s h ce sl) ∧ (¬ x = 0 → hl_wp go Rc Rs r n lv s h ce sl)
    | .ifCond .ne _ => hl_i1 st fun x s => (¬ x = 0 → go t lv s h ce sl) ∧ (x = 0 → hl_wp go Rc Rs r n lv s h ce sl)
    | .ifCond .lt _ => hl_i1 st fun x s => (x < 0 → go t lv s h ce sl) ∧ (¬ x < 0 → hl_wp go Rc Rs r n lv s h ce sl)
    | .ifCond .ge _ => hl_i1 st fun x s => (0 ≤ x → go t lv s h ce sl) ∧ (¬ 0 ≤ x → hl_wp go Rc Rs r n lv s h ce sl)
    | .ifCond .gt _ => hl_i1 st fun x s => (0 < x → go t lv s h ce sl) ∧ (¬ 0 < x → hl_wp go Rc Rs r n lv s h ce sl)
    | .ifCond .le _ => hl_i1 st fun x s => (x ≤ 0 → go t lv s h ce sl) ∧ (¬ x ≤ 0 → hl_wp go Rc Rs r n lv s h ce sl)
    | .if_icmp .eq _ => hl_ii st fun x y s => (x = y → go t lv s h ce sl) ∧ (¬ x = y → hl_wp go Rc Rs r n lv s h ce sl)
    | .if_icmp .ne _ => hl_ii st fun x y s => (¬ x = y → go t lv s h ce sl) ∧ (x = y → hl_wp go Rc Rs r n lv s h ce sl)
    | .if_icmp .lt _ => hl_ii st fun x y s => (x < y → go t lv s h ce sl) ∧ (¬ x < y → hl_wp go Rc Rs r n lv s h ce sl)
    | .if_icmp .ge _ => hl_ii st fun x y s => (y ≤ x → go t lv s h ce sl) ∧ (¬ y ≤ x → hl_wp go Rc Rs r n lv s h ce sl)
    | .if_icmp .gt _ => hl_ii st fun x y s => (y < x → go t lv s h ce sl) ∧ (¬ y < x → hl_wp go Rc Rs r n lv s h ce sl)
    | .if_icmp .le _ => hl_ii st fun x y s => (x ≤ y → go t lv s h ce sl) ∧ (¬ x ≤ y → hl_wp go Rc Rs r n lv s h ce sl)
    | .ifnull _ => hl_n1 st (fun s => go t lv s h ce sl) (fun s => hl_wp go Rc Rs r n lv s h ce sl)
    | .ifnonnull _ => hl_n1 st (fun s => hl_wp go Rc Rs r n lv s h ce sl) (fun s => go t lv s h ce sl)
    | .goto _ => go t lv st h ce sl
    | .getfield _ => hl_r1 st fun a s => hl_gf (h a) t u fun v => hl_wp go Rc Rs r n lv (v :: s) h ce sl
    | .putfield _ => hl_pf st h t u c fun s h' => hl_wp go Rc Rs r n lv s h' ce sl
    | .iaload => hl_a1 st fun i a s => hl_ia (h a) i fun x => hl_wp go Rc Rs r n lv (.int x :: s) h ce sl
    | .laload => hl_a1 st fun i a s => hl_la (h a) i fun x => hl_wp go Rc Rs r n lv (.long x :: s) h ce sl
    | .daload => hl_a1 st fun i a s => hl_da (h a) i fun x => hl_wp go Rc Rs r n lv (.double x :: s) h ce sl
    | .aaload => hl_a1 st fun i a s => hl_qa (h a) i fun v => hl_wp go Rc Rs r n lv (v :: s) h ce sl
    | .arraylength => hl_r1 st fun a s => hl_al (h a) fun x => hl_wp go Rc Rs r n lv (.int x :: s) h ce sl
    | .iastore => hl_is st h fun s h' => hl_wp go Rc Rs r n lv s h' ce sl
    | .lastore => hl_ls st h fun s h' => hl_wp go Rc Rs r n lv s h' ce sl
    | .dastore => hl_ds st h fun s h' => hl_wp go Rc Rs r n lv s h' ce sl
    | .aastore => hl_qs st h fun s h' => hl_wp go Rc Rs r n lv s h' ce sl
    | .new _ => if t < 100 then (ce + 1 ≤ Rc ∧ sl + u ≤ Rs ∧ ∀ q : Nat, h q = none → hl_wp go Rc Rs r n lv (.ref q :: st) (hl_set h q (.inr (t, hl_new t))) (ce + 1) (sl + u)) else go pc lv st h ce sl
    | .newarray _ => if t = 9 then go pc lv st h ce sl else hl_i1 st fun n9 s => (n9 = c ∧ ce + 1 ≤ Rc ∧ sl + u ≤ Rs ∧ ∀ q : Nat, h q = none → hl_wp go Rc Rs r n lv (.ref q :: s) (hl_set h q (.inl (hl_na t c))) (ce + 1) (sl + u))
    | .invokespecial _ => if t = 1 then hl_r1 st (fun _ s => (s.map fun v => v.category).sum ≤ 8 ∧ hl_wp go Rc Rs r n lv s h ce sl) else go pc lv st h ce sl
    | _ => go pc lv st h ce sl
/-- the class at place t of vwCl -/
def hl_cl (t : Nat) (k : String → u_T → Nat → Bool) : Bool := match vwCl[t]? with
  | some q => k q.1 q.2.1 q.2.2
  | none => false
/-- the words that every body has -/
def hl_T : List Jvm.Cond := lw_tbl.filter goodWord
def hl_isN (w : Jvm.Cond) : Bool := match w with | .fieldLinkNest _ _ _ _ _ _ => true | .methodLinkNest _ _ _ _ => true | _ => false
/-- a field's link: its own, or a nest mate's (d = 1) -/
def hl_fw (own : String) (n k : Nat) (d : Int64) (q : String × String × String × Bool) : Bool := if d = 0 then decide (lw_tbl[k]? = some (Jvm.Cond.fieldLink own n q.1 q.2.1 q.2.2.1)) else decide (lw_tbl[k]? = some (Jvm.Cond.fieldLinkNest own n q.1 q.2.1 q.2.2.1 "LedgerStream"))
/-- a good word of the tables, by its place -/
def hl_w (k : Nat) (w : Jvm.Cond) : Bool := decide (lw_tbl[k]? = some w) && goodWord w
/-- one instruction is what the code says at its place, and what it links to stands among the words -/
def hl_ok1 (own : String) (nL : Nat) (ini : Bool) (pc t u k : Nat) (c : Int32) (d : Int64) (i : Instr) : Bool :=
  match i with
    | .iload_n j => j.val == u
    | .iload j => j == u
    | .lload_n j => j.val == u
    | .lload j => j == u
    | .fload j => j == u
    | .dload j => j == u
    | .aload_n j => j.val == u
    | .aload j => j == u
    | .istore_n j => j.val == u && decide (u < nL)
    | .istore j => j == u && decide (u < nL)
    | .astore_n j => j.val == u && decide (u < nL)
    | .astore j => j == u && decide (u < nL)
    | .fstore j => j == u && decide (u < nL)
    | .lstore_n j => j.val == u && decide (u + 1 < nL)
    | .lstore j => j == u && decide (u + 1 < nL)
    | .dstore j => j == u && decide (u + 1 < nL)
    | .iinc j n => j == u && decide (Int32.ofInt n = c) && decide (u < nL)
    | .iconst n => decide (Int32.ofInt n = c)
    | .bipush n => decide ((Int8.ofInt n).toInt32 = c)
    | .sipush n => decide ((Int16.ofInt n).toInt32 = c)
    | .ldc n => t == 999 || hl_w k (Jvm.Cond.constant own n c)
    | .ldc_w n => t == 999 || hl_w k (Jvm.Cond.constant own n c)
    | .lconst n => decide (Int64.ofNat n.val = d)
    | .ldc2_w n => hl_w k (Jvm.Cond.constantLong own n d)
    | .fconst n => n.val == 0
    | .dconst n => n.val == 0
    | .ifCond _ off => decide ((pc : Int) + off = (t : Int))
    | .if_icmp _ off => decide ((pc : Int) + off = (t : Int))
    | .ifnull off => decide ((pc : Int) + off = (t : Int))
    | .ifnonnull off => decide ((pc : Int) + off = (t : Int))
    | .goto off => decide ((pc : Int) + off = (t : Int))
    | .getfield n => hl_cl t fun _ T N => decide (2 ≤ t) && decide (u < N) && hl_fw own n k d (T u)
    | .putfield n => hl_cl t fun _ T N => decide (2 ≤ t) && decide (u < N) && hl_fw own n k d (T u) && ((T u).2.2.2 == false || (ini && (T u).1 == own && d == 0)) && (match parseFieldDescriptor (T u).2.2.1 with
      | some .int => c == 0
      | some (.object _) => c == 1
      | some (.array _) => c == 1
      | some .char => c == 2
      | _ => false)
    | .new n => t ≥ 100 || (hl_cl t fun C _ N => N == u && decide (2 ≤ t) && hl_w k (Jvm.Cond.classLink own n C))
    | .newarray at9 => t == 9 || (hl_w k (Jvm.Cond.arrayClass (newarray.typeOf at9)) && decide (¬ c < 0) && decide (c.toNatClampNeg = u) && decide (u ≤ 10000) && (match newarray.typeOf at9 with
      | .int => t == 0
      | .long => t == 1
      | .double => t == 2
      | _ => false))
    | .invokespecial n => t == 0 || hl_w k (Jvm.Cond.methodLink own n objectInit)
    | _ => true
def hl_ok (cc : ByteArray) (own : String) (nL : Nat) (ini : Bool) : List hl_I → Bool
  | [] => true
  | (pc, t, u, k, c, d, i) :: r => decide (decode cc pc = .ok (i, hl_len i)) && hl_ok1 own nL ini pc t u k c d i && (match r with | [] => true | q :: _ => q.1 == pc + hl_len i) && hl_ok cc own nL ini r
theorem hl_T_of {k : Nat} {w : Jvm.Cond} (h1 : lw_tbl[k]? = some w) (h2 : goodWord w = true) : w ∈ hl_T := List.mem_filter.mpr ⟨List.mem_of_getElem? h1, h2⟩
theorem hl_w_T {k : Nat} {w : Jvm.Cond} (h : hl_w k w = true) : w ∈ hl_T := by
  simp only [hl_w, Bool.and_eq_true, decide_eq_true_eq] at h
  exact hl_T_of h.1 h.2
theorem hl_cl_spec {t : Nat} {k : String → u_T → Nat → Bool} (h : hl_cl t k = true) : ∃ (C : String) (T : u_T) (N : Nat), vwCl[t]? = some (C, T, N) ∧ k C T N = true := by
  unfold hl_cl at h
  cases hq : vwCl[t]? with
  | none => rw [hq] at h; cases h
  | some q => rw [hq] at h; exact ⟨q.1, q.2.1, q.2.2, rfl, h⟩
theorem hl_tab {t : Nat} {C : String} {T : u_T} {N : Nat} (h : vwCl[t]? = some (C, T, N)) (ht : 2 ≤ t) : ∃ ty : Nat → FieldType, (∀ k, k < N → parseFieldDescriptor (T k).2.2.1 = some (ty k)) ∧ (∀ a, a < N → ∀ b, b < N → a ≠ b → (T a).2.1 ≠ (T b).2.1) ∧ (∀ j, j < N → defaultValue (ty j) = vp_V (hl_new t) j) := by
  match t, h, ht with
  | 2, h, _ => cases h; exact ⟨tyX0, tyX0_ok, nmX0, by decide +kernel⟩
  | 3, h, _ => cases h; exact ⟨tyX1, tyX1_ok, nmX1, by decide +kernel⟩
  | 4, h, _ => cases h; exact ⟨tyX2, tyX2_ok, nmX2, by decide +kernel⟩
  | 5, h, _ => cases h; exact ⟨tyX3, tyX3_ok, nmX3, by decide +kernel⟩
  | 6, h, _ => cases h; exact ⟨tyX4, tyX4_ok, nmX4, by decide +kernel⟩
  | 7, h, _ => cases h; exact ⟨tyX5, tyX5_ok, nmX5, by decide +kernel⟩
  | 8, h, _ => cases h; exact ⟨tyX6, tyX6_ok, nmX6, by decide +kernel⟩
  | 9, h, _ => cases h; exact ⟨tyX7, tyX7_ok, nmX7, by decide +kernel⟩
  | 10, h, _ => cases h; exact ⟨tyX8, tyX8_ok, nmX8, by decide +kernel⟩
  | t + 11, h, _ => simp [vwCl] at h
theorem hl_ii_spec {st : List Value} {k : Int32 → Int32 → List Value → Prop} (h : hl_ii st k) : ∃ x y s, st = .int y :: .int x :: s ∧ k x y s := by
  unfold hl_ii at h
  split at h
  · exact ⟨_, _, _, rfl, h⟩
  · exact h.elim
theorem hl_i1_spec {st : List Value} {k : Int32 → List Value → Prop} (h : hl_i1 st k) : ∃ x s, st = .int x :: s ∧ k x s := by
  unfold hl_i1 at h
  split at h
  · exact ⟨_, _, rfl, h⟩
  · exact h.elim
theorem hl_ll_spec {st : List Value} {k : Int64 → Int64 → List Value → Prop} (h : hl_ll st k) : ∃ x y s, st = .long y :: .long x :: s ∧ k x y s := by
  unfold hl_ll at h
  split at h
  · exact ⟨_, _, _, rfl, h⟩
  · exact h.elim
theorem hl_l1_spec {st : List Value} {k : Int64 → List Value → Prop} (h : hl_l1 st k) : ∃ x s, st = .long x :: s ∧ k x s := by
  unfold hl_l1 at h
  split at h
  · exact ⟨_, _, rfl, h⟩
  · exact h.elim
theorem hl_ff_spec {st : List Value} {k : UInt32 → UInt32 → List Value → Prop} (h : hl_ff st k) : ∃ x y s, st = .float y :: .float x :: s ∧ k x y s := by
  unfold hl_ff at h
  split at h
  · exact ⟨_, _, _, rfl, h⟩
  · exact h.elim
theorem hl_g1_spec {st : List Value} {k : UInt32 → List Value → Prop} (h : hl_g1 st k) : ∃ x s, st = .float x :: s ∧ k x s := by
  unfold hl_g1 at h
  split at h
  · exact ⟨_, _, rfl, h⟩
  · exact h.elim
theorem hl_dd_spec {st : List Value} {k : UInt64 → UInt64 → List Value → Prop} (h : hl_dd st k) : ∃ x y s, st = .double y :: .double x :: s ∧ k x y s := by
  unfold hl_dd at h
  split at h
  · exact ⟨_, _, _, rfl, h⟩
  · exact h.elim
theorem hl_d1_spec {st : List Value} {k : UInt64 → List Value → Prop} (h : hl_d1 st k) : ∃ x s, st = .double x :: s ∧ k x s := by
  unfold hl_d1 at h
  split at h
  · exact ⟨_, _, rfl, h⟩
  · exact h.elim
theorem hl_r1_spec {st : List Value} {k : Nat → List Value → Prop} (h : hl_r1 st k) : ∃ a s, st = .ref a :: s ∧ k a s := by
  unfold hl_r1 at h
  split at h
  · exact ⟨_, _, rfl, h⟩
  · exact h.elim
theorem hl_rv_spec {st : List Value} {k : Value → List Value → Prop} (h : hl_rv st k) : (∃ a s, st = .ref a :: s ∧ k (.ref a) s) ∨ ∃ s, st = .null :: s ∧ k .null s := by
  unfold hl_rv at h
  split at h
  · exact Or.inl ⟨_, _, rfl, h⟩
  · exact Or.inr ⟨_, rfl, h⟩
  · exact h.elim
theorem hl_n1_spec {st : List Value} {kn k : List Value → Prop} (h : hl_n1 st kn k) : (∃ a s, st = .ref a :: s ∧ k s) ∨ ∃ s, st = .null :: s ∧ kn s := by
  unfold hl_n1 at h
  split at h
  · exact Or.inl ⟨_, _, rfl, h⟩
  · exact Or.inr ⟨_, rfl, h⟩
  · exact h.elim
theorem hl_v1_spec {st : List Value} {k : Value → List Value → Prop} (h : hl_v1 st k) : ∃ v s, st = v :: s ∧ v.category = 1 ∧ k v s := by
  unfold hl_v1 at h
  split at h
  · exact ⟨_, _, rfl, h⟩
  · exact h.elim
theorem hl_a1_spec {st : List Value} {k : Int32 → Nat → List Value → Prop} (h : hl_a1 st k) : ∃ i a s, st = .int i :: .ref a :: s ∧ k i a s := by
  unfold hl_a1 at h
  split at h
  · exact ⟨_, _, _, rfl, h⟩
  · exact h.elim
theorem hl_d2_spec {st : List Value} {k : List Value → Prop} (h : hl_d2 st k) : (∃ x s, st = .long x :: s ∧ k (.long x :: .long x :: s)) ∨ ∃ i a s, st = .int i :: .ref a :: s ∧ k (.int i :: .ref a :: .int i :: .ref a :: s) := by
  unfold hl_d2 at h
  split at h
  · exact Or.inl ⟨_, _, rfl, h⟩
  · exact Or.inr ⟨_, _, _, rfl, h⟩
  · exact h.elim
theorem hl_ri_spec {o : Option Value} {k : Int32 → Prop} (h : hl_ri o k) : ∃ x, o = some (.int x) ∧ k x := by
  unfold hl_ri at h
  split at h
  · exact ⟨_, rfl, h⟩
  · exact h.elim
theorem hl_rl_spec {o : Option Value} {k : Int64 → Prop} (h : hl_rl o k) : ∃ x, o = some (.long x) ∧ k x := by
  unfold hl_rl at h
  split at h
  · exact ⟨_, rfl, h⟩
  · exact h.elim
theorem hl_rg_spec {o : Option Value} {k : UInt32 → Prop} (h : hl_rg o k) : ∃ x, o = some (.float x) ∧ k x := by
  unfold hl_rg at h
  split at h
  · exact ⟨_, rfl, h⟩
  · exact h.elim
theorem hl_rd8_spec {o : Option Value} {k : UInt64 → Prop} (h : hl_rd8 o k) : ∃ x, o = some (.double x) ∧ k x := by
  unfold hl_rd8 at h
  split at h
  · exact ⟨_, rfl, h⟩
  · exact h.elim
theorem hl_rr_spec {o : Option Value} {k : Value → Prop} (h : hl_rr o k) : (∃ a, o = some (.ref a) ∧ k (.ref a)) ∨ (o = some .null ∧ k .null) := by
  unfold hl_rr at h
  split at h
  · exact Or.inl ⟨_, rfl, h⟩
  · exact Or.inr ⟨rfl, h⟩
  · exact h.elim
theorem hl_gf_spec {o : Option hl_C} {t u : Nat} {k : Value → Prop} (h : hl_gf o t u k) : ∃ fs v, o = some (.inr (t, fs)) ∧ fs[u]? = some v ∧ k v := by
  unfold hl_gf at h
  split at h
  · obtain ⟨rfl, h⟩ := h
    split at h
    · exact ⟨_, _, rfl, by assumption, h⟩
    · exact h.elim
  · exact h.elim
theorem hl_ia_spec {o : Option hl_C} {i : Int32} {k : Int32 → Prop} (h : hl_ia o i k) : ∃ n f, o = some (.inl (n, .inl f)) ∧ vp_in i n ∧ k (f i.toNatClampNeg) := by
  unfold hl_ia at h
  split at h
  · exact ⟨_, _, rfl, h⟩
  · exact h.elim
theorem hl_la_spec {o : Option hl_C} {i : Int32} {k : Int64 → Prop} (h : hl_la o i k) : ∃ n f, o = some (.inl (n, .inr (.inl f))) ∧ vp_in i n ∧ k (f i.toNatClampNeg) := by
  unfold hl_la at h
  split at h
  · exact ⟨_, _, rfl, h⟩
  · exact h.elim
theorem hl_da_spec {o : Option hl_C} {i : Int32} {k : UInt64 → Prop} (h : hl_da o i k) : ∃ n f, o = some (.inl (n, .inr (.inr (.inr (.inl f))))) ∧ vp_in i n ∧ k (f i.toNatClampNeg) := by
  unfold hl_da at h
  split at h
  · exact ⟨_, _, rfl, h⟩
  · exact h.elim
theorem hl_qa_spec {o : Option hl_C} {i : Int32} {k : Value → Prop} (h : hl_qa o i k) : ∃ n f, o = some (.inl (n, .inr (.inr (.inr (.inr f))))) ∧ vp_in i n ∧ k (va_rf (f i.toNatClampNeg)) := by
  unfold hl_qa at h
  split at h
  · exact ⟨_, _, rfl, h⟩
  · exact h.elim
theorem hl_al_spec {o : Option hl_C} {k : Int32 → Prop} (h : hl_al o k) : ∃ x : vp_A, o = some (.inl x) ∧ k (Int32.ofNat x.1) := by
  unfold hl_al at h
  split at h
  · exact ⟨_, rfl, h⟩
  · exact h.elim
theorem hl_is_spec {st : List Value} {h : hl_H} {k : List Value → hl_H → Prop} (q : hl_is st h k) : ∃ x i a s n f, st = .int x :: .int i :: .ref a :: s ∧ h a = some (.inl (n, .inl f)) ∧ vp_in i n ∧ k s (hl_set h a (.inl (n, .inl (upd f i.toNatClampNeg x)))) := by
  unfold hl_is at q
  split at q
  · split at q
    · exact ⟨_, _, _, _, _, _, rfl, by assumption, q⟩
    · exact q.elim
  · exact q.elim
theorem hl_ls_spec {st : List Value} {h : hl_H} {k : List Value → hl_H → Prop} (q : hl_ls st h k) : ∃ x i a s n f, st = .long x :: .int i :: .ref a :: s ∧ h a = some (.inl (n, .inr (.inl f))) ∧ vp_in i n ∧ k s (hl_set h a (.inl (n, .inr (.inl (vp_updL f i.toNatClampNeg x))))) := by
  unfold hl_ls at q
  split at q
  · split at q
    · exact ⟨_, _, _, _, _, _, rfl, by assumption, q⟩
    · exact q.elim
  · exact q.elim
theorem hl_ds_spec {st : List Value} {h : hl_H} {k : List Value → hl_H → Prop} (q : hl_ds st h k) : ∃ x i a s n f, st = .double x :: .int i :: .ref a :: s ∧ h a = some (.inl (n, .inr (.inr (.inr (.inl f))))) ∧ vp_in i n ∧ k s (hl_set h a (.inl (n, .inr (.inr (.inr (.inl (vf_upd f i.toNatClampNeg x))))))) := by
  unfold hl_ds at q
  split at q
  · split at q
    · exact ⟨_, _, _, _, _, _, rfl, by assumption, q⟩
    · exact q.elim
  · exact q.elim
theorem hl_qs_spec {st : List Value} {h : hl_H} {k : List Value → hl_H → Prop} (q : hl_qs st h k) : ∃ b i a s n f vs, st = .ref b :: .int i :: .ref a :: s ∧ h a = some (.inl (n, .inr (.inr (.inr (.inr f))))) ∧ vp_in i n ∧ h b = some (.inr (4, vs)) ∧ k s (hl_set h a (.inl (n, .inr (.inr (.inr (.inr (va_up f i.toNatClampNeg (some b)))))))) := by
  unfold hl_qs at q
  split at q
  · split at q
    · obtain ⟨q1, ⟨vs, q2⟩, q3⟩ := q
      exact ⟨_, _, _, _, _, _, vs, rfl, by assumption, q1, q2, q3⟩
    · exact q.elim
  · exact q.elim
theorem hl_pf_spec {st : List Value} {h : hl_H} {t u : Nat} {c : Int32} {k : List Value → hl_H → Prop} (q : hl_pf st h t u c k) : ∃ v a s fs, st = v :: .ref a :: s ∧ h a = some (.inr (t, fs)) ∧ u < fs.length ∧ ((∃ x, v = .int x ∧ (c = 0 ∨ (c = 2 ∧ narrow .char (.int x) = .int x ∧ fits .char (.int x) = true))) ∨ (∃ b, v = .ref b ∧ c = 1)) ∧ k s (hl_set h a (.inr (t, fs.set u v))) := by
  unfold hl_pf at q
  split at q
  · split at q
    · obtain ⟨rfl, q1, q2, q3⟩ := q
      exact ⟨_, _, _, _, rfl, by assumption, q1, Or.inl ⟨_, rfl, q2⟩, q3⟩
    · exact q.elim
  · split at q
    · obtain ⟨rfl, q1, q2, q3⟩ := q
      exact ⟨_, _, _, _, rfl, by assumption, q1, Or.inr ⟨_, rfl, q2⟩, q3⟩
    · exact q.elim
  · exact q.elim
section RUN
variable {p : Program} {l : Launch} {e : Env} {R : Room} {s : State} {m : MethodId} {args : Array Value} {below : List Frame} {meth : Method} {c : Code} {Qf : State → Prop}
theorem hl_by {ws : List Jvm.Cond} (ps : List Nat) (h : ws = ps.filterMap (fun i => lw_tbl[i]?)) (hg : ws.all goodWord = true) : ∀ w ∈ ws, w ∈ hl_T := by
  intro w hw
  have h2 := List.all_eq_true.mp hg w hw
  rw [h] at hw
  obtain ⟨i, -, hi⟩ := List.mem_filterMap.mp hw
  exact hl_T_of hi h2
theorem hl_iX0 : ∀ w ∈ wsX00, w ∈ hl_T := hl_by [218, 220, 222, 224] (by decide +kernel) (by decide +kernel)
theorem hl_iX1 : ∀ w ∈ wsX10, w ∈ hl_T := hl_by [114, 116, 118, 120, 122, 124, 126] (by decide +kernel) (by decide +kernel)
theorem hl_iX2 : ∀ w ∈ wsX20, w ∈ hl_T := hl_by [580, 582, 584, 586, 588, 590, 592, 594] (by decide +kernel) (by decide +kernel)
theorem hl_iX3 : ∀ w ∈ wsX30, w ∈ hl_T := hl_by [189, 191, 193, 195, 197, 199] (by decide +kernel) (by decide +kernel)
theorem hl_iX4 : ∀ w ∈ wsX40, w ∈ hl_T := hl_by [152, 154, 156, 158, 160, 162, 164, 166] (by decide +kernel) (by decide +kernel)
theorem hl_iX5 : ∀ w ∈ wsX50, w ∈ hl_T := hl_by [237, 239] (by decide +kernel) (by decide +kernel)
theorem hl_iX6 : ∀ w ∈ wsX60, w ∈ hl_T := hl_by [91] (by decide +kernel) (by decide +kernel)
theorem hl_iX7 : ∀ w ∈ wsX70, w ∈ hl_T := hl_by [251, 253, 255, 257, 259, 261, 263] (by decide +kernel) (by decide +kernel)
theorem hl_iX8 : ∀ w ∈ wsX80, w ∈ hl_T := hl_by [997, 999, 1001, 1003, 1005, 1007, 1009, 1011, 1013, 1015, 1017, 1019, 1021, 1023, 1025, 1027, 1029, 1031, 1033, 1035, 1037, 1039, 1041, 1043, 1045, 1047, 1049, 1051, 1053, 1055, 1057, 1059] (by decide +kernel) (by decide +kernel)
theorem hl_in {t : Nat} {C : String} {T : u_T} {N : Nat} (h : vwCl[t]? = some (C, T, N)) (ht : 2 ≤ t) : ∀ w ∈ u_ws C T N, w ∈ hl_T := by
  match t, h, ht with
  | 2, h, _ => cases h; exact hl_iX0
  | 3, h, _ => cases h; exact hl_iX1
  | 4, h, _ => cases h; exact hl_iX2
  | 5, h, _ => cases h; exact hl_iX3
  | 6, h, _ => cases h; exact hl_iX4
  | 7, h, _ => cases h; exact hl_iX5
  | 8, h, _ => cases h; exact hl_iX6
  | 9, h, _ => cases h; exact hl_iX7
  | 10, h, _ => cases h; exact hl_iX8
  | t + 11, h, _ => simp [vwCl] at h
theorem hl_inst {t : Nat} {C : String} {T : u_T} {N : Nat} (h : vwCl[t]? = some (C, T, N)) (ht : 2 ≤ t) : Jvm.Cond.instantiable C N ∈ hl_T ∧ Jvm.Cond.initialized C ∈ hl_T := by
  match t, h, ht with
  | 2, h, _ => cases h; exact ⟨hl_T_of (k := 203) (by decide +kernel) rfl, hl_T_of (k := 54) (by decide +kernel) rfl⟩
  | 3, h, _ => cases h; exact ⟨hl_T_of (k := 79) (by decide +kernel) rfl, hl_T_of (k := 50) (by decide +kernel) rfl⟩
  | 4, h, _ => cases h; exact ⟨hl_T_of (k := 564) (by decide +kernel) rfl, hl_T_of (k := 66) (by decide +kernel) rfl⟩
  | 5, h, _ => cases h; exact ⟨hl_T_of (k := 170) (by decide +kernel) rfl, hl_T_of (k := 53) (by decide +kernel) rfl⟩
  | 6, h, _ => cases h; exact ⟨hl_T_of (k := 130) (by decide +kernel) rfl, hl_T_of (k := 52) (by decide +kernel) rfl⟩
  | 7, h, _ => cases h; exact ⟨hl_T_of (k := 228) (by decide +kernel) rfl, hl_T_of (k := 55) (by decide +kernel) rfl⟩
  | 8, h, _ => cases h; exact ⟨hl_T_of (k := 85) (by decide +kernel) rfl, hl_T_of (k := 51) (by decide +kernel) rfl⟩
  | 9, h, _ => cases h; exact ⟨hl_T_of (k := 71) (by decide +kernel) rfl, hl_T_of (k := 49) (by decide +kernel) rfl⟩
  | 10, h, _ => cases h; exact ⟨hl_T_of (k := 960) (by decide +kernel) rfl, hl_T_of (k := 56) (by decide +kernel) rfl⟩
  | t + 11, h, _ => simp [vwCl] at h
theorem hl_oi1 : Jvm.Cond.instanceMethod objectInit ∈ hl_T := hl_T_of (k := 76) (by decide +kernel) rfl
theorem hl_oi2 : Jvm.Cond.code objectInit ⟨#[0xb1]⟩ 1 none ∈ hl_T := hl_T_of (k := 77) (by decide +kernel) rfl
theorem hl_fw_0 {own : String} {n k : Nat} {d : Int64} {q : String × String × String × Bool} (h : hl_fw own n k d q = true) (hd : d = 0) : lw_tbl[k]? = some (Jvm.Cond.fieldLink own n q.1 q.2.1 q.2.2.1) := by
  unfold hl_fw at h
  rw [if_pos hd] at h
  exact of_decide_eq_true h
theorem hl_fw_1 {own : String} {n k : Nat} {d : Int64} {q : String × String × String × Bool} (h : hl_fw own n k d q = true) (hd : ¬ d = 0) : lw_tbl[k]? = some (Jvm.Cond.fieldLinkNest own n q.1 q.2.1 q.2.2.1 "LedgerStream") := by
  unfold hl_fw at h
  rw [if_neg hd] at h
  exact of_decide_eq_true h
set_option maxHeartbeats 4000000 in
set_option maxRecDepth 100000 in
theorem hl_run {G : hl_G} {cc : ByteArray} {nL : Nat} {own : String} {ini : Bool} (hX : hl_X G cc nL own p R s m args c) (hini : ini = true → meth.name = "<init>") :
    ∀ (r : List hl_I), hl_ok cc own nL ini r = true → ∀ (nf pc : Nat) (lv : List (Nat × Value)) (st : List Value) (h : hl_H) (ce sl : Nat), r.head?.map (fun q => q.1) = some pc → hl_wp (hl_Go G nL p l e R s m args below meth c Qf) R.cells R.slots r nf lv st h ce sl → hl_Go G nL p l e R s m args below meth c Qf pc lv st h ce sl := by
  obtain ⟨hx, hb, hml, hown, hts, hE, hS0, hRf, hRl⟩ := hX
  have hA : ∀ q : Nat, s.heap.size ≤ q → hl_A G q := fun q h => Nat.le_trans hS0.1 h
  intro r
  induction r with
  | nil => intro _ n pc lv st h ce sl hh; cases hh
  | cons q r ih =>
    obtain ⟨pc0, t, u, k9, c9, d, i⟩ := q
    intro hok nf pc lv st h ce sl hh hw
    have hpc : pc0 = pc := Option.some.inj hh
    subst hpc
    cases nf with
    | zero => exact hw
    | succ nf =>
      simp only [hl_ok, Bool.and_eq_true, decide_eq_true_eq] at hok
      obtain ⟨⟨⟨hd, ok⟩, hnx⟩, hok2⟩ := hok
      have nx : ∀ (lv' : List (Nat × Value)) (st' : List Value) (h' : hl_H) (ce' sl' : Nat), hl_wp (hl_Go G nL p l e R s m args below meth c Qf) R.cells R.slots r nf lv' st' h' ce' sl' → hl_Go G nL p l e R s m args below meth c Qf (pc0 + hl_len i) lv' st' h' ce' sl' := by
        intro lv' st' h' ce' sl' k
        cases r with
        | nil => exact k.elim
        | cons q2 r2 =>
          refine ih hok2 nf _ lv' st' h' ce' sl' ?_ k
          have e9 : q2.1 = pc0 + hl_len i := by simpa using hnx
          simp [e9]
      intro H locs ls hP hS hl
      cases i with
      | iload_n k =>
        obtain ⟨x, hr, hw⟩ := hl_ri_spec hw
        exact lv_iload_n hx hb hd (by simpa [hl_ok1] using ok) (hl_rd_at hl hr) (nx _ _ _ _ _ hw H locs ls hP hS hl)
      | iload k =>
        have hk : k = u := by simpa [hl_ok1] using ok
        subst hk
        obtain ⟨x, hr, hw⟩ := hl_ri_spec hw
        exact lv_iload hx hb hd (hl_rd_at hl hr) (nx _ _ _ _ _ hw H locs ls hP hS hl)
      | lload_n k =>
        obtain ⟨x, hr, hw⟩ := hl_rl_spec hw
        exact lv_lload_n hx hb hd (by simpa [hl_ok1] using ok) (hl_rd_at hl hr) (nx _ _ _ _ _ hw H locs ls hP hS hl)
      | lload k =>
        have hk : k = u := by simpa [hl_ok1] using ok
        subst hk
        obtain ⟨x, hr, hw⟩ := hl_rl_spec hw
        exact lv_lload hx hb hd (hl_rd_at hl hr) (nx _ _ _ _ _ hw H locs ls hP hS hl)
      | fload k =>
        have hk : k = u := by simpa [hl_ok1] using ok
        subst hk
        obtain ⟨x, hr, hw⟩ := hl_rg_spec hw
        exact lv_fload hx hb hd (hl_rd_at hl hr) (nx _ _ _ _ _ hw H locs ls hP hS hl)
      | dload k =>
        have hk : k = u := by simpa [hl_ok1] using ok
        subst hk
        obtain ⟨x, hr, hw⟩ := hl_rd8_spec hw
        exact lv_dload hx hb hd (hl_rd_at hl hr) (nx _ _ _ _ _ hw H locs ls hP hS hl)
      | aload_n k =>
        simp only [hl_wp] at hw
        rcases hl_rr_spec hw with ⟨a, hr, hw⟩ | ⟨hr, hw⟩
        · exact lv_aload_n hx hb hd (by simpa [hl_ok1] using ok) (hl_rd_at hl hr) (nx _ _ _ _ _ hw H locs ls hP hS hl)
        · exact lv_aload_nN hx hb hd (by simpa [hl_ok1] using ok) (hl_rd_at hl hr) (nx _ _ _ _ _ hw H locs ls hP hS hl)
      | aload k =>
        have hk : k = u := by simpa [hl_ok1] using ok
        subst hk
        simp only [hl_wp] at hw
        rcases hl_rr_spec hw with ⟨a, hr, hw⟩ | ⟨hr, hw⟩
        · exact lv_aload hx hb hd (hl_rd_at hl hr) (nx _ _ _ _ _ hw H locs ls hP hS hl)
        · exact lv_aloadN hx hb hd (hl_rd_at hl hr) (nx _ _ _ _ _ hw H locs ls hP hS hl)
      | istore_n k =>
        obtain ⟨x, s1, rfl, hw⟩ := hl_i1_spec hw
        have ok2 : k.val = u ∧ u < nL := by simpa [hl_ok1] using ok
        exact lv_istore_n (lv' := (u, .int x) :: hl_f1 u lv) hx hb hd ok2.1 hl ok2.2 (by rw [hl_f1_eq]) (fun ls' hl' => nx _ _ _ _ _ hw H locs ls' hP hS (hl_ins_has hl'))
      | istore k =>
        have ok2 : k = u ∧ u < nL := by simpa [hl_ok1] using ok
        obtain ⟨hk, hn⟩ := ok2
        subst hk
        obtain ⟨x, s1, rfl, hw⟩ := hl_i1_spec hw
        exact lv_istore (lv' := (k, .int x) :: hl_f1 k lv) hx hb hd hl hn (by rw [hl_f1_eq]) (fun ls' hl' => nx _ _ _ _ _ hw H locs ls' hP hS (hl_ins_has hl'))
      | astore_n k =>
        have ok2 : k.val = u ∧ u < nL := by simpa [hl_ok1] using ok
        simp only [hl_wp] at hw
        rcases hl_rv_spec hw with ⟨x, s1, rfl, hw4⟩ | ⟨s1, rfl, hw4⟩
        · exact lv_astore_n (lv' := (u, .ref x) :: hl_f1 u lv) hx hb hd ok2.1 hl ok2.2 (by rw [hl_f1_eq]) (fun ls' hl' => nx _ _ _ _ _ hw4 H locs ls' hP hS (hl_ins_has hl'))
        · exact lv_astore_nN (lv' := (u, .null) :: hl_f1 u lv) hx hb hd ok2.1 hl ok2.2 (by rw [hl_f1_eq]) (fun ls' hl' => nx _ _ _ _ _ hw4 H locs ls' hP hS (hl_ins_has hl'))
      | astore k =>
        have ok2 : k = u ∧ u < nL := by simpa [hl_ok1] using ok
        obtain ⟨hk, hn⟩ := ok2
        subst hk
        simp only [hl_wp] at hw
        rcases hl_rv_spec hw with ⟨x, s1, rfl, hw4⟩ | ⟨s1, rfl, hw4⟩
        · exact lv_astore (lv' := (k, .ref x) :: hl_f1 k lv) hx hb hd hl hn (by rw [hl_f1_eq]) (fun ls' hl' => nx _ _ _ _ _ hw4 H locs ls' hP hS (hl_ins_has hl'))
        · exact lv_astoreN (lv' := (k, .null) :: hl_f1 k lv) hx hb hd hl hn (by rw [hl_f1_eq]) (fun ls' hl' => nx _ _ _ _ _ hw4 H locs ls' hP hS (hl_ins_has hl'))
      | fstore k =>
        have ok2 : k = u ∧ u < nL := by simpa [hl_ok1] using ok
        obtain ⟨hk, hn⟩ := ok2
        subst hk
        obtain ⟨x, s1, rfl, hw⟩ := hl_g1_spec hw
        exact lv_fstore (lv' := (k, .float x) :: hl_f1 k lv) hx hb hd hl hn (by rw [hl_f1_eq]) (fun ls' hl' => nx _ _ _ _ _ hw H locs ls' hP hS (hl_ins_has hl'))
      | lstore_n k =>
        obtain ⟨x, s1, rfl, hw⟩ := hl_l1_spec hw
        have ok2 : k.val = u ∧ u + 1 < nL := by simpa [hl_ok1] using ok
        exact lv_lstore_n (lv' := (u, .long x) :: hl_f2 u lv) hx hb hd ok2.1 hl ok2.2 (by rw [hl_f2_eq]) (fun ls' hl' => nx _ _ _ _ _ hw H locs ls' hP hS (hl_ins_has hl'))
      | lstore k =>
        have ok2 : k = u ∧ u + 1 < nL := by simpa [hl_ok1] using ok
        obtain ⟨hk, hn⟩ := ok2
        subst hk
        obtain ⟨x, s1, rfl, hw⟩ := hl_l1_spec hw
        exact lv_lstore (lv' := (k, .long x) :: hl_f2 k lv) hx hb hd hl hn (by rw [hl_f2_eq]) (fun ls' hl' => nx _ _ _ _ _ hw H locs ls' hP hS (hl_ins_has hl'))
      | dstore k =>
        have ok2 : k = u ∧ u + 1 < nL := by simpa [hl_ok1] using ok
        obtain ⟨hk, hn⟩ := ok2
        subst hk
        obtain ⟨x, s1, rfl, hw⟩ := hl_d1_spec hw
        exact lv_dstore (lv' := (k, .double x) :: hl_f2 k lv) hx hb hd hl hn (by rw [hl_f2_eq]) (fun ls' hl' => nx _ _ _ _ _ hw H locs ls' hP hS (hl_ins_has hl'))
      | iinc k n =>
        have ok2 : (k = u ∧ Int32.ofInt n = c9) ∧ u < nL := by simpa [hl_ok1] using ok
        obtain ⟨⟨hk, hc⟩, hn⟩ := ok2
        subst hk
        obtain ⟨x, hr, hw⟩ := hl_ri_spec hw
        obtain ⟨j, hj⟩ := hl_rd_ix hr
        exact lv_iinc (v := x + c9) (lv' := (k, .int (x + c9)) :: hl_f1 k lv) hx hb hd hl hj (by rw [hc]) hn (by rw [hl_f1_eq]) (fun ls' hl' => nx _ _ _ _ _ hw H locs ls' hP hS (hl_ins_has hl'))
      | iconst n => exact lv_iconst hx hb hd (by simpa [hl_ok1] using ok) (nx _ _ _ _ _ hw H locs ls hP hS hl)
      | bipush n => exact lv_bipush hx hb hd (by simpa [hl_ok1] using ok) (nx _ _ _ _ _ hw H locs ls hP hS hl)
      | sipush n => exact lv_sipush hx hb hd (by simpa [hl_ok1] using ok) (nx _ _ _ _ _ hw H locs ls hP hS hl)
      | ldc n =>
        by_cases ht : t = 999
        · simp only [hl_wp, if_pos ht] at hw
          exact hw H locs ls hP hS hl
        · simp only [hl_wp, if_neg ht] at hw
          simp only [hl_ok1, Bool.or_eq_true, beq_iff_eq] at ok
          exact lv_ldc hx hb hown (hts _ (hl_w_T (ok.resolve_left ht))) hd (nx _ _ _ _ _ hw H locs ls hP hS hl)
      | ldc_w n =>
        by_cases ht : t = 999
        · simp only [hl_wp, if_pos ht] at hw
          exact hw H locs ls hP hS hl
        · simp only [hl_wp, if_neg ht] at hw
          simp only [hl_ok1, Bool.or_eq_true, beq_iff_eq] at ok
          exact lv_ldcw hx hb hown (hts _ (hl_w_T (ok.resolve_left ht))) hd (nx _ _ _ _ _ hw H locs ls hP hS hl)
      | lconst n => exact lv_lconst hx hb hd (of_decide_eq_true ok) (nx _ _ _ _ _ hw H locs ls hP hS hl)
      | ldc2_w n => exact lv_ldc2 hx hb hown (hts _ (hl_w_T ok)) hd (nx _ _ _ _ _ hw H locs ls hP hS hl)
      | fconst n =>
        have hn : n = 0 := Fin.ext (by simpa [hl_ok1] using ok)
        subst hn
        exact lv_fconst0 hx hb hd (nx _ _ _ _ _ hw H locs ls hP hS hl)
      | dconst n =>
        have hn : n = 0 := Fin.ext (by simpa [hl_ok1] using ok)
        subst hn
        exact lv_dconst0 hx hb hd (nx _ _ _ _ _ hw H locs ls hP hS hl)
      | aconst_null => exact lv_null hx hb hd (nx _ _ _ _ _ hw H locs ls hP hS hl)
      | iadd =>
        obtain ⟨x, y, s1, rfl, hw⟩ := hl_ii_spec hw
        exact lv_iadd hx hb hd (nx _ _ _ _ _ hw H locs ls hP hS hl)
      | isub =>
        obtain ⟨x, y, s1, rfl, hw⟩ := hl_ii_spec hw
        exact lv_isub hx hb hd (nx _ _ _ _ _ hw H locs ls hP hS hl)
      | imul =>
        obtain ⟨x, y, s1, rfl, hw⟩ := hl_ii_spec hw
        exact lv_imul hx hb hd (nx _ _ _ _ _ hw H locs ls hP hS hl)
      | iand =>
        obtain ⟨x, y, s1, rfl, hw⟩ := hl_ii_spec hw
        exact lv_iand hx hb hd (nx _ _ _ _ _ hw H locs ls hP hS hl)
      | ineg =>
        obtain ⟨x, s1, rfl, hw⟩ := hl_i1_spec hw
        exact lv_ineg hx hb hd (nx _ _ _ _ _ hw H locs ls hP hS hl)
      | ladd =>
        obtain ⟨x, y, s1, rfl, hw⟩ := hl_ll_spec hw
        exact lv_ladd hx hb hd (nx _ _ _ _ _ hw H locs ls hP hS hl)
      | lsub =>
        obtain ⟨x, y, s1, rfl, hw⟩ := hl_ll_spec hw
        exact lv_lsub hx hb hd (nx _ _ _ _ _ hw H locs ls hP hS hl)
      | lmul =>
        obtain ⟨x, y, s1, rfl, hw⟩ := hl_ll_spec hw
        exact lv_lmul hx hb hd (nx _ _ _ _ _ hw H locs ls hP hS hl)
      | ldiv =>
        obtain ⟨x, y, s1, rfl, hne, hw⟩ := hl_ll_spec hw
        exact lv_ldiv hx hb hd hne (nx _ _ _ _ _ hw H locs ls hP hS hl)
      | lneg =>
        obtain ⟨x, s1, rfl, hw⟩ := hl_l1_spec hw
        exact lv_lneg hx hb hd (nx _ _ _ _ _ hw H locs ls hP hS hl)
      | i2l =>
        obtain ⟨x, s1, rfl, hw⟩ := hl_i1_spec hw
        exact lv_i2l hx hb hd rfl (nx _ _ _ _ _ hw H locs ls hP hS hl)
      | l2i =>
        obtain ⟨x, s1, rfl, hw⟩ := hl_l1_spec hw
        exact lv_l2i hx hb hd rfl (nx _ _ _ _ _ hw H locs ls hP hS hl)
      | i2c =>
        obtain ⟨x, s1, rfl, hw⟩ := hl_i1_spec hw
        exact lv_i2c hx hb hd rfl (nx _ _ _ _ _ hw H locs ls hP hS hl)
      | i2f =>
        obtain ⟨x, s1, rfl, hw⟩ := hl_i1_spec hw
        exact lv_i2f hx hb hd (nx _ _ _ _ _ hw H locs ls hP hS hl)
      | i2d =>
        obtain ⟨x, s1, rfl, hw⟩ := hl_i1_spec hw
        exact lv_i2d hx hb hd (nx _ _ _ _ _ hw H locs ls hP hS hl)
      | l2d =>
        obtain ⟨x, s1, rfl, hw⟩ := hl_l1_spec hw
        exact lv_l2d hx hb hd (nx _ _ _ _ _ hw H locs ls hP hS hl)
      | f2d =>
        obtain ⟨x, s1, rfl, hne, hw⟩ := hl_g1_spec hw
        exact lv_f2d hx hb hd hne (nx _ _ _ _ _ hw H locs ls hP hS hl)
      | fdiv =>
        obtain ⟨x, y, s1, rfl, hne, hw⟩ := hl_ff_spec hw
        exact lv_fdiv hx hb hd hne (nx _ _ _ _ _ hw H locs ls hP hS hl)
      | ddiv =>
        obtain ⟨x, y, s1, rfl, hne, hw⟩ := hl_dd_spec hw
        exact lv_ddiv hx hb hd hne (nx _ _ _ _ _ hw H locs ls hP hS hl)
      | lcmp =>
        obtain ⟨x, y, s1, rfl, hw⟩ := hl_ll_spec hw
        exact W.lcmp hx hb hd (nx _ _ _ _ _ hw H locs ls hP hS hl)
      | fcmp op =>
        obtain ⟨x, y, s1, rfl, hw⟩ := hl_ff_spec hw
        exact lv_fcmp hx hb hd (nx _ _ _ _ _ hw H locs ls hP hS hl)
      | dcmp op =>
        obtain ⟨x, y, s1, rfl, hw⟩ := hl_dd_spec hw
        exact lv_dcmp hx hb hd (nx _ _ _ _ _ hw H locs ls hP hS hl)
      | dup =>
        obtain ⟨v, s1, rfl, hv, hw⟩ := hl_v1_spec hw
        exact lv_dup hx hb hd hv (nx _ _ _ _ _ hw H locs ls hP hS hl)
      | dup2 =>
        simp only [hl_wp] at hw
        rcases hl_d2_spec hw with ⟨x, s1, rfl, hw⟩ | ⟨x, a, s1, rfl, hw⟩
        · exact lv_dup2_2 hx hb hd rfl (nx _ _ _ _ _ hw H locs ls hP hS hl)
        · exact lv_dup2_11 hx hb hd rfl rfl (nx _ _ _ _ _ hw H locs ls hP hS hl)
      | pop =>
        obtain ⟨v, s1, rfl, hv, hw⟩ := hl_v1_spec hw
        exact lv_pop hx hb hd hv (nx _ _ _ _ _ hw H locs ls hP hS hl)
      | ifCond cd off =>
        have ht : (pc0 : Int) + off = (t : Int) := of_decide_eq_true ok
        cases cd with
        | eq =>
          obtain ⟨x, s1, rfl, hw1, hw2⟩ := hl_i1_spec hw
          exact lv_if_eq hx hb hd ht (fun q => hw1 q H locs ls hP hS hl) (fun q => nx _ _ _ _ _ (hw2 q) H locs ls hP hS hl)
        | ne =>
          obtain ⟨x, s1, rfl, hw1, hw2⟩ := hl_i1_spec hw
          exact lv_if_ne hx hb hd ht (fun q => hw1 q H locs ls hP hS hl) (fun q => nx _ _ _ _ _ (hw2 q) H locs ls hP hS hl)
        | lt =>
          obtain ⟨x, s1, rfl, hw1, hw2⟩ := hl_i1_spec hw
          exact lv_if_lt hx hb hd ht (fun q => hw1 q H locs ls hP hS hl) (fun q => nx _ _ _ _ _ (hw2 q) H locs ls hP hS hl)
        | ge =>
          obtain ⟨x, s1, rfl, hw1, hw2⟩ := hl_i1_spec hw
          exact lv_if_ge hx hb hd ht (fun q => hw1 q H locs ls hP hS hl) (fun q => nx _ _ _ _ _ (hw2 q) H locs ls hP hS hl)
        | gt =>
          obtain ⟨x, s1, rfl, hw1, hw2⟩ := hl_i1_spec hw
          exact lv_if_gt hx hb hd ht (fun q => hw1 q H locs ls hP hS hl) (fun q => nx _ _ _ _ _ (hw2 q) H locs ls hP hS hl)
        | le =>
          obtain ⟨x, s1, rfl, hw1, hw2⟩ := hl_i1_spec hw
          exact lv_if_le hx hb hd ht (fun q => hw1 q H locs ls hP hS hl) (fun q => nx _ _ _ _ _ (hw2 q) H locs ls hP hS hl)
      | if_icmp cd off =>
        have ht : (pc0 : Int) + off = (t : Int) := of_decide_eq_true ok
        cases cd with
        | eq =>
          obtain ⟨x, y, s1, rfl, hw1, hw2⟩ := hl_ii_spec hw
          exact lv_icmp_eq hx hb hd ht (fun q => hw1 q H locs ls hP hS hl) (fun q => nx _ _ _ _ _ (hw2 q) H locs ls hP hS hl)
        | ne =>
          obtain ⟨x, y, s1, rfl, hw1, hw2⟩ := hl_ii_spec hw
          exact lv_icmp_ne hx hb hd ht (fun q => hw1 q H locs ls hP hS hl) (fun q => nx _ _ _ _ _ (hw2 q) H locs ls hP hS hl)
        | lt =>
          obtain ⟨x, y, s1, rfl, hw1, hw2⟩ := hl_ii_spec hw
          exact lv_icmp_lt hx hb hd ht (fun q => hw1 q H locs ls hP hS hl) (fun q => nx _ _ _ _ _ (hw2 q) H locs ls hP hS hl)
        | ge =>
          obtain ⟨x, y, s1, rfl, hw1, hw2⟩ := hl_ii_spec hw
          exact lv_icmp_ge hx hb hd ht (fun q => hw1 q H locs ls hP hS hl) (fun q => nx _ _ _ _ _ (hw2 q) H locs ls hP hS hl)
        | gt =>
          obtain ⟨x, y, s1, rfl, hw1, hw2⟩ := hl_ii_spec hw
          exact lv_icmp_gt hx hb hd ht (fun q => hw1 q H locs ls hP hS hl) (fun q => nx _ _ _ _ _ (hw2 q) H locs ls hP hS hl)
        | le =>
          obtain ⟨x, y, s1, rfl, hw1, hw2⟩ := hl_ii_spec hw
          exact lv_icmp_le hx hb hd ht (fun q => hw1 q H locs ls hP hS hl) (fun q => nx _ _ _ _ _ (hw2 q) H locs ls hP hS hl)
      | ifnull off =>
        have ht : (pc0 : Int) + off = (t : Int) := of_decide_eq_true ok
        simp only [hl_wp] at hw
        rcases hl_n1_spec hw with ⟨a, s1, rfl, hw⟩ | ⟨s1, rfl, hw⟩
        · exact lv_ifnull hx hb hd (nx _ _ _ _ _ hw H locs ls hP hS hl)
        · exact lv_ifnullN hx hb hd ht (hw H locs ls hP hS hl)
      | ifnonnull off =>
        have ht : (pc0 : Int) + off = (t : Int) := of_decide_eq_true ok
        simp only [hl_wp] at hw
        rcases hl_n1_spec hw with ⟨a, s1, rfl, hw⟩ | ⟨s1, rfl, hw⟩
        · exact lv_ifnonnull hx hb hd ht (hw H locs ls hP hS hl)
        · exact lv_ifnonnullN hx hb hd (nx _ _ _ _ _ hw H locs ls hP hS hl)
      | goto off =>
        have ht : (pc0 : Int) + off = (t : Int) := of_decide_eq_true ok
        exact lv_goto hx hb hd ht (hw H locs ls hP hS hl)
      | getfield n =>
        simp only [hl_wp] at hw
        obtain ⟨a, s1, rfl, hw⟩ := hl_r1_spec hw
        obtain ⟨fs, v, ha, hv, hw⟩ := hl_gf_spec hw
        simp only [hl_ok1] at ok
        obtain ⟨C, T, N, hq, hk⟩ := hl_cl_spec ok
        simp only [Bool.and_eq_true, decide_eq_true_eq] at hk
        obtain ⟨⟨h2, hu⟩, hlink⟩ := hk
        have hin := hl_in hq h2
        obtain ⟨w, hw1, hw2, hw3⟩ := id hP
        obtain ⟨k, hk2⟩ := hw1 a _ ha
        by_cases hd0 : d = 0
        · have hlink := hl_fw_0 hlink hd0
          exact va_get (D := G.1) hx hb hts hin hown hE.1 hw2 k hk2 hq u hu (hts _ (hl_T_of hlink rfl)) (fun _ h9 => h9) hv hd (nx _ _ _ _ _ hw H locs ls hP hS hl)
        · have hlink := hl_fw_1 hlink hd0
          exact va_getN (D := G.1) hx hb hts hin hown hE.1 hw2 k hk2 hq u hu (va_Nw.use rfl (hE.2.2.2.1 _ _ _ _ _ _ (List.mem_of_getElem? hlink))) (fun _ h9 => h9) hv hd (nx _ _ _ _ _ hw H locs ls hP hS hl)
      | putfield n =>
        simp only [hl_wp] at hw
        obtain ⟨v, a, s1, fs, rfl, ha, hlen, hv, hw⟩ := hl_pf_spec hw
        simp only [hl_ok1] at ok
        obtain ⟨C, T, N, hq, hk⟩ := hl_cl_spec ok
        simp only [Bool.and_eq_true, decide_eq_true_eq, Bool.or_eq_true, beq_iff_eq] at hk
        obtain ⟨⟨⟨⟨h2, hu⟩, hlink⟩, hfin⟩, hty⟩ := hk
        have hin := hl_in hq h2
        obtain ⟨w, hw1, hw2, hw3⟩ := id hP
        obtain ⟨k, hk2⟩ := hw1 a _ ha
        obtain ⟨ty0, ht1, ht2, -⟩ := hl_tab hq h2
        have hpf : ∃ ty, parseFieldDescriptor (T u).2.2.1 = some ty ∧ narrow ty v = v ∧ fits ty v = true := by
          split at hty
          · have hc : c9 = 0 := by simpa using hty
            rcases hv with ⟨x, rfl, -⟩ | ⟨b, rfl, hc1⟩
            · exact ⟨_, by assumption, rfl, rfl⟩
            · rw [hc] at hc1; exact absurd hc1 (by decide)
          · have hc : c9 = 1 := by simpa using hty
            rcases hv with ⟨x, rfl, hc1 | ⟨hc1, -⟩⟩ | ⟨b, rfl, hc1⟩
            · rw [hc] at hc1; exact absurd hc1 (by decide)
            · rw [hc] at hc1; exact absurd hc1 (by decide)
            · exact ⟨_, by assumption, rfl, rfl⟩
          · have hc : c9 = 1 := by simpa using hty
            rcases hv with ⟨x, rfl, hc1 | ⟨hc1, -⟩⟩ | ⟨b, rfl, hc1⟩
            · rw [hc] at hc1; exact absurd hc1 (by decide)
            · rw [hc] at hc1; exact absurd hc1 (by decide)
            · exact ⟨_, by assumption, rfl, rfl⟩
          · have hc : c9 = 2 := by simpa using hty
            rcases hv with ⟨x, rfl, hc1 | ⟨hc1, hn, hf⟩⟩ | ⟨b, rfl, hc1⟩
            · rw [hc] at hc1; exact absurd hc1 (by decide)
            · exact ⟨_, by assumption, hn, hf⟩
            · rw [hc] at hc1; exact absurd hc1 (by decide)
          · cases hty
        obtain ⟨ty, hp1, hp2, hp3⟩ := hpf
        by_cases hf : (T u).2.2.2 = false
        · by_cases hd0 : d = 0
          · have hlink := hl_fw_0 hlink hd0
            exact va_put (D := G.1) hx hb hts hin ty0 ht1 ht2 hown hE.1 hw2 hw3 hS k hk2 hq u hu (hts _ (hl_T_of hlink rfl)) (fun _ h9 => h9) hf hp1 hp2 hp3 hlen hd (fun H1 locs1 hP1 hD1 hS1 => nx _ _ _ _ _ hw H1 locs1 ls (hl_P.put (x := .inr (t, fs.set u v)) hw1 hk2 hw3 hP1 hD1) hS1 hl)
          · have hlink := hl_fw_1 hlink hd0
            exact va_putN (D := G.1) hx hb hts hin ty0 ht1 ht2 hown hE.1 hw2 hw3 hS k hk2 hq u hu (va_Nw.use rfl (hE.2.2.2.1 _ _ _ _ _ _ (List.mem_of_getElem? hlink))) (fun _ h9 => h9) hf hp1 hp2 hp3 hlen hd (fun H1 locs1 hP1 hD1 hS1 => nx _ _ _ _ _ hw H1 locs1 ls (hl_P.put (x := .inr (t, fs.set u v)) hw1 hk2 hw3 hP1 hD1) hS1 hl)
        · have hf2 : (ini = true ∧ (T u).1 = own) ∧ d = 0 := hfin.resolve_left hf
          have hlink := hl_fw_0 hlink hf2.2
          exact va_putF (D := G.1) hx hb hts hin ty0 ht1 ht2 hown hE.1 hw2 hw3 hS k hk2 hq u hu (hts _ (hl_T_of hlink rfl)) (fun _ h9 => h9) (by simpa using hf) (hini hf2.1.1) hf2.1.2 hp1 hp2 hp3 hlen hd (fun H1 locs1 hP1 hD1 hS1 => nx _ _ _ _ _ hw H1 locs1 ls (hl_P.put (x := .inr (t, fs.set u v)) hw1 hk2 hw3 hP1 hD1) hS1 hl)
      | iaload =>
        simp only [hl_wp] at hw
        obtain ⟨j, a, s1, rfl, hw4⟩ := hl_a1_spec hw
        obtain ⟨n, f, ha, hin, hw5⟩ := hl_ia_spec hw4
        obtain ⟨w, hw1, hw2, hw3⟩ := id hP
        obtain ⟨k, hk2⟩ := hw1 a _ ha
        exact va_iald (D := G.1) hx hb hE.1 hw2 k 0 hk2 rfl hin hd (nx _ _ _ _ _ hw5 H locs ls hP hS hl)
      | laload =>
        simp only [hl_wp] at hw
        obtain ⟨j, a, s1, rfl, hw4⟩ := hl_a1_spec hw
        obtain ⟨n, f, ha, hin, hw5⟩ := hl_la_spec hw4
        obtain ⟨w, hw1, hw2, hw3⟩ := id hP
        obtain ⟨k, hk2⟩ := hw1 a _ ha
        exact va_lald (D := G.1) hx hb hE.1 hw2 k 1 hk2 rfl hin hd (nx _ _ _ _ _ hw5 H locs ls hP hS hl)
      | daload =>
        simp only [hl_wp] at hw
        obtain ⟨j, a, s1, rfl, hw4⟩ := hl_a1_spec hw
        obtain ⟨n, f, ha, hin, hw5⟩ := hl_da_spec hw4
        obtain ⟨w, hw1, hw2, hw3⟩ := id hP
        obtain ⟨k, hk2⟩ := hw1 a _ ha
        exact va_dald (D := G.1) hx hb hE.1 hw2 k 2 hk2 rfl hin hd (nx _ _ _ _ _ hw5 H locs ls hP hS hl)
      | aaload =>
        simp only [hl_wp] at hw
        obtain ⟨j, a, s1, rfl, hw4⟩ := hl_a1_spec hw
        obtain ⟨n, f, ha, hin, hw5⟩ := hl_qa_spec hw4
        obtain ⟨w, hw1, hw2, hw3⟩ := id hP
        obtain ⟨k, hk2⟩ := hw1 a _ ha
        exact va_aldq (D := G.1) (C := RX2) hx hb hE.1 hw2 k 3 hk2 rfl hin hd (nx _ _ _ _ _ hw5 H locs ls hP hS hl)
      | arraylength =>
        simp only [hl_wp] at hw
        obtain ⟨a, s1, rfl, hw4⟩ := hl_r1_spec hw
        obtain ⟨x, ha, hw5⟩ := hl_al_spec hw4
        obtain ⟨w, hw1, hw2, hw3⟩ := id hP
        obtain ⟨k, hk2⟩ := hw1 a _ ha
        obtain ⟨n, f | f | f | f | f⟩ := x
        · exact va_alen (D := G.1) hx hb hE.1 hw2 k 0 hk2 rfl rfl hd (nx _ _ _ _ _ hw5 H locs ls hP hS hl)
        · exact va_alen (D := G.1) hx hb hE.1 hw2 k 1 hk2 rfl rfl hd (nx _ _ _ _ _ hw5 H locs ls hP hS hl)
        · exact va_alen (D := G.1) hx hb hE.1 hw2 k 0 hk2 rfl rfl hd (nx _ _ _ _ _ hw5 H locs ls hP hS hl)
        · exact va_alen (D := G.1) hx hb hE.1 hw2 k 2 hk2 rfl rfl hd (nx _ _ _ _ _ hw5 H locs ls hP hS hl)
        · exact va_alen (D := G.1) hx hb hE.1 hw2 k 3 hk2 rfl rfl hd (nx _ _ _ _ _ hw5 H locs ls hP hS hl)
      | iastore =>
        simp only [hl_wp] at hw
        obtain ⟨x, j, a, s1, n, f, rfl, ha, hin, hw⟩ := hl_is_spec hw
        obtain ⟨w, hw1, hw2, hw3⟩ := id hP
        obtain ⟨k, hk2⟩ := hw1 a _ ha
        exact va_iast (D := G.1) hx hb hE.1 hw2 hw3 hS k 0 hk2 rfl hin hd (fun H1 locs1 hP1 hD1 hS1 => nx _ _ _ _ _ hw H1 locs1 ls (hl_P.put (x := .inl (n, .inl (upd f j.toNatClampNeg x))) hw1 hk2 hw3 hP1 hD1) hS1 hl)
      | lastore =>
        simp only [hl_wp] at hw
        obtain ⟨x, j, a, s1, n, f, rfl, ha, hin, hw⟩ := hl_ls_spec hw
        obtain ⟨w, hw1, hw2, hw3⟩ := id hP
        obtain ⟨k, hk2⟩ := hw1 a _ ha
        exact va_last (D := G.1) hx hb hE.1 hw2 hw3 hS k 1 hk2 rfl hin hd (fun H1 locs1 hP1 hD1 hS1 => nx _ _ _ _ _ hw H1 locs1 ls (hl_P.put (x := .inl (n, .inr (.inl (vp_updL f j.toNatClampNeg x)))) hw1 hk2 hw3 hP1 hD1) hS1 hl)
      | dastore =>
        simp only [hl_wp] at hw
        obtain ⟨x, j, a, s1, n, f, rfl, ha, hin, hw⟩ := hl_ds_spec hw
        obtain ⟨w, hw1, hw2, hw3⟩ := id hP
        obtain ⟨k, hk2⟩ := hw1 a _ ha
        exact va_dast (D := G.1) hx hb hE.1 hw2 hw3 hS k 2 hk2 rfl hin hd (fun H1 locs1 hP1 hD1 hS1 => nx _ _ _ _ _ hw H1 locs1 ls (hl_P.put (x := .inl (n, .inr (.inr (.inr (.inl (vf_upd f j.toNatClampNeg x)))))) hw1 hk2 hw3 hP1 hD1) hS1 hl)
      | aastore =>
        simp only [hl_wp] at hw
        obtain ⟨b, j, a, s1, n, f, vs, rfl, ha, hin, hvs, hw⟩ := hl_qs_spec hw
        obtain ⟨w, hw1, hw2, hw3⟩ := id hP
        obtain ⟨k, hk2⟩ := hw1 a _ ha
        obtain ⟨k3, hk3⟩ := hw1 b _ hvs
        exact va_astq (D := G.1) (r := (RX2, TX2, 8)) hx hb hE.1 hw2 hw3 hS k 3 k3 4 hk2 rfl hk3 rfl hin hd (fun H1 locs1 hP1 hD1 hS1 => nx _ _ _ _ _ hw H1 locs1 ls (hl_P.put (x := .inl (n, .inr (.inr (.inr (.inr (va_up f j.toNatClampNeg (some b)))))) ) hw1 hk2 hw3 hP1 hD1) hS1 hl)
      | new n =>
        by_cases ht : t < 100
        · have hw : (if t < 100 then (ce + 1 ≤ R.cells ∧ sl + u ≤ R.slots ∧ ∀ q : Nat, h q = none → hl_wp (hl_Go G nL p l e R s m args below meth c Qf) R.cells R.slots r nf lv (.ref q :: st) (hl_set h q (.inr (t, hl_new t))) (ce + 1) (sl + u)) else hl_Go G nL p l e R s m args below meth c Qf pc0 lv st h ce sl) := hw
          rw [if_pos ht] at hw
          obtain ⟨hc, hs, hw⟩ := hw
          simp only [hl_ok1, Bool.or_eq_true, decide_eq_true_eq] at ok
          have ok := ok.resolve_left (by omega)
          obtain ⟨C, T, N, hq, hk⟩ := hl_cl_spec ok
          simp only [Bool.and_eq_true, decide_eq_true_eq, beq_iff_eq] at hk
          obtain ⟨⟨hN, h2⟩, hk1⟩ := hk
          subst hN
          have hin := hl_in hq h2
          obtain ⟨hk2, hk3⟩ := hl_inst hq h2
          obtain ⟨w, hw1, hw2, hw3⟩ := id hP
          obtain ⟨ty0, ht1, ht2, ht3⟩ := hl_tab hq h2
          exact va_new (D := G.1) hx hb hts hin ty0 ht1 hown (hts _ (hl_w_T hk1)) (hts _ hk2) (hts _ hk3) hE.1 hw2 hw3 hS hA hq ht3 hc hs hd (fun q H1 hP1 hD1 hS1 => by
            obtain ⟨hn, hP9⟩ := hl_P.push (x := .inr (t, hl_new t)) hw1 hP1 hD1
            exact nx _ _ _ _ _ (hw q hn) H1 locs ls hP9 hS1 hl)
        · have hw : (if t < 100 then (ce + 1 ≤ R.cells ∧ sl + u ≤ R.slots ∧ ∀ q : Nat, h q = none → hl_wp (hl_Go G nL p l e R s m args below meth c Qf) R.cells R.slots r nf lv (.ref q :: st) (hl_set h q (.inr (t, hl_new t))) (ce + 1) (sl + u)) else hl_Go G nL p l e R s m args below meth c Qf pc0 lv st h ce sl) := hw
          rw [if_neg ht] at hw
          exact hw H locs ls hP hS hl
      | newarray at9 =>
        by_cases ht9 : t = 9
        · simp only [hl_wp, if_pos ht9] at hw
          exact hw H locs ls hP hS hl
        simp only [hl_wp, if_neg ht9] at hw
        obtain ⟨n, s1, rfl, hnc, hc, hs, hw4⟩ := hl_i1_spec hw
        subst hnc
        simp only [hl_ok1, Bool.or_eq_true, beq_iff_eq, Bool.and_eq_true, decide_eq_true_eq] at ok
        have ok := ok.resolve_left ht9
        obtain ⟨⟨⟨⟨hk1, hk2⟩, hk3⟩, hk4⟩, hk5⟩ := ok
        subst hk3
        obtain ⟨w, hw1, hw2, hw3⟩ := id hP
        have hby : ∀ k : Nat, k ≤ 8 → n.toNatClampNeg * k ≤ 536870912 := fun k hk => Nat.le_trans (Nat.mul_le_mul hk4 hk) (by decide)
        cases at9 with
        | int =>
          have h0 : t = 0 := by simpa [newarray.typeOf] using hk5
          subst h0
          exact va_newa (D := G.1) (atype := .int) hx hb (hts _ (hl_w_T hk1)) rfl hE.1 hw2 hw3 hS hA (a0 := hl_na 0 n) (fun cA => rfl) hk2 rfl (hby _ (by decide)) hc hs hd (fun q cA H1 hK1 hP1 hD1 hS1 => by
            have e1 : s.vm.findClass ("[" ++ FieldType.int.toString) = some cA := (hK1.2 4 _ rfl).2
            have e2 : s.vm.findClass ("[" ++ FieldType.int.toString) = some G.2.1.1 := (hE.1.2 0 _ rfl).2
            cases Option.some.inj (e1.symm.trans e2)
            obtain ⟨hn, hP9⟩ := hl_P.push (x := .inl (hl_na 0 n)) hw1 hP1 hD1
            exact nx _ _ _ _ _ (hw4 q hn) H1 locs ls hP9 hS1 hl)
        | long =>
          have h0 : t = 1 := by simpa [newarray.typeOf] using hk5
          subst h0
          exact va_newa (D := G.1) (atype := .long) hx hb (hts _ (hl_w_T hk1)) rfl hE.1 hw2 hw3 hS hA (a0 := hl_na 1 n) (fun cA => rfl) hk2 rfl (hby _ (by decide)) hc hs hd (fun q cA H1 hK1 hP1 hD1 hS1 => by
            have e1 : s.vm.findClass ("[" ++ FieldType.long.toString) = some cA := (hK1.2 4 _ rfl).2
            have e2 : s.vm.findClass ("[" ++ FieldType.long.toString) = some G.2.1.2.1 := (hE.1.2 1 _ rfl).2
            cases Option.some.inj (e1.symm.trans e2)
            obtain ⟨hn, hP9⟩ := hl_P.push (x := .inl (hl_na 1 n)) hw1 hP1 hD1
            exact nx _ _ _ _ _ (hw4 q hn) H1 locs ls hP9 hS1 hl)
        | double =>
          have h0 : t = 2 := by simpa [newarray.typeOf] using hk5
          subst h0
          exact va_newa (D := G.1) (atype := .double) hx hb (hts _ (hl_w_T hk1)) rfl hE.1 hw2 hw3 hS hA (a0 := hl_na 2 n) (fun cA => rfl) hk2 rfl (hby _ (by decide)) hc hs hd (fun q cA H1 hK1 hP1 hD1 hS1 => by
            have e1 : s.vm.findClass ("[" ++ FieldType.double.toString) = some cA := (hK1.2 4 _ rfl).2
            have e2 : s.vm.findClass ("[" ++ FieldType.double.toString) = some G.2.1.2.2.1 := (hE.1.2 2 _ rfl).2
            cases Option.some.inj (e1.symm.trans e2)
            obtain ⟨hn, hP9⟩ := hl_P.push (x := .inl (hl_na 2 n)) hw1 hP1 hD1
            exact nx _ _ _ _ _ (hw4 q hn) H1 locs ls hP9 hS1 hl)
        | _ => simp [newarray.typeOf] at hk5
      | invokespecial n =>
        by_cases ht : t = 1
        · subst ht
          obtain ⟨a, s1, rfl, hw9, hw⟩ := hl_r1_spec (k := fun _ s9 => (s9.map fun v => v.category).sum ≤ 8 ∧ hl_wp (hl_Go G nL p l e R s m args below meth c Qf) R.cells R.slots r nf lv s9 h ce sl) hw
          simp only [hl_ok1, Bool.or_eq_true] at ok
          have ok := ok.resolve_left (by decide)
          refine W.objInit hx hb hown (hts _ (hl_w_T ok)) (hts _ hl_oi1) (hts _ hl_oi2) (g := F0 m pc0 ls (.ref a :: s1)) rfl (by rw [hml]; exact hl.1) rfl hd hRf ?_ ?_
          · have := lv_room (m := m) (pc := pc0) (ls := ls) (rest := .ref a :: s1) (st := s1) hw9
            omega
          · exact nx _ _ _ _ _ hw H locs ls hP hS hl
        · have hw : (if t = 1 then hl_r1 st (fun _ s9 => (s9.map fun v => v.category).sum ≤ 8 ∧ hl_wp (hl_Go G nL p l e R s m args below meth c Qf) R.cells R.slots r nf lv s9 h ce sl) else hl_Go G nL p l e R s m args below meth c Qf pc0 lv st h ce sl) := hw
          rw [if_neg ht] at hw
          exact hw H locs ls hP hS hl
      | _ => exact hw H locs ls hP hS hl
end RUN
