/-! PART 18: the law's methods that call the class and catch -/
/-- what a body with a table of exceptions knows -/
def hl_Bh (G : hl_G) (M : hl_M) (hh : List (Nat × Nat × Nat × Nat)) (d k n : Nat) (p : Program) (s : State) (m : MethodId) (args : Array Value) (meth : Method) (c : Code) : Prop :=
  hl_X G M.2.1 M.2.2.1 M.1.cls p (hl_rm d k n) s m args c ∧ meth.locks = false ∧ meth.sig.returnType = M.2.2.2 ∧ meth.name = M.1.name ∧ c.exceptionTable.toList = tableOf hh
def hl_Ch (G : hl_G) (l : Launch) (M : hl_M) (hh : List (Nat × Nat × Nat × Nat)) (d k n : Nat) (av : List Value) (P : hl_H → Prop) (Q : Option Value → hl_H → Prop) (X : String → hl_H → Prop) : Prop :=
  vx_Met l M.1 (Jvm.Cond.codeWith M.1 M.2.1 M.2.2.1 M.2.2.2 hh :: hl_T) (hl_rm d k n) (hl_Pc G av P) (hl_Qc G Q) (hl_Xc G X) k n (hl_A G)
def hl_mh (M : hl_M) (hh : List (Nat × Nat × Nat × Nat)) (na : Nat) : Prop := Jvm.Cond.codeWith M.1 M.2.1 M.2.2.1 M.2.2.2 hh ∈ hl_T ∧ Jvm.Cond.initialized M.1.cls ∈ hl_T ∧ (M.1.cls ≠ "java/lang/invoke/MethodHandle" ∧ M.1.cls ≠ "java/lang/invoke/VarHandle") ∧ (parseMethodDescriptor M.1.desc).map (fun d => d.parameters.length) = some na ∧ Jvm.Cond.static M.1 ∈ hl_T
section CH
variable {G : hl_G} {l : Launch} {M : hl_M} {hh : List (Nat × Nat × Nat × Nat)} {d k n : Nat} {av : List Value} {P : hl_H → Prop} {Q : Option Value → hl_H → Prop} {X : String → hl_H → Prop}
theorem hl_bodyh (hy : plainName M.1.cls = true) (hn : (lg_sl av).length ≤ M.2.2.1)
    (body : ∀ (p : Program) (e : Env) (s : State) (m : MethodId) (args : Array Value) (below : List Frame) (meth : Method) (c : Code), hl_Bh G M hh d k n p s m args meth c → ∀ h, P h → hl_GM G M d k n Q X p l e s m args below meth c 0 (lv_args 0 av) [] h 0 0) : hl_Ch G l M hh d k n av P Q X := by
  refine vx_ofWH (cc := M.2.1) (maxL := M.2.2.1) (ret := M.2.2.2) (hh := hh) hy rfl ?_
  intro p e s m args below meth c s₁ B hml hv
  obtain ⟨rfl, hE, hS, h, hP, hPh⟩ := hv
  have ht : c.exceptionTable.toList = tableOf hh := vx_table (x := M.1) B (atoms_spec (ws := Jvm.Cond.codeWith M.1 M.2.1 M.2.2.1 M.2.2.2 hh :: hl_T) B.pre _ List.mem_cons_self)
  have hts : ∀ w ∈ hl_T, w.before av.toArray s = true := fun w hw => atoms_spec (ws := Jvm.Cond.codeWith M.1 M.2.1 M.2.2.1 M.2.2.2 hh :: hl_T) B.pre w (List.mem_cons_of_mem _ hw)
  have hB : hl_Bh G M hh d k n p s m av.toArray meth c := ⟨⟨B.exec, B.bytes, hml, findClass_of_methodNamed B.named, hts, hE, hS, by show 1 ≤ d + 6; omega, by show 40 ≤ 40 * d + 140; omega⟩, B.notSynchronized, B.returns, (name_of_methodNamed B.named B.method).1, ht⟩
  rw [lg_entry_eq]
  exact body p e s m av.toArray below meth c hB h hPh s.heap [] _ hP va_S.rf (lv_entry av hn)
variable {p : Program} {e : Env} {s : State} {m : MethodId} {args : Array Value} {below : List Frame} {meth : Method} {c : Code} {lv : List (Nat × Value)} {st : List Value} {h : hl_H} {ce sl pc : Nat}
theorem hl_segh (B : hl_Bh G M hh d k n p s m args meth c) {ini : Bool} {r : List hl_I} (hok : hl_ok M.2.1 M.1.cls M.2.2.1 ini r = true) (hini : ini = true → M.1.name = "<init>") (j nn : Nat) (hj : (r.drop j).head?.map (fun q => q.1) = some pc) (hw : hl_wp (hl_GM G M d k n Q X p l e s m args below meth c) k n (r.drop j) nn lv st h ce sl) : hl_GM G M d k n Q X p l e s m args below meth c pc lv st h ce sl :=
  hl_run B.1 (fun q => by rw [B.2.2.2.1]; exact hini q) _ (hl_ok_drop j r hok) nn pc lv st h ce sl hj hw
theorem hl_ireth (B : hl_Bh G M hh d k n p s m args meth c) {v : Int32} {ty : FieldType} (hty : M.2.2.2 = some ty) (hn : narrow ty (.int v) = .int v) (hd : decode M.2.1 pc = .ok (.ireturn, 1)) (hc : ce ≤ k) (hs : sl ≤ n) (hQ : Q (some (.int v)) h) : hl_GM G M d k n Q X p l e s m args below meth c pc lv [.int v] h ce sl := by
  intro H locs ls hP hS hl
  have hlocks := B.2.1
  exact vx_ret (W.widen hc hs (W.zret B.1.1 B.1.2.1 (B.2.2.1.trans hty) hn (fun t ht hW => ⟨_, h, rfl, by rw [ht]; exact hP, hQ, hS.F ht⟩) hS.2.2 hd))
theorem hl_callVh (B : hl_Bh G M hh d k n p s m args meth c) {N : hl_M} {d1 k1 n1 na idx kk : Nat} {av1 As rest : List Value} {P1 : hl_H → Prop} {Q1 : Option Value → hl_H → Prop} {X1 : String → hl_H → Prop} (hct : hl_Ct G l N d1 k1 n1 av1 P1 Q1 X1) (hm : hl_mv N na) (hd : decode M.2.1 pc = .ok (.invokevirtual idx, 3)) (hk : hl_w kk (Jvm.Cond.methodLink M.1.cls idx N.1) = true)
    {b ci : Nat} (hav : av1 = .ref b :: As) (hna : As.length = na) {fs : List Value} (hrec : h b = some (.inr (ci, fs))) (hcl : vwCl[ci]?.map (fun q => q.1) = some N.1.cls) (hrest : (rest.map fun v => v.category).sum ≤ 8) (hfr : d1 + 1 ≤ d) (hlo : N.2.2.1 ≤ 21) (hce : ce + k1 ≤ k) (hsl : sl + n1 ≤ n) (hP : P1 h)
    (hQ : ∀ (r : Option Value) (h' : hl_H), Q1 r h' → hl_GM G M d k n Q X p l e s m args below meth c (pc + 3) lv (r.toList ++ rest) h' (ce + k1) (sl + n1))
    (hX : ∀ (E : String) (h' : hl_H), X1 E h' → hl_TM G M d k n Q X p l e s m args below meth c pc lv rest E h' (ce + k1) (sl + n1)) : hl_GM G M d k n Q X p l e s m args below meth c pc lv (As.reverse ++ .ref b :: rest) h ce sl := by
  intro H locs ls hPh hS hl T hT X9
  obtain ⟨⟨hx, hb, hml, hown, hts, hE, hS0, hRf, hRl⟩, hlk, hrt, hnm, hno⟩ := id B
  have hA : ∀ q : Nat, s.heap.size ≤ q → hl_A G q := fun q h => Nat.le_trans hS0.1 h
  have cw : CallW (hl_rm d k n) s args M.1.cls N.1.cls idx N.1 N.2.1 N.2.2.1 N.2.2.2 (Jvm.Cond.code N.1 N.2.1 N.2.2.1 N.2.2.2 :: hl_T) (hl_rm d1 k1 n1) k1 n1 na :=
    ⟨hl_CB hts hm.1 hk (by show d1 + 7 ≤ d + 6; omega) (by show _ ≤ 40 * d + 140; omega), hts _ hm.2.1, hts _ hm.2.2⟩
  obtain ⟨w, hw1, hw2, hw3⟩ := id hPh
  obtain ⟨kq, hkq⟩ := hw1 b _ hrec
  obtain ⟨q9, hq9, hcl9⟩ : ∃ q9, vwCl[ci]? = some q9 ∧ q9.1 = N.1.cls := by
    cases hz : vwCl[ci]? with
    | none => rw [hz] at hcl; cases hcl
    | some q9 => rw [hz] at hcl; exact ⟨q9, rfl, Option.some.inj hcl⟩
  have hrc := va_recv hE.1 hw2 hq9 hkq
  rw [hcl9] at hrc
  have hr := vx_runV (l := l) (e := e) (below := below) (meth := meth) (locs := locs) (cells := ce) (slots := sl) (g := F0 m pc ls (As.reverse ++ .ref b :: rest)) (rest := rest) ⟨hx, hb, hml, hown, hts⟩ hct cw ⟨hl_blind, hrc, fun U hU hW => ⟨by rw [hav], hE.warm hW, by rw [hU]; exact hl_S0 hS0 hS, h, by rw [hU]; exact hPh, hP⟩⟩ rfl hna hl.1 rfl (lv_room hrest) hd ⟨hce, hsl⟩
  rcases hr T hT X9 with ⟨v, st₀, t, T', L, h0, X', hL, e1, e2, ⟨r, h', hv, hP', hQ', hF⟩, st9⟩ | ⟨q, st₀, t, T', L, E, ce9, h0, X', hL, e1, e2, ⟨h', hP', hX', hF⟩, hce9, hcv, hcl2, st9⟩
  · cases hv
    obtain ⟨k1', k2', k3'⟩ := vx_keep h0 e1 hS (fun q _ hq => hq) (fun q hq => hq) hL hF
    obtain ⟨t2, a1, b1⟩ := hQ v h' hQ' T'.heap (locs ++ L) ls (by rw [e1]; exact hP') k3' hl T' rfl X'
    exact ⟨t2, st9 t2 a1, b1⟩
  · obtain ⟨k1', k2', k3'⟩ := vx_keep h0 e1 hS (fun q _ hq => hq) (fun q hq => hq) hL hF
    obtain ⟨t2, a1, b1⟩ := hX E h' hX' T'.heap (locs ++ L) ls q ce9 (by rw [e1]; exact hP') k3' hl (by rw [e1]; exact hce9) hcv hcl2 T' rfl X'
    exact ⟨t2, st9.trans a1, b1⟩
def hl_pa (own E : String) (z : Nat × Nat × Nat × Nat) : Prop := z.2.2.2 ≠ 0 ∧ ∃ F ∈ hl_ex, E ≠ F ∧ Jvm.Cond.classLink own z.2.2.2 F ∈ hl_T
theorem hl_pa_n {own E : String} : ∀ z ∈ ([] : List (Nat × Nat × Nat × Nat)), hl_pa own E z := fun _ h => nomatch h
theorem hl_pa_c {own E : String} {z : Nat × Nat × Nat × Nat} {r : List (Nat × Nat × Nat × Nat)} (h : hl_pa own E z) (t : ∀ z ∈ r, hl_pa own E z) : ∀ y ∈ z :: r, hl_pa own E y := by
  intro y hy
  rcases List.mem_cons.mp hy with hy | hy
  · rw [hy]; exact h
  · exact t y hy
/-- a throw that a row of the table takes -/
theorem hl_catch (B : hl_Bh G M hh d k n p s m args meth c) {E : String} {pre suf : List (Nat × Nat × Nat × Nat)} {s0 e0 hp ct kk kc : Nat} (hE9 : E ∈ hl_ex) (hh9 : hh = pre ++ (s0, e0, hp, ct) :: suf) (hcov : covers ⟨s0, e0, hp, ct⟩ pc = true) (hct : ct ≠ 0) (hk : hl_w kk (Jvm.Cond.classLink M.1.cls ct E) = true) (hca : lw_tbl[kc]? = some (Jvm.Cond.castable E E))
    (hpre : ∀ z ∈ pre, hl_pa M.1.cls E z) (hw : ∀ q : Nat, hl_GM G M d k n Q X p l e s m args below meth c hp lv [.ref q] h ce sl) : hl_TM G M d k n Q X p l e s m args below meth c pc lv st E h ce sl := by
  intro H locs ls q cell hP hS hl hq hv hcl
  obtain ⟨⟨hx, hb, hml, hown, hts, hE, hS0, hRf, hRl⟩, hlk, hrt, hnm, htb⟩ := id B
  refine vx_catch hown (tableOf pre) ⟨s0, e0, hp, ct⟩ (tableOf suf) ?_ ?_ hcov hct (hts _ (hl_w_T hk)) (va_Nw.use rfl (hE.2.2.2.2.2.2.2.1 _ _ (List.mem_of_getElem? hca))) hq hv hcl (hw q H locs ls hP hS hl)
  · rw [htb, hh9]
    simp [tableOf]
  · intro z hz
    obtain ⟨y, hy, rfl⟩ := List.mem_map.mp hz
    obtain ⟨h1, F, h2, h3, h4⟩ := hpre y hy
    exact Or.inr ⟨h1, F, hts _ h4, hE.2.2.2.2.2.2.2.2.1 E hE9 F h2 h3⟩
end CH
def lw_ix : List String → String → Nat
  | [], _ => 0
  | F :: L, E => if F = E then 0 else lw_ix L E + 1
/-- the number of what was thrown -/
def lw_cd (L : List String) (o : Option String) : Int32 := match o with | none => 0 | some E => nI (lw_ix L E + 1)
theorem hl_set_same {h0 : hl_H} {r : Nat} {x : hl_C} (hx : h0 r = some x) : hl_set h0 r x = h0 := by
  funext q
  by_cases e : q = r
  · subst e; rw [hs_set1, hx]
  · rw [hs_set2 e]
theorem LSw.refr {a ca : Nat → Nat} {σ : LSt} {h h0 : hl_H} {r : Nat} {x : hl_C} (w : LSw a ca σ h0 h) (hx : h0 r = some x) (y : hl_C) : LSw a ca σ (hl_set h0 r y) (hl_set h r y) := by
  have w2 : LSw a ca σ (hl_set h0 r x) h := by rw [hl_set_same hx]; exact w
  exact w2.reframe y
theorem ls_res_1 {er : Option String} {σ σ' : LSt} {v : Value} : (ls_res er σ σ' v).1 = er := by cases er <;> rfl
theorem ls_res_v {er : Option String} {σ σ' : LSt} {v : Value} : (ls_res er σ σ' v).2.2 = v := by cases er <;> rfl
theorem ls_kd_v {σ σ' : LSt} {k v : Int32} {f : Nat → Int32} {er : Option String} : ∃ v', (ls_kd σ k f er σ' v).2.2 = .int v' := by
  unfold ls_kd
  by_cases c : ls_like σ f (nI (σ.2.1 5)) = true
  · rw [if_pos c]; exact ⟨_, rfl⟩
  · rw [if_neg c, ls_res_v]; exact ⟨_, rfl⟩
theorem ls_or_e {a b : Option String} {E : String} (h : ls_or a b = some E) : a = some E ∨ b = some E := by
  cases a with
  | none => exact Or.inr h
  | some x => exact Or.inl h
theorem er_cur_e {x : Int32} {E : String} (h : er_cur x = some E) : E = xIAE := by
  unfold er_cur at h
  (repeat' split at h) <;> first | (cases h; done) | (cases h; rfl)
theorem er_lim_e {x : Int32} {E : String} (h : er_lim x = some E) : E = xIAE := by
  unfold er_lim at h
  (repeat' split at h) <;> first | (cases h; done) | (cases h; rfl)
theorem er_amt_e {x : Int32} {E : String} (h : er_amt x = some E) : E = xIAE := by
  unfold er_amt at h
  (repeat' split at h) <;> first | (cases h; done) | (cases h; rfl)
theorem er_acc_e {σ : LSt} {x : Int32} {E : String} (h : er_acc σ x = some E) : E = xIOB := by
  unfold er_acc at h
  (repeat' split at h) <;> first | (cases h; done) | (cases h; rfl)
theorem er_tra_e {σ : LSt} {x : Int32} {E : String} (h : er_tra σ x = some E) : E = xIOB := by
  unfold er_tra at h
  (repeat' split at h) <;> first | (cases h; done) | (cases h; rfl)
theorem er_hol_e {σ : LSt} {x : Int32} {E : String} (h : er_hol σ x = some E) : E = xIOB := by
  unfold er_hol at h
  (repeat' split at h) <;> first | (cases h; done) | (cases h; rfl)
theorem er_som_e {x : Int32} {E : String} (h : er_som x = some E) : E = xUOE := by
  unfold er_som at h
  (repeat' split at h) <;> first | (cases h; done) | (cases h; rfl)
theorem er_roo_e {σ : LSt} {E : String} (h : er_roo σ = some E) : E = xISE := by
  unfold er_roo at h
  (repeat' split at h) <;> first | (cases h; done) | (cases h; rfl)
theorem er_key_e {σ : LSt} {x : Int32} {E : String} (h : er_key σ x = some E) : E = xIAE := by
  unfold er_key at h
  (repeat' split at h) <;> first | (cases h; done) | (cases h; rfl)
theorem er_spe_e {σ : LSt} {x v : Int32} {E : String} (h : er_spe σ x v = some E) : E = xUOE := by
  unfold er_spe at h
  (repeat' split at h) <;> first | (cases h; done) | (cases h; rfl)
theorem er_two_e {σ : LSt} {x y : Int32} {E : String} (h : er_two σ x y = some E) : E = xIAE ∨ E = xIOB := by
  unfold er_two at h
  split at h
  · cases h; exact Or.inl rfl
  · rcases ls_or_e h with h | h
    · exact Or.inr (er_acc_e h)
    · exact Or.inr (er_acc_e h)
theorem er_act_e {σ : LSt} {x : Int32} {E : String} (h : er_act σ x = some E) : E = xIOB ∨ E = xNSE := by
  unfold er_act at h
  rcases ls_or_e h with h | h
  · exact Or.inl (er_hol_e h)
  · split at h
    · cases h
    · cases h; exact Or.inr rfl
def lw_vl (v : Value) : Int64 := match v with | .int x => x.toInt64 | .long x => x | _ => 0
def lw_vd (v : Value) : UInt64 := match v with | .float x => FP.f2d x | .double x => x | _ => 0
def lw_Q (a : Nat → Nat) (h0 : hl_H) (ro : Nat) (L : List String) (R : LRes) : Option Value → hl_H → Prop := fun r g => ∃ (ca : Nat → Nat) (f : Nat → Int64), r = some (.int (lw_cd L R.1)) ∧ LSw a ca R.2.1 (hl_set h0 ro (.inl (1, .inr (.inl f)))) g ∧ (R.1 = none → f 0 = lw_vl R.2.2)
def lw_D (a : Nat → Nat) (h0 : hl_H) (ro : Nat) (L : List String) (R : LRes) : Option Value → hl_H → Prop := fun r g => ∃ (ca : Nat → Nat) (f : Nat → UInt64), r = some (.int (lw_cd L R.1)) ∧ LSw a ca R.2.1 (hl_set h0 ro (.inl (1, .inr (.inr (.inr (.inl f)))))) g ∧ (R.1 = none → f 0 = lw_vd R.2.2)
theorem oe_openAccount {σ : LSt} {x y : Int32} : ∀ E : String, (op_openAccount σ x y).1 = some E → E ∈ [xIAE, xISE] := by
  intro E h
  unfold op_openAccount at h
  rw [ls_res_1] at h
  rcases ls_or_e h with h | h
  · cases er_cur_e h; simp
  rcases ls_or_e h with h | h
  · cases er_lim_e h; simp
  (repeat' split at h) <;> first | (cases h; done) | (cases h; simp; done) | (cases er_spe_e h; simp)
theorem ov_openAccount {σ : LSt} {x y : Int32} : ∃ v9, (op_openAccount σ x y).2.2 = .int v9 := by
  unfold op_openAccount
  exact ⟨_, ls_res_v⟩
abbrev mL_openAccount : hl_M := (yL_openAccount, cL_openAccount, 5, (some .int))
theorem mtL_openAccount : hl_mh mL_openAccount [(0, 10, 13, 13), (0, 10, 17, 15)] 4 := ⟨hl_T_of (k := 374) (by decide +kernel) rfl, hl_T_of (k := 48) (by decide +kernel) rfl, ⟨by decide +kernel, by decide +kernel⟩, by decide +kernel, hl_T_of (k := 373) (by decide +kernel) rfl⟩
set_option maxRecDepth 20000 in
set_option maxHeartbeats 2000000 in
theorem cw_openAccount {G : hl_G} {l : Launch} {a ca : Nat → Nat} {σ : LSt} {x y : Int32} {h0 : hl_H} {ro : Nat} {f : Nat → Int64} (hst : l.stackTraces = false) (hI : LInv0 σ) (hr : h0 ro = some (.inl (1, .inr (.inl f)))) :
    hl_Ch G l mL_openAccount [(0, 10, 13, 13), (0, 10, 17, 15)] 7 12 90 [.ref (a 0), .int x, .int y, .ref ro] (LSw a ca σ h0) (lw_Q a h0 ro [xIAE, xISE] (op_openAccount σ x y)) (fun _ _ => False) := by
  refine hl_bodyh (by decide +kernel) (Nat.le_of_ble_eq_true rfl) ?_
  intro p e s m args below meth c B g hg
  refine hl_segh B okL_openAccount (fun q => nomatch q) 0 1000 rfl ?_
  simp only [pL_openAccount, List.drop_zero, List.drop_succ_cons, hl_wp, hs_ii, hs_i1, hs_ll, hs_l1, hs_ff, hs_g1, hs_dd, hs_d1, hs_r1, hs_rv, hs_rv0, hs_n1, hs_n0, hs_v1i, hs_v1r, hs_a1, hs_d2l, hs_d2i, hs_ri, hs_rl, hs_rg, hs_rd8, hs_rr, hs_rn, hs_ov, hs_gf, hs_po, hs_pfi, hs_pfr, hs_ia, hs_la, hs_da, hs_qa, hs_al, hs_is, hs_ls, hs_ds, hs_iso, hs_lso, hs_dso, hs_rd, hs_f1, hs_f10, hs_f2, hs_f20, hs_in0, hs_in1, hs_lt, hs_le, hs_ge, hs_gt, hs_eq, hs_10, hs_00, hs_01, true_and, and_true, true_imp_iff, false_imp_iff, not_true_eq_false, not_false_eq_true, hs_av, hs_ai, hs_ar, hs_an, hs_aj, hs_ci, hs_cr, hs_cn, hs_cj, hs_cd, hs_cf, hs_q0, hs_q1, reduceIte, Nat.reduceEqDiff, Nat.reduceAdd, Nat.reduceLT, eq_self, List.getElem?_cons_zero, List.getElem?_cons_succ, List.set_cons_zero, List.set_cons_succ, List.length_cons, List.length_nil, Option.toList_some, Option.toList_none, List.cons_append, List.nil_append, Nat.zero_add, Nat.add_zero, List.map_nil, List.sum_nil, List.map_cons, List.sum_cons, Nat.zero_le, hs_set1]
  refine hl_callVh B (As := [.int _, .int _]) (cm_openAccount hst hI) mtX7_openAccount (hl_dec okL_openAccount 5 rfl) (kk := 377) (by decide +kernel) rfl rfl (hg.1.f0) rfl (Nat.le_of_ble_eq_true rfl) (by decide) (by decide) (by decide) (by decide) hg (fun r9 h9 hq => ?_) (fun E h9 hx => ?_)
  · obtain ⟨ca2, rfl, w2, hn⟩ := hq
    have hro : h9 ro = some (.inl (1, .inr (.inl f))) := w2.2.2.2.2.2.2 ro _ hr
    obtain ⟨v9, hv⟩ := ov_openAccount (σ := σ) (x := x) (y := y)
    rw [hv]
    refine hl_segh B okL_openAccount (fun q => nomatch q) 6 1000 rfl ?_
    simp only [pL_openAccount, List.drop_zero, List.drop_succ_cons, hl_wp, hs_ii, hs_i1, hs_ll, hs_l1, hs_ff, hs_g1, hs_dd, hs_d1, hs_r1, hs_rv, hs_rv0, hs_n1, hs_n0, hs_v1i, hs_v1r, hs_a1, hs_d2l, hs_d2i, hs_ri, hs_rl, hs_rg, hs_rd8, hs_rr, hs_rn, hs_ov, hs_gf, hs_po, hs_pfi, hs_pfr, hs_ia, hs_la, hs_da, hs_qa, hs_al, hs_is, hs_ls, hs_ds, hs_iso, hs_lso, hs_dso, hs_rd, hs_f1, hs_f10, hs_f2, hs_f20, hs_in0, hs_in1, hs_lt, hs_le, hs_ge, hs_gt, hs_eq, hs_10, hs_00, hs_01, true_and, and_true, true_imp_iff, false_imp_iff, not_true_eq_false, not_false_eq_true, hs_av, hs_ai, hs_ar, hs_an, hs_aj, hs_ci, hs_cr, hs_cn, hs_cj, hs_cd, hs_cf, hs_q0, hs_q1, reduceIte, Nat.reduceEqDiff, Nat.reduceAdd, Nat.reduceLT, eq_self, List.getElem?_cons_zero, List.getElem?_cons_succ, List.set_cons_zero, List.set_cons_succ, List.length_cons, List.length_nil, Option.toList_some, Option.toList_none, List.cons_append, List.nil_append, Nat.zero_add, Nat.add_zero, List.map_nil, List.sum_nil, List.map_cons, List.sum_cons, Nat.zero_le, hs_set1, hro]
    refine ⟨vp_in_nI (n := 0) (N := 1) (by decide) (by decide), ?_⟩
    refine hl_segh B okL_openAccount (fun q => nomatch q) 15 1000 rfl ?_
    simp only [pL_openAccount, List.drop_zero, List.drop_succ_cons, hl_wp, hs_ii, hs_i1, hs_ll, hs_l1, hs_ff, hs_g1, hs_dd, hs_d1, hs_r1, hs_rv, hs_rv0, hs_n1, hs_n0, hs_v1i, hs_v1r, hs_a1, hs_d2l, hs_d2i, hs_ri, hs_rl, hs_rg, hs_rd8, hs_rr, hs_rn, hs_ov, hs_gf, hs_po, hs_pfi, hs_pfr, hs_ia, hs_la, hs_da, hs_qa, hs_al, hs_is, hs_ls, hs_ds, hs_iso, hs_lso, hs_dso, hs_rd, hs_f1, hs_f10, hs_f2, hs_f20, hs_in0, hs_in1, hs_lt, hs_le, hs_ge, hs_gt, hs_eq, hs_10, hs_00, hs_01, true_and, and_true, true_imp_iff, false_imp_iff, not_true_eq_false, not_false_eq_true, hs_av, hs_ai, hs_ar, hs_an, hs_aj, hs_ci, hs_cr, hs_cn, hs_cj, hs_cd, hs_cf, hs_q0, hs_q1, reduceIte, Nat.reduceEqDiff, Nat.reduceAdd, Nat.reduceLT, eq_self, List.getElem?_cons_zero, List.getElem?_cons_succ, List.set_cons_zero, List.set_cons_succ, List.length_cons, List.length_nil, Option.toList_some, Option.toList_none, List.cons_append, List.nil_append, Nat.zero_add, Nat.add_zero, List.map_nil, List.sum_nil, List.map_cons, List.sum_cons, Nat.zero_le, hs_set1]
    exact hl_ireth B rfl rfl (hl_dec okL_openAccount 16 rfl) (by decide) (by decide) ⟨ca2, _, by rw [hn]; rfl, w2.refr hr _, fun _ => by rw [hv]; rfl⟩
  · obtain ⟨ca2, w2, hE1⟩ := hx
    have hm := oe_openAccount _ hE1
    rcases List.mem_cons.mp hm with rfl | hm
    · skip
      refine hl_catch B (pre := []) (s0 := 0) (e0 := 10) (hp := 13) (ct := 13) (suf := [(0, 10, 17, 15)]) (by simp [hl_ex]) rfl (by decide) (by decide) (kk := 375) (by decide +kernel) (kc := 387) (by decide +kernel) hl_pa_n (fun q => ?_)
      refine hl_segh B okL_openAccount (fun q => nomatch q) 9 1000 rfl ?_
      simp only [pL_openAccount, List.drop_zero, List.drop_succ_cons, hl_wp, hs_ii, hs_i1, hs_ll, hs_l1, hs_ff, hs_g1, hs_dd, hs_d1, hs_r1, hs_rv, hs_rv0, hs_n1, hs_n0, hs_v1i, hs_v1r, hs_a1, hs_d2l, hs_d2i, hs_ri, hs_rl, hs_rg, hs_rd8, hs_rr, hs_rn, hs_ov, hs_gf, hs_po, hs_pfi, hs_pfr, hs_ia, hs_la, hs_da, hs_qa, hs_al, hs_is, hs_ls, hs_ds, hs_iso, hs_lso, hs_dso, hs_rd, hs_f1, hs_f10, hs_f2, hs_f20, hs_in0, hs_in1, hs_lt, hs_le, hs_ge, hs_gt, hs_eq, hs_10, hs_00, hs_01, true_and, and_true, true_imp_iff, false_imp_iff, not_true_eq_false, not_false_eq_true, hs_av, hs_ai, hs_ar, hs_an, hs_aj, hs_ci, hs_cr, hs_cn, hs_cj, hs_cd, hs_cf, hs_q0, hs_q1, reduceIte, Nat.reduceEqDiff, Nat.reduceAdd, Nat.reduceLT, eq_self, List.getElem?_cons_zero, List.getElem?_cons_succ, List.set_cons_zero, List.set_cons_succ, List.length_cons, List.length_nil, Option.toList_some, Option.toList_none, List.cons_append, List.nil_append, Nat.zero_add, Nat.add_zero, List.map_nil, List.sum_nil, List.map_cons, List.sum_cons, Nat.zero_le, hs_set1]
      exact hl_ireth B rfl rfl (hl_dec okL_openAccount 11 rfl) (by decide) (by decide) ⟨ca2, f, by rw [hE1]; exact congrArg (fun z => some (Value.int z)) (by decide +kernel), by rw [hl_set_same hr]; exact w2, fun z => by rw [hE1] at z; cases z⟩
    cases List.mem_singleton.mp hm
    refine hl_catch B (pre := [(0, 10, 13, 13)]) (s0 := 0) (e0 := 10) (hp := 17) (ct := 15) (suf := []) (by simp [hl_ex]) rfl (by decide) (by decide) (kk := 376) (by decide +kernel) (kc := 465) (by decide +kernel) (hl_pa_c ⟨by decide, xIAE, by simp [hl_ex], by decide, hl_T_of (k := 375) (by decide +kernel) rfl⟩ hl_pa_n) (fun q => ?_)
    refine hl_segh B okL_openAccount (fun q => nomatch q) 12 1000 rfl ?_
    simp only [pL_openAccount, List.drop_zero, List.drop_succ_cons, hl_wp, hs_ii, hs_i1, hs_ll, hs_l1, hs_ff, hs_g1, hs_dd, hs_d1, hs_r1, hs_rv, hs_rv0, hs_n1, hs_n0, hs_v1i, hs_v1r, hs_a1, hs_d2l, hs_d2i, hs_ri, hs_rl, hs_rg, hs_rd8, hs_rr, hs_rn, hs_ov, hs_gf, hs_po, hs_pfi, hs_pfr, hs_ia, hs_la, hs_da, hs_qa, hs_al, hs_is, hs_ls, hs_ds, hs_iso, hs_lso, hs_dso, hs_rd, hs_f1, hs_f10, hs_f2, hs_f20, hs_in0, hs_in1, hs_lt, hs_le, hs_ge, hs_gt, hs_eq, hs_10, hs_00, hs_01, true_and, and_true, true_imp_iff, false_imp_iff, not_true_eq_false, not_false_eq_true, hs_av, hs_ai, hs_ar, hs_an, hs_aj, hs_ci, hs_cr, hs_cn, hs_cj, hs_cd, hs_cf, hs_q0, hs_q1, reduceIte, Nat.reduceEqDiff, Nat.reduceAdd, Nat.reduceLT, eq_self, List.getElem?_cons_zero, List.getElem?_cons_succ, List.set_cons_zero, List.set_cons_succ, List.length_cons, List.length_nil, Option.toList_some, Option.toList_none, List.cons_append, List.nil_append, Nat.zero_add, Nat.add_zero, List.map_nil, List.sum_nil, List.map_cons, List.sum_cons, Nat.zero_le, hs_set1]
    exact hl_ireth B rfl rfl (hl_dec okL_openAccount 14 rfl) (by decide) (by decide) ⟨ca2, f, by rw [hE1]; exact congrArg (fun z => some (Value.int z)) (by decide +kernel), by rw [hl_set_same hr]; exact w2, fun z => by rw [hE1] at z; cases z⟩
theorem oe_setLimit {σ : LSt} {x y : Int32} : ∀ E : String, (op_setLimit σ x y).1 = some E → E ∈ [xIOB, xIAE, xUOE] := by
  intro E h
  unfold op_setLimit at h
  rw [ls_res_1] at h
  rcases ls_or_e h with h | h
  · cases er_acc_e h; simp
  rcases ls_or_e h with h | h
  · cases er_lim_e h; simp
  (repeat' split at h) <;> first | (cases h; done) | (cases h; simp; done) | (cases er_spe_e h; simp)
theorem ov_setLimit {σ : LSt} {x y : Int32} : ∃ v9, (op_setLimit σ x y).2.2 = .int v9 := by
  unfold op_setLimit
  exact ⟨_, ls_res_v⟩
abbrev mL_setLimit : hl_M := (yL_setLimit, cL_setLimit, 5, (some .int))
theorem mtL_setLimit : hl_mh mL_setLimit [(0, 10, 13, 20), (0, 10, 17, 13), (0, 10, 21, 22)] 4 := ⟨hl_T_of (k := 485) (by decide +kernel) rfl, hl_T_of (k := 48) (by decide +kernel) rfl, ⟨by decide +kernel, by decide +kernel⟩, by decide +kernel, hl_T_of (k := 484) (by decide +kernel) rfl⟩
set_option maxRecDepth 20000 in
set_option maxHeartbeats 2000000 in
theorem cw_setLimit {G : hl_G} {l : Launch} {a ca : Nat → Nat} {σ : LSt} {x y : Int32} {h0 : hl_H} {ro : Nat} {f : Nat → Int64} (hst : l.stackTraces = false) (hI : LInv0 σ) (hr : h0 ro = some (.inl (1, .inr (.inl f)))) :
    hl_Ch G l mL_setLimit [(0, 10, 13, 20), (0, 10, 17, 13), (0, 10, 21, 22)] 7 12 90 [.ref (a 0), .int x, .int y, .ref ro] (LSw a ca σ h0) (lw_Q a h0 ro [xIOB, xIAE, xUOE] (op_setLimit σ x y)) (fun _ _ => False) := by
  refine hl_bodyh (by decide +kernel) (Nat.le_of_ble_eq_true rfl) ?_
  intro p e s m args below meth c B g hg
  refine hl_segh B okL_setLimit (fun q => nomatch q) 0 1000 rfl ?_
  simp only [pL_setLimit, List.drop_zero, List.drop_succ_cons, hl_wp, hs_ii, hs_i1, hs_ll, hs_l1, hs_ff, hs_g1, hs_dd, hs_d1, hs_r1, hs_rv, hs_rv0, hs_n1, hs_n0, hs_v1i, hs_v1r, hs_a1, hs_d2l, hs_d2i, hs_ri, hs_rl, hs_rg, hs_rd8, hs_rr, hs_rn, hs_ov, hs_gf, hs_po, hs_pfi, hs_pfr, hs_ia, hs_la, hs_da, hs_qa, hs_al, hs_is, hs_ls, hs_ds, hs_iso, hs_lso, hs_dso, hs_rd, hs_f1, hs_f10, hs_f2, hs_f20, hs_in0, hs_in1, hs_lt, hs_le, hs_ge, hs_gt, hs_eq, hs_10, hs_00, hs_01, true_and, and_true, true_imp_iff, false_imp_iff, not_true_eq_false, not_false_eq_true, hs_av, hs_ai, hs_ar, hs_an, hs_aj, hs_ci, hs_cr, hs_cn, hs_cj, hs_cd, hs_cf, hs_q0, hs_q1, reduceIte, Nat.reduceEqDiff, Nat.reduceAdd, Nat.reduceLT, eq_self, List.getElem?_cons_zero, List.getElem?_cons_succ, List.set_cons_zero, List.set_cons_succ, List.length_cons, List.length_nil, Option.toList_some, Option.toList_none, List.cons_append, List.nil_append, Nat.zero_add, Nat.add_zero, List.map_nil, List.sum_nil, List.map_cons, List.sum_cons, Nat.zero_le, hs_set1]
  refine hl_callVh B (As := [.int _, .int _]) (cm_setLimit hst hI) mtX7_setLimit (hl_dec okL_setLimit 5 rfl) (kk := 511) (by decide +kernel) rfl rfl (hg.1.f0) rfl (Nat.le_of_ble_eq_true rfl) (by decide) (by decide) (by decide) (by decide) hg (fun r9 h9 hq => ?_) (fun E h9 hx => ?_)
  · obtain ⟨ca2, rfl, w2, hn⟩ := hq
    have hro : h9 ro = some (.inl (1, .inr (.inl f))) := w2.2.2.2.2.2.2 ro _ hr
    obtain ⟨v9, hv⟩ := ov_setLimit (σ := σ) (x := x) (y := y)
    rw [hv]
    refine hl_segh B okL_setLimit (fun q => nomatch q) 6 1000 rfl ?_
    simp only [pL_setLimit, List.drop_zero, List.drop_succ_cons, hl_wp, hs_ii, hs_i1, hs_ll, hs_l1, hs_ff, hs_g1, hs_dd, hs_d1, hs_r1, hs_rv, hs_rv0, hs_n1, hs_n0, hs_v1i, hs_v1r, hs_a1, hs_d2l, hs_d2i, hs_ri, hs_rl, hs_rg, hs_rd8, hs_rr, hs_rn, hs_ov, hs_gf, hs_po, hs_pfi, hs_pfr, hs_ia, hs_la, hs_da, hs_qa, hs_al, hs_is, hs_ls, hs_ds, hs_iso, hs_lso, hs_dso, hs_rd, hs_f1, hs_f10, hs_f2, hs_f20, hs_in0, hs_in1, hs_lt, hs_le, hs_ge, hs_gt, hs_eq, hs_10, hs_00, hs_01, true_and, and_true, true_imp_iff, false_imp_iff, not_true_eq_false, not_false_eq_true, hs_av, hs_ai, hs_ar, hs_an, hs_aj, hs_ci, hs_cr, hs_cn, hs_cj, hs_cd, hs_cf, hs_q0, hs_q1, reduceIte, Nat.reduceEqDiff, Nat.reduceAdd, Nat.reduceLT, eq_self, List.getElem?_cons_zero, List.getElem?_cons_succ, List.set_cons_zero, List.set_cons_succ, List.length_cons, List.length_nil, Option.toList_some, Option.toList_none, List.cons_append, List.nil_append, Nat.zero_add, Nat.add_zero, List.map_nil, List.sum_nil, List.map_cons, List.sum_cons, Nat.zero_le, hs_set1, hro]
    refine ⟨vp_in_nI (n := 0) (N := 1) (by decide) (by decide), ?_⟩
    refine hl_segh B okL_setLimit (fun q => nomatch q) 18 1000 rfl ?_
    simp only [pL_setLimit, List.drop_zero, List.drop_succ_cons, hl_wp, hs_ii, hs_i1, hs_ll, hs_l1, hs_ff, hs_g1, hs_dd, hs_d1, hs_r1, hs_rv, hs_rv0, hs_n1, hs_n0, hs_v1i, hs_v1r, hs_a1, hs_d2l, hs_d2i, hs_ri, hs_rl, hs_rg, hs_rd8, hs_rr, hs_rn, hs_ov, hs_gf, hs_po, hs_pfi, hs_pfr, hs_ia, hs_la, hs_da, hs_qa, hs_al, hs_is, hs_ls, hs_ds, hs_iso, hs_lso, hs_dso, hs_rd, hs_f1, hs_f10, hs_f2, hs_f20, hs_in0, hs_in1, hs_lt, hs_le, hs_ge, hs_gt, hs_eq, hs_10, hs_00, hs_01, true_and, and_true, true_imp_iff, false_imp_iff, not_true_eq_false, not_false_eq_true, hs_av, hs_ai, hs_ar, hs_an, hs_aj, hs_ci, hs_cr, hs_cn, hs_cj, hs_cd, hs_cf, hs_q0, hs_q1, reduceIte, Nat.reduceEqDiff, Nat.reduceAdd, Nat.reduceLT, eq_self, List.getElem?_cons_zero, List.getElem?_cons_succ, List.set_cons_zero, List.set_cons_succ, List.length_cons, List.length_nil, Option.toList_some, Option.toList_none, List.cons_append, List.nil_append, Nat.zero_add, Nat.add_zero, List.map_nil, List.sum_nil, List.map_cons, List.sum_cons, Nat.zero_le, hs_set1]
    exact hl_ireth B rfl rfl (hl_dec okL_setLimit 19 rfl) (by decide) (by decide) ⟨ca2, _, by rw [hn]; rfl, w2.refr hr _, fun _ => by rw [hv]; rfl⟩
  · obtain ⟨ca2, w2, hE1⟩ := hx
    have hm := oe_setLimit _ hE1
    rcases List.mem_cons.mp hm with rfl | hm
    · skip
      refine hl_catch B (pre := []) (s0 := 0) (e0 := 10) (hp := 13) (ct := 20) (suf := [(0, 10, 17, 13), (0, 10, 21, 22)]) (by simp [hl_ex]) rfl (by decide) (by decide) (kk := 486) (by decide +kernel) (kc := 521) (by decide +kernel) hl_pa_n (fun q => ?_)
      refine hl_segh B okL_setLimit (fun q => nomatch q) 9 1000 rfl ?_
      simp only [pL_setLimit, List.drop_zero, List.drop_succ_cons, hl_wp, hs_ii, hs_i1, hs_ll, hs_l1, hs_ff, hs_g1, hs_dd, hs_d1, hs_r1, hs_rv, hs_rv0, hs_n1, hs_n0, hs_v1i, hs_v1r, hs_a1, hs_d2l, hs_d2i, hs_ri, hs_rl, hs_rg, hs_rd8, hs_rr, hs_rn, hs_ov, hs_gf, hs_po, hs_pfi, hs_pfr, hs_ia, hs_la, hs_da, hs_qa, hs_al, hs_is, hs_ls, hs_ds, hs_iso, hs_lso, hs_dso, hs_rd, hs_f1, hs_f10, hs_f2, hs_f20, hs_in0, hs_in1, hs_lt, hs_le, hs_ge, hs_gt, hs_eq, hs_10, hs_00, hs_01, true_and, and_true, true_imp_iff, false_imp_iff, not_true_eq_false, not_false_eq_true, hs_av, hs_ai, hs_ar, hs_an, hs_aj, hs_ci, hs_cr, hs_cn, hs_cj, hs_cd, hs_cf, hs_q0, hs_q1, reduceIte, Nat.reduceEqDiff, Nat.reduceAdd, Nat.reduceLT, eq_self, List.getElem?_cons_zero, List.getElem?_cons_succ, List.set_cons_zero, List.set_cons_succ, List.length_cons, List.length_nil, Option.toList_some, Option.toList_none, List.cons_append, List.nil_append, Nat.zero_add, Nat.add_zero, List.map_nil, List.sum_nil, List.map_cons, List.sum_cons, Nat.zero_le, hs_set1]
      exact hl_ireth B rfl rfl (hl_dec okL_setLimit 11 rfl) (by decide) (by decide) ⟨ca2, f, by rw [hE1]; exact congrArg (fun z => some (Value.int z)) (by decide +kernel), by rw [hl_set_same hr]; exact w2, fun z => by rw [hE1] at z; cases z⟩
    rcases List.mem_cons.mp hm with rfl | hm
    · skip
      refine hl_catch B (pre := [(0, 10, 13, 20)]) (s0 := 0) (e0 := 10) (hp := 17) (ct := 13) (suf := [(0, 10, 21, 22)]) (by simp [hl_ex]) rfl (by decide) (by decide) (kk := 375) (by decide +kernel) (kc := 387) (by decide +kernel) (hl_pa_c ⟨by decide, xIOB, by simp [hl_ex], by decide, hl_T_of (k := 486) (by decide +kernel) rfl⟩ hl_pa_n) (fun q => ?_)
      refine hl_segh B okL_setLimit (fun q => nomatch q) 12 1000 rfl ?_
      simp only [pL_setLimit, List.drop_zero, List.drop_succ_cons, hl_wp, hs_ii, hs_i1, hs_ll, hs_l1, hs_ff, hs_g1, hs_dd, hs_d1, hs_r1, hs_rv, hs_rv0, hs_n1, hs_n0, hs_v1i, hs_v1r, hs_a1, hs_d2l, hs_d2i, hs_ri, hs_rl, hs_rg, hs_rd8, hs_rr, hs_rn, hs_ov, hs_gf, hs_po, hs_pfi, hs_pfr, hs_ia, hs_la, hs_da, hs_qa, hs_al, hs_is, hs_ls, hs_ds, hs_iso, hs_lso, hs_dso, hs_rd, hs_f1, hs_f10, hs_f2, hs_f20, hs_in0, hs_in1, hs_lt, hs_le, hs_ge, hs_gt, hs_eq, hs_10, hs_00, hs_01, true_and, and_true, true_imp_iff, false_imp_iff, not_true_eq_false, not_false_eq_true, hs_av, hs_ai, hs_ar, hs_an, hs_aj, hs_ci, hs_cr, hs_cn, hs_cj, hs_cd, hs_cf, hs_q0, hs_q1, reduceIte, Nat.reduceEqDiff, Nat.reduceAdd, Nat.reduceLT, eq_self, List.getElem?_cons_zero, List.getElem?_cons_succ, List.set_cons_zero, List.set_cons_succ, List.length_cons, List.length_nil, Option.toList_some, Option.toList_none, List.cons_append, List.nil_append, Nat.zero_add, Nat.add_zero, List.map_nil, List.sum_nil, List.map_cons, List.sum_cons, Nat.zero_le, hs_set1]
      exact hl_ireth B rfl rfl (hl_dec okL_setLimit 14 rfl) (by decide) (by decide) ⟨ca2, f, by rw [hE1]; exact congrArg (fun z => some (Value.int z)) (by decide +kernel), by rw [hl_set_same hr]; exact w2, fun z => by rw [hE1] at z; cases z⟩
    cases List.mem_singleton.mp hm
    refine hl_catch B (pre := [(0, 10, 13, 20), (0, 10, 17, 13)]) (s0 := 0) (e0 := 10) (hp := 21) (ct := 22) (suf := []) (by simp [hl_ex]) rfl (by decide) (by decide) (kk := 510) (by decide +kernel) (kc := 534) (by decide +kernel) (hl_pa_c ⟨by decide, xIOB, by simp [hl_ex], by decide, hl_T_of (k := 486) (by decide +kernel) rfl⟩ (hl_pa_c ⟨by decide, xIAE, by simp [hl_ex], by decide, hl_T_of (k := 375) (by decide +kernel) rfl⟩ hl_pa_n)) (fun q => ?_)
    refine hl_segh B okL_setLimit (fun q => nomatch q) 15 1000 rfl ?_
    simp only [pL_setLimit, List.drop_zero, List.drop_succ_cons, hl_wp, hs_ii, hs_i1, hs_ll, hs_l1, hs_ff, hs_g1, hs_dd, hs_d1, hs_r1, hs_rv, hs_rv0, hs_n1, hs_n0, hs_v1i, hs_v1r, hs_a1, hs_d2l, hs_d2i, hs_ri, hs_rl, hs_rg, hs_rd8, hs_rr, hs_rn, hs_ov, hs_gf, hs_po, hs_pfi, hs_pfr, hs_ia, hs_la, hs_da, hs_qa, hs_al, hs_is, hs_ls, hs_ds, hs_iso, hs_lso, hs_dso, hs_rd, hs_f1, hs_f10, hs_f2, hs_f20, hs_in0, hs_in1, hs_lt, hs_le, hs_ge, hs_gt, hs_eq, hs_10, hs_00, hs_01, true_and, and_true, true_imp_iff, false_imp_iff, not_true_eq_false, not_false_eq_true, hs_av, hs_ai, hs_ar, hs_an, hs_aj, hs_ci, hs_cr, hs_cn, hs_cj, hs_cd, hs_cf, hs_q0, hs_q1, reduceIte, Nat.reduceEqDiff, Nat.reduceAdd, Nat.reduceLT, eq_self, List.getElem?_cons_zero, List.getElem?_cons_succ, List.set_cons_zero, List.set_cons_succ, List.length_cons, List.length_nil, Option.toList_some, Option.toList_none, List.cons_append, List.nil_append, Nat.zero_add, Nat.add_zero, List.map_nil, List.sum_nil, List.map_cons, List.sum_cons, Nat.zero_le, hs_set1]
    exact hl_ireth B rfl rfl (hl_dec okL_setLimit 17 rfl) (by decide) (by decide) ⟨ca2, f, by rw [hE1]; exact congrArg (fun z => some (Value.int z)) (by decide +kernel), by rw [hl_set_same hr]; exact w2, fun z => by rw [hE1] at z; cases z⟩
theorem oe_setRate {σ : LSt} {x y : Int32} : ∀ E : String, (op_setRate σ x y).1 = some E → E ∈ [xIAE] := by
  intro E h
  unfold op_setRate at h
  rw [ls_res_1] at h
  rcases ls_or_e h with h | h
  · cases er_cur_e h; simp
  (repeat' split at h) <;> first | (cases h; done) | (cases h; simp; done) | (cases er_spe_e h; simp)
theorem ov_setRate {σ : LSt} {x y : Int32} : ∃ v9, (op_setRate σ x y).2.2 = .int v9 := by
  unfold op_setRate
  exact ⟨_, ls_res_v⟩
abbrev mL_setRate : hl_M := (yL_setRate, cL_setRate, 5, (some .int))
theorem mtL_setRate : hl_mh mL_setRate [(0, 10, 13, 13)] 4 := ⟨hl_T_of (k := 550) (by decide +kernel) rfl, hl_T_of (k := 48) (by decide +kernel) rfl, ⟨by decide +kernel, by decide +kernel⟩, by decide +kernel, hl_T_of (k := 549) (by decide +kernel) rfl⟩
set_option maxRecDepth 20000 in
set_option maxHeartbeats 2000000 in
theorem cw_setRate {G : hl_G} {l : Launch} {a ca : Nat → Nat} {σ : LSt} {x y : Int32} {h0 : hl_H} {ro : Nat} {f : Nat → Int64} (hst : l.stackTraces = false) (hI : LInv0 σ) (hr : h0 ro = some (.inl (1, .inr (.inl f)))) :
    hl_Ch G l mL_setRate [(0, 10, 13, 13)] 7 12 90 [.ref (a 0), .int x, .int y, .ref ro] (LSw a ca σ h0) (lw_Q a h0 ro [xIAE] (op_setRate σ x y)) (fun _ _ => False) := by
  refine hl_bodyh (by decide +kernel) (Nat.le_of_ble_eq_true rfl) ?_
  intro p e s m args below meth c B g hg
  refine hl_segh B okL_setRate (fun q => nomatch q) 0 1000 rfl ?_
  simp only [pL_setRate, List.drop_zero, List.drop_succ_cons, hl_wp, hs_ii, hs_i1, hs_ll, hs_l1, hs_ff, hs_g1, hs_dd, hs_d1, hs_r1, hs_rv, hs_rv0, hs_n1, hs_n0, hs_v1i, hs_v1r, hs_a1, hs_d2l, hs_d2i, hs_ri, hs_rl, hs_rg, hs_rd8, hs_rr, hs_rn, hs_ov, hs_gf, hs_po, hs_pfi, hs_pfr, hs_ia, hs_la, hs_da, hs_qa, hs_al, hs_is, hs_ls, hs_ds, hs_iso, hs_lso, hs_dso, hs_rd, hs_f1, hs_f10, hs_f2, hs_f20, hs_in0, hs_in1, hs_lt, hs_le, hs_ge, hs_gt, hs_eq, hs_10, hs_00, hs_01, true_and, and_true, true_imp_iff, false_imp_iff, not_true_eq_false, not_false_eq_true, hs_av, hs_ai, hs_ar, hs_an, hs_aj, hs_ci, hs_cr, hs_cn, hs_cj, hs_cd, hs_cf, hs_q0, hs_q1, reduceIte, Nat.reduceEqDiff, Nat.reduceAdd, Nat.reduceLT, eq_self, List.getElem?_cons_zero, List.getElem?_cons_succ, List.set_cons_zero, List.set_cons_succ, List.length_cons, List.length_nil, Option.toList_some, Option.toList_none, List.cons_append, List.nil_append, Nat.zero_add, Nat.add_zero, List.map_nil, List.sum_nil, List.map_cons, List.sum_cons, Nat.zero_le, hs_set1]
  refine hl_callVh B (As := [.int _, .int _]) (cm_setRate hst hI) mtX7_setRate (hl_dec okL_setRate 5 rfl) (kk := 551) (by decide +kernel) rfl rfl (hg.1.f0) rfl (Nat.le_of_ble_eq_true rfl) (by decide) (by decide) (by decide) (by decide) hg (fun r9 h9 hq => ?_) (fun E h9 hx => ?_)
  · obtain ⟨ca2, rfl, w2, hn⟩ := hq
    have hro : h9 ro = some (.inl (1, .inr (.inl f))) := w2.2.2.2.2.2.2 ro _ hr
    obtain ⟨v9, hv⟩ := ov_setRate (σ := σ) (x := x) (y := y)
    rw [hv]
    refine hl_segh B okL_setRate (fun q => nomatch q) 6 1000 rfl ?_
    simp only [pL_setRate, List.drop_zero, List.drop_succ_cons, hl_wp, hs_ii, hs_i1, hs_ll, hs_l1, hs_ff, hs_g1, hs_dd, hs_d1, hs_r1, hs_rv, hs_rv0, hs_n1, hs_n0, hs_v1i, hs_v1r, hs_a1, hs_d2l, hs_d2i, hs_ri, hs_rl, hs_rg, hs_rd8, hs_rr, hs_rn, hs_ov, hs_gf, hs_po, hs_pfi, hs_pfr, hs_ia, hs_la, hs_da, hs_qa, hs_al, hs_is, hs_ls, hs_ds, hs_iso, hs_lso, hs_dso, hs_rd, hs_f1, hs_f10, hs_f2, hs_f20, hs_in0, hs_in1, hs_lt, hs_le, hs_ge, hs_gt, hs_eq, hs_10, hs_00, hs_01, true_and, and_true, true_imp_iff, false_imp_iff, not_true_eq_false, not_false_eq_true, hs_av, hs_ai, hs_ar, hs_an, hs_aj, hs_ci, hs_cr, hs_cn, hs_cj, hs_cd, hs_cf, hs_q0, hs_q1, reduceIte, Nat.reduceEqDiff, Nat.reduceAdd, Nat.reduceLT, eq_self, List.getElem?_cons_zero, List.getElem?_cons_succ, List.set_cons_zero, List.set_cons_succ, List.length_cons, List.length_nil, Option.toList_some, Option.toList_none, List.cons_append, List.nil_append, Nat.zero_add, Nat.add_zero, List.map_nil, List.sum_nil, List.map_cons, List.sum_cons, Nat.zero_le, hs_set1, hro]
    refine ⟨vp_in_nI (n := 0) (N := 1) (by decide) (by decide), ?_⟩
    refine hl_segh B okL_setRate (fun q => nomatch q) 12 1000 rfl ?_
    simp only [pL_setRate, List.drop_zero, List.drop_succ_cons, hl_wp, hs_ii, hs_i1, hs_ll, hs_l1, hs_ff, hs_g1, hs_dd, hs_d1, hs_r1, hs_rv, hs_rv0, hs_n1, hs_n0, hs_v1i, hs_v1r, hs_a1, hs_d2l, hs_d2i, hs_ri, hs_rl, hs_rg, hs_rd8, hs_rr, hs_rn, hs_ov, hs_gf, hs_po, hs_pfi, hs_pfr, hs_ia, hs_la, hs_da, hs_qa, hs_al, hs_is, hs_ls, hs_ds, hs_iso, hs_lso, hs_dso, hs_rd, hs_f1, hs_f10, hs_f2, hs_f20, hs_in0, hs_in1, hs_lt, hs_le, hs_ge, hs_gt, hs_eq, hs_10, hs_00, hs_01, true_and, and_true, true_imp_iff, false_imp_iff, not_true_eq_false, not_false_eq_true, hs_av, hs_ai, hs_ar, hs_an, hs_aj, hs_ci, hs_cr, hs_cn, hs_cj, hs_cd, hs_cf, hs_q0, hs_q1, reduceIte, Nat.reduceEqDiff, Nat.reduceAdd, Nat.reduceLT, eq_self, List.getElem?_cons_zero, List.getElem?_cons_succ, List.set_cons_zero, List.set_cons_succ, List.length_cons, List.length_nil, Option.toList_some, Option.toList_none, List.cons_append, List.nil_append, Nat.zero_add, Nat.add_zero, List.map_nil, List.sum_nil, List.map_cons, List.sum_cons, Nat.zero_le, hs_set1]
    exact hl_ireth B rfl rfl (hl_dec okL_setRate 13 rfl) (by decide) (by decide) ⟨ca2, _, by rw [hn]; rfl, w2.refr hr _, fun _ => by rw [hv]; rfl⟩
  · obtain ⟨ca2, w2, hE1⟩ := hx
    have hm := oe_setRate _ hE1
    cases List.mem_singleton.mp hm
    refine hl_catch B (pre := []) (s0 := 0) (e0 := 10) (hp := 13) (ct := 13) (suf := []) (by simp [hl_ex]) rfl (by decide) (by decide) (kk := 375) (by decide +kernel) (kc := 387) (by decide +kernel) hl_pa_n (fun q => ?_)
    refine hl_segh B okL_setRate (fun q => nomatch q) 9 1000 rfl ?_
    simp only [pL_setRate, List.drop_zero, List.drop_succ_cons, hl_wp, hs_ii, hs_i1, hs_ll, hs_l1, hs_ff, hs_g1, hs_dd, hs_d1, hs_r1, hs_rv, hs_rv0, hs_n1, hs_n0, hs_v1i, hs_v1r, hs_a1, hs_d2l, hs_d2i, hs_ri, hs_rl, hs_rg, hs_rd8, hs_rr, hs_rn, hs_ov, hs_gf, hs_po, hs_pfi, hs_pfr, hs_ia, hs_la, hs_da, hs_qa, hs_al, hs_is, hs_ls, hs_ds, hs_iso, hs_lso, hs_dso, hs_rd, hs_f1, hs_f10, hs_f2, hs_f20, hs_in0, hs_in1, hs_lt, hs_le, hs_ge, hs_gt, hs_eq, hs_10, hs_00, hs_01, true_and, and_true, true_imp_iff, false_imp_iff, not_true_eq_false, not_false_eq_true, hs_av, hs_ai, hs_ar, hs_an, hs_aj, hs_ci, hs_cr, hs_cn, hs_cj, hs_cd, hs_cf, hs_q0, hs_q1, reduceIte, Nat.reduceEqDiff, Nat.reduceAdd, Nat.reduceLT, eq_self, List.getElem?_cons_zero, List.getElem?_cons_succ, List.set_cons_zero, List.set_cons_succ, List.length_cons, List.length_nil, Option.toList_some, Option.toList_none, List.cons_append, List.nil_append, Nat.zero_add, Nat.add_zero, List.map_nil, List.sum_nil, List.map_cons, List.sum_cons, Nat.zero_le, hs_set1]
    exact hl_ireth B rfl rfl (hl_dec okL_setRate 11 rfl) (by decide) (by decide) ⟨ca2, f, by rw [hE1]; exact congrArg (fun z => some (Value.int z)) (by decide +kernel), by rw [hl_set_same hr]; exact w2, fun z => by rw [hE1] at z; cases z⟩
theorem oe_deposit {σ : LSt} {k1 x v : Int32} : ∀ E : String, (op_deposit σ k1 x v).1 = some E → E ∈ [xIAE, xIOB, xISE] := by
  intro E h
  unfold op_deposit at h
  unfold ls_kd at h
  split at h
  · cases h
  rw [ls_res_1] at h
  rcases ls_or_e h with h | h
  · cases er_key_e h; simp
  rcases ls_or_e h with h | h
  · cases er_amt_e h; simp
  rcases ls_or_e h with h | h
  · cases er_acc_e h; simp
  cases er_roo_e h; simp
theorem ov_deposit {σ : LSt} {k1 x v : Int32} : ∃ v9, (op_deposit σ k1 x v).2.2 = .int v9 := by
  unfold op_deposit
  exact ls_kd_v
abbrev mL_deposit : hl_M := (yL_deposit, cL_deposit, 6, (some .int))
theorem mtL_deposit : hl_mh mL_deposit [(0, 12, 15, 13), (0, 12, 19, 20), (0, 12, 23, 15)] 5 := ⟨hl_T_of (k := 558) (by decide +kernel) rfl, hl_T_of (k := 48) (by decide +kernel) rfl, ⟨by decide +kernel, by decide +kernel⟩, by decide +kernel, hl_T_of (k := 557) (by decide +kernel) rfl⟩
set_option maxRecDepth 20000 in
set_option maxHeartbeats 2000000 in
theorem cw_deposit {G : hl_G} {l : Launch} {a ca : Nat → Nat} {σ : LSt} {k1 x v : Int32} {h0 : hl_H} {ro : Nat} {f : Nat → Int64} (hst : l.stackTraces = false) (hI : LInv0 σ) (hr : h0 ro = some (.inl (1, .inr (.inl f)))) :
    hl_Ch G l mL_deposit [(0, 12, 15, 13), (0, 12, 19, 20), (0, 12, 23, 15)] 7 12 90 [.ref (a 0), .int k1, .int x, .int v, .ref ro] (LSw a ca σ h0) (lw_Q a h0 ro [xIAE, xIOB, xISE] (op_deposit σ k1 x v)) (fun _ _ => False) := by
  refine hl_bodyh (by decide +kernel) (Nat.le_of_ble_eq_true rfl) ?_
  intro p e s m args below meth c B g hg
  refine hl_segh B okL_deposit (fun q => nomatch q) 0 1000 rfl ?_
  simp only [pL_deposit, List.drop_zero, List.drop_succ_cons, hl_wp, hs_ii, hs_i1, hs_ll, hs_l1, hs_ff, hs_g1, hs_dd, hs_d1, hs_r1, hs_rv, hs_rv0, hs_n1, hs_n0, hs_v1i, hs_v1r, hs_a1, hs_d2l, hs_d2i, hs_ri, hs_rl, hs_rg, hs_rd8, hs_rr, hs_rn, hs_ov, hs_gf, hs_po, hs_pfi, hs_pfr, hs_ia, hs_la, hs_da, hs_qa, hs_al, hs_is, hs_ls, hs_ds, hs_iso, hs_lso, hs_dso, hs_rd, hs_f1, hs_f10, hs_f2, hs_f20, hs_in0, hs_in1, hs_lt, hs_le, hs_ge, hs_gt, hs_eq, hs_10, hs_00, hs_01, true_and, and_true, true_imp_iff, false_imp_iff, not_true_eq_false, not_false_eq_true, hs_av, hs_ai, hs_ar, hs_an, hs_aj, hs_ci, hs_cr, hs_cn, hs_cj, hs_cd, hs_cf, hs_q0, hs_q1, reduceIte, Nat.reduceEqDiff, Nat.reduceAdd, Nat.reduceLT, eq_self, List.getElem?_cons_zero, List.getElem?_cons_succ, List.set_cons_zero, List.set_cons_succ, List.length_cons, List.length_nil, Option.toList_some, Option.toList_none, List.cons_append, List.nil_append, Nat.zero_add, Nat.add_zero, List.map_nil, List.sum_nil, List.map_cons, List.sum_cons, Nat.zero_le, hs_set1]
  refine hl_callVh B (As := [.int _, .int _, .int _]) (cm_deposit hst hI) mtX7_deposit (hl_dec okL_deposit 6 rfl) (kk := 559) (by decide +kernel) rfl rfl (hg.1.f0) rfl (Nat.le_of_ble_eq_true rfl) (by decide) (by decide) (by decide) (by decide) hg (fun r9 h9 hq => ?_) (fun E h9 hx => ?_)
  · obtain ⟨ca2, rfl, w2, hn⟩ := hq
    have hro : h9 ro = some (.inl (1, .inr (.inl f))) := w2.2.2.2.2.2.2 ro _ hr
    obtain ⟨v9, hv⟩ := ov_deposit (σ := σ) (k1 := k1) (x := x) (v := v)
    rw [hv]
    refine hl_segh B okL_deposit (fun q => nomatch q) 7 1000 rfl ?_
    simp only [pL_deposit, List.drop_zero, List.drop_succ_cons, hl_wp, hs_ii, hs_i1, hs_ll, hs_l1, hs_ff, hs_g1, hs_dd, hs_d1, hs_r1, hs_rv, hs_rv0, hs_n1, hs_n0, hs_v1i, hs_v1r, hs_a1, hs_d2l, hs_d2i, hs_ri, hs_rl, hs_rg, hs_rd8, hs_rr, hs_rn, hs_ov, hs_gf, hs_po, hs_pfi, hs_pfr, hs_ia, hs_la, hs_da, hs_qa, hs_al, hs_is, hs_ls, hs_ds, hs_iso, hs_lso, hs_dso, hs_rd, hs_f1, hs_f10, hs_f2, hs_f20, hs_in0, hs_in1, hs_lt, hs_le, hs_ge, hs_gt, hs_eq, hs_10, hs_00, hs_01, true_and, and_true, true_imp_iff, false_imp_iff, not_true_eq_false, not_false_eq_true, hs_av, hs_ai, hs_ar, hs_an, hs_aj, hs_ci, hs_cr, hs_cn, hs_cj, hs_cd, hs_cf, hs_q0, hs_q1, reduceIte, Nat.reduceEqDiff, Nat.reduceAdd, Nat.reduceLT, eq_self, List.getElem?_cons_zero, List.getElem?_cons_succ, List.set_cons_zero, List.set_cons_succ, List.length_cons, List.length_nil, Option.toList_some, Option.toList_none, List.cons_append, List.nil_append, Nat.zero_add, Nat.add_zero, List.map_nil, List.sum_nil, List.map_cons, List.sum_cons, Nat.zero_le, hs_set1, hro]
    refine ⟨vp_in_nI (n := 0) (N := 1) (by decide) (by decide), ?_⟩
    refine hl_segh B okL_deposit (fun q => nomatch q) 19 1000 rfl ?_
    simp only [pL_deposit, List.drop_zero, List.drop_succ_cons, hl_wp, hs_ii, hs_i1, hs_ll, hs_l1, hs_ff, hs_g1, hs_dd, hs_d1, hs_r1, hs_rv, hs_rv0, hs_n1, hs_n0, hs_v1i, hs_v1r, hs_a1, hs_d2l, hs_d2i, hs_ri, hs_rl, hs_rg, hs_rd8, hs_rr, hs_rn, hs_ov, hs_gf, hs_po, hs_pfi, hs_pfr, hs_ia, hs_la, hs_da, hs_qa, hs_al, hs_is, hs_ls, hs_ds, hs_iso, hs_lso, hs_dso, hs_rd, hs_f1, hs_f10, hs_f2, hs_f20, hs_in0, hs_in1, hs_lt, hs_le, hs_ge, hs_gt, hs_eq, hs_10, hs_00, hs_01, true_and, and_true, true_imp_iff, false_imp_iff, not_true_eq_false, not_false_eq_true, hs_av, hs_ai, hs_ar, hs_an, hs_aj, hs_ci, hs_cr, hs_cn, hs_cj, hs_cd, hs_cf, hs_q0, hs_q1, reduceIte, Nat.reduceEqDiff, Nat.reduceAdd, Nat.reduceLT, eq_self, List.getElem?_cons_zero, List.getElem?_cons_succ, List.set_cons_zero, List.set_cons_succ, List.length_cons, List.length_nil, Option.toList_some, Option.toList_none, List.cons_append, List.nil_append, Nat.zero_add, Nat.add_zero, List.map_nil, List.sum_nil, List.map_cons, List.sum_cons, Nat.zero_le, hs_set1]
    exact hl_ireth B rfl rfl (hl_dec okL_deposit 20 rfl) (by decide) (by decide) ⟨ca2, _, by rw [hn]; rfl, w2.refr hr _, fun _ => by rw [hv]; rfl⟩
  · obtain ⟨ca2, w2, hE1⟩ := hx
    have hm := oe_deposit _ hE1
    rcases List.mem_cons.mp hm with rfl | hm
    · skip
      refine hl_catch B (pre := []) (s0 := 0) (e0 := 12) (hp := 15) (ct := 13) (suf := [(0, 12, 19, 20), (0, 12, 23, 15)]) (by simp [hl_ex]) rfl (by decide) (by decide) (kk := 375) (by decide +kernel) (kc := 387) (by decide +kernel) hl_pa_n (fun q => ?_)
      refine hl_segh B okL_deposit (fun q => nomatch q) 10 1000 rfl ?_
      simp only [pL_deposit, List.drop_zero, List.drop_succ_cons, hl_wp, hs_ii, hs_i1, hs_ll, hs_l1, hs_ff, hs_g1, hs_dd, hs_d1, hs_r1, hs_rv, hs_rv0, hs_n1, hs_n0, hs_v1i, hs_v1r, hs_a1, hs_d2l, hs_d2i, hs_ri, hs_rl, hs_rg, hs_rd8, hs_rr, hs_rn, hs_ov, hs_gf, hs_po, hs_pfi, hs_pfr, hs_ia, hs_la, hs_da, hs_qa, hs_al, hs_is, hs_ls, hs_ds, hs_iso, hs_lso, hs_dso, hs_rd, hs_f1, hs_f10, hs_f2, hs_f20, hs_in0, hs_in1, hs_lt, hs_le, hs_ge, hs_gt, hs_eq, hs_10, hs_00, hs_01, true_and, and_true, true_imp_iff, false_imp_iff, not_true_eq_false, not_false_eq_true, hs_av, hs_ai, hs_ar, hs_an, hs_aj, hs_ci, hs_cr, hs_cn, hs_cj, hs_cd, hs_cf, hs_q0, hs_q1, reduceIte, Nat.reduceEqDiff, Nat.reduceAdd, Nat.reduceLT, eq_self, List.getElem?_cons_zero, List.getElem?_cons_succ, List.set_cons_zero, List.set_cons_succ, List.length_cons, List.length_nil, Option.toList_some, Option.toList_none, List.cons_append, List.nil_append, Nat.zero_add, Nat.add_zero, List.map_nil, List.sum_nil, List.map_cons, List.sum_cons, Nat.zero_le, hs_set1]
      exact hl_ireth B rfl rfl (hl_dec okL_deposit 12 rfl) (by decide) (by decide) ⟨ca2, f, by rw [hE1]; exact congrArg (fun z => some (Value.int z)) (by decide +kernel), by rw [hl_set_same hr]; exact w2, fun z => by rw [hE1] at z; cases z⟩
    rcases List.mem_cons.mp hm with rfl | hm
    · skip
      refine hl_catch B (pre := [(0, 12, 15, 13)]) (s0 := 0) (e0 := 12) (hp := 19) (ct := 20) (suf := [(0, 12, 23, 15)]) (by simp [hl_ex]) rfl (by decide) (by decide) (kk := 486) (by decide +kernel) (kc := 521) (by decide +kernel) (hl_pa_c ⟨by decide, xIAE, by simp [hl_ex], by decide, hl_T_of (k := 375) (by decide +kernel) rfl⟩ hl_pa_n) (fun q => ?_)
      refine hl_segh B okL_deposit (fun q => nomatch q) 13 1000 rfl ?_
      simp only [pL_deposit, List.drop_zero, List.drop_succ_cons, hl_wp, hs_ii, hs_i1, hs_ll, hs_l1, hs_ff, hs_g1, hs_dd, hs_d1, hs_r1, hs_rv, hs_rv0, hs_n1, hs_n0, hs_v1i, hs_v1r, hs_a1, hs_d2l, hs_d2i, hs_ri, hs_rl, hs_rg, hs_rd8, hs_rr, hs_rn, hs_ov, hs_gf, hs_po, hs_pfi, hs_pfr, hs_ia, hs_la, hs_da, hs_qa, hs_al, hs_is, hs_ls, hs_ds, hs_iso, hs_lso, hs_dso, hs_rd, hs_f1, hs_f10, hs_f2, hs_f20, hs_in0, hs_in1, hs_lt, hs_le, hs_ge, hs_gt, hs_eq, hs_10, hs_00, hs_01, true_and, and_true, true_imp_iff, false_imp_iff, not_true_eq_false, not_false_eq_true, hs_av, hs_ai, hs_ar, hs_an, hs_aj, hs_ci, hs_cr, hs_cn, hs_cj, hs_cd, hs_cf, hs_q0, hs_q1, reduceIte, Nat.reduceEqDiff, Nat.reduceAdd, Nat.reduceLT, eq_self, List.getElem?_cons_zero, List.getElem?_cons_succ, List.set_cons_zero, List.set_cons_succ, List.length_cons, List.length_nil, Option.toList_some, Option.toList_none, List.cons_append, List.nil_append, Nat.zero_add, Nat.add_zero, List.map_nil, List.sum_nil, List.map_cons, List.sum_cons, Nat.zero_le, hs_set1]
      exact hl_ireth B rfl rfl (hl_dec okL_deposit 15 rfl) (by decide) (by decide) ⟨ca2, f, by rw [hE1]; exact congrArg (fun z => some (Value.int z)) (by decide +kernel), by rw [hl_set_same hr]; exact w2, fun z => by rw [hE1] at z; cases z⟩
    cases List.mem_singleton.mp hm
    refine hl_catch B (pre := [(0, 12, 15, 13), (0, 12, 19, 20)]) (s0 := 0) (e0 := 12) (hp := 23) (ct := 15) (suf := []) (by simp [hl_ex]) rfl (by decide) (by decide) (kk := 376) (by decide +kernel) (kc := 465) (by decide +kernel) (hl_pa_c ⟨by decide, xIAE, by simp [hl_ex], by decide, hl_T_of (k := 375) (by decide +kernel) rfl⟩ (hl_pa_c ⟨by decide, xIOB, by simp [hl_ex], by decide, hl_T_of (k := 486) (by decide +kernel) rfl⟩ hl_pa_n)) (fun q => ?_)
    refine hl_segh B okL_deposit (fun q => nomatch q) 16 1000 rfl ?_
    simp only [pL_deposit, List.drop_zero, List.drop_succ_cons, hl_wp, hs_ii, hs_i1, hs_ll, hs_l1, hs_ff, hs_g1, hs_dd, hs_d1, hs_r1, hs_rv, hs_rv0, hs_n1, hs_n0, hs_v1i, hs_v1r, hs_a1, hs_d2l, hs_d2i, hs_ri, hs_rl, hs_rg, hs_rd8, hs_rr, hs_rn, hs_ov, hs_gf, hs_po, hs_pfi, hs_pfr, hs_ia, hs_la, hs_da, hs_qa, hs_al, hs_is, hs_ls, hs_ds, hs_iso, hs_lso, hs_dso, hs_rd, hs_f1, hs_f10, hs_f2, hs_f20, hs_in0, hs_in1, hs_lt, hs_le, hs_ge, hs_gt, hs_eq, hs_10, hs_00, hs_01, true_and, and_true, true_imp_iff, false_imp_iff, not_true_eq_false, not_false_eq_true, hs_av, hs_ai, hs_ar, hs_an, hs_aj, hs_ci, hs_cr, hs_cn, hs_cj, hs_cd, hs_cf, hs_q0, hs_q1, reduceIte, Nat.reduceEqDiff, Nat.reduceAdd, Nat.reduceLT, eq_self, List.getElem?_cons_zero, List.getElem?_cons_succ, List.set_cons_zero, List.set_cons_succ, List.length_cons, List.length_nil, Option.toList_some, Option.toList_none, List.cons_append, List.nil_append, Nat.zero_add, Nat.add_zero, List.map_nil, List.sum_nil, List.map_cons, List.sum_cons, Nat.zero_le, hs_set1]
    exact hl_ireth B rfl rfl (hl_dec okL_deposit 18 rfl) (by decide) (by decide) ⟨ca2, f, by rw [hE1]; exact congrArg (fun z => some (Value.int z)) (by decide +kernel), by rw [hl_set_same hr]; exact w2, fun z => by rw [hE1] at z; cases z⟩
theorem oe_withdraw {σ : LSt} {k1 x v : Int32} : ∀ E : String, (op_withdraw σ k1 x v).1 = some E → E ∈ [xIAE, xIOB, xUOE, xISE] := by
  intro E h
  unfold op_withdraw at h
  unfold ls_kd at h
  split at h
  · cases h
  rw [ls_res_1] at h
  rcases ls_or_e h with h | h
  · cases er_key_e h; simp
  rcases ls_or_e h with h | h
  · cases er_amt_e h; simp
  rcases ls_or_e h with h | h
  · cases er_acc_e h; simp
  rcases ls_or_e h with h | h
  · cases er_spe_e h; simp
  cases er_roo_e h; simp
theorem ov_withdraw {σ : LSt} {k1 x v : Int32} : ∃ v9, (op_withdraw σ k1 x v).2.2 = .int v9 := by
  unfold op_withdraw
  exact ls_kd_v
abbrev mL_withdraw : hl_M := (yL_withdraw, cL_withdraw, 6, (some .int))
theorem mtL_withdraw : hl_mh mL_withdraw [(0, 12, 15, 13), (0, 12, 19, 20), (0, 12, 23, 22), (0, 12, 27, 15)] 5 := ⟨hl_T_of (k := 658) (by decide +kernel) rfl, hl_T_of (k := 48) (by decide +kernel) rfl, ⟨by decide +kernel, by decide +kernel⟩, by decide +kernel, hl_T_of (k := 657) (by decide +kernel) rfl⟩
set_option maxRecDepth 20000 in
set_option maxHeartbeats 2000000 in
theorem cw_withdraw {G : hl_G} {l : Launch} {a ca : Nat → Nat} {σ : LSt} {k1 x v : Int32} {h0 : hl_H} {ro : Nat} {f : Nat → Int64} (hst : l.stackTraces = false) (hI : LInv0 σ) (hr : h0 ro = some (.inl (1, .inr (.inl f)))) :
    hl_Ch G l mL_withdraw [(0, 12, 15, 13), (0, 12, 19, 20), (0, 12, 23, 22), (0, 12, 27, 15)] 7 12 90 [.ref (a 0), .int k1, .int x, .int v, .ref ro] (LSw a ca σ h0) (lw_Q a h0 ro [xIAE, xIOB, xUOE, xISE] (op_withdraw σ k1 x v)) (fun _ _ => False) := by
  refine hl_bodyh (by decide +kernel) (Nat.le_of_ble_eq_true rfl) ?_
  intro p e s m args below meth c B g hg
  refine hl_segh B okL_withdraw (fun q => nomatch q) 0 1000 rfl ?_
  simp only [pL_withdraw, List.drop_zero, List.drop_succ_cons, hl_wp, hs_ii, hs_i1, hs_ll, hs_l1, hs_ff, hs_g1, hs_dd, hs_d1, hs_r1, hs_rv, hs_rv0, hs_n1, hs_n0, hs_v1i, hs_v1r, hs_a1, hs_d2l, hs_d2i, hs_ri, hs_rl, hs_rg, hs_rd8, hs_rr, hs_rn, hs_ov, hs_gf, hs_po, hs_pfi, hs_pfr, hs_ia, hs_la, hs_da, hs_qa, hs_al, hs_is, hs_ls, hs_ds, hs_iso, hs_lso, hs_dso, hs_rd, hs_f1, hs_f10, hs_f2, hs_f20, hs_in0, hs_in1, hs_lt, hs_le, hs_ge, hs_gt, hs_eq, hs_10, hs_00, hs_01, true_and, and_true, true_imp_iff, false_imp_iff, not_true_eq_false, not_false_eq_true, hs_av, hs_ai, hs_ar, hs_an, hs_aj, hs_ci, hs_cr, hs_cn, hs_cj, hs_cd, hs_cf, hs_q0, hs_q1, reduceIte, Nat.reduceEqDiff, Nat.reduceAdd, Nat.reduceLT, eq_self, List.getElem?_cons_zero, List.getElem?_cons_succ, List.set_cons_zero, List.set_cons_succ, List.length_cons, List.length_nil, Option.toList_some, Option.toList_none, List.cons_append, List.nil_append, Nat.zero_add, Nat.add_zero, List.map_nil, List.sum_nil, List.map_cons, List.sum_cons, Nat.zero_le, hs_set1]
  refine hl_callVh B (As := [.int _, .int _, .int _]) (cm_withdraw hst hI) mtX7_withdraw (hl_dec okL_withdraw 6 rfl) (kk := 659) (by decide +kernel) rfl rfl (hg.1.f0) rfl (Nat.le_of_ble_eq_true rfl) (by decide) (by decide) (by decide) (by decide) hg (fun r9 h9 hq => ?_) (fun E h9 hx => ?_)
  · obtain ⟨ca2, rfl, w2, hn⟩ := hq
    have hro : h9 ro = some (.inl (1, .inr (.inl f))) := w2.2.2.2.2.2.2 ro _ hr
    obtain ⟨v9, hv⟩ := ov_withdraw (σ := σ) (k1 := k1) (x := x) (v := v)
    rw [hv]
    refine hl_segh B okL_withdraw (fun q => nomatch q) 7 1000 rfl ?_
    simp only [pL_withdraw, List.drop_zero, List.drop_succ_cons, hl_wp, hs_ii, hs_i1, hs_ll, hs_l1, hs_ff, hs_g1, hs_dd, hs_d1, hs_r1, hs_rv, hs_rv0, hs_n1, hs_n0, hs_v1i, hs_v1r, hs_a1, hs_d2l, hs_d2i, hs_ri, hs_rl, hs_rg, hs_rd8, hs_rr, hs_rn, hs_ov, hs_gf, hs_po, hs_pfi, hs_pfr, hs_ia, hs_la, hs_da, hs_qa, hs_al, hs_is, hs_ls, hs_ds, hs_iso, hs_lso, hs_dso, hs_rd, hs_f1, hs_f10, hs_f2, hs_f20, hs_in0, hs_in1, hs_lt, hs_le, hs_ge, hs_gt, hs_eq, hs_10, hs_00, hs_01, true_and, and_true, true_imp_iff, false_imp_iff, not_true_eq_false, not_false_eq_true, hs_av, hs_ai, hs_ar, hs_an, hs_aj, hs_ci, hs_cr, hs_cn, hs_cj, hs_cd, hs_cf, hs_q0, hs_q1, reduceIte, Nat.reduceEqDiff, Nat.reduceAdd, Nat.reduceLT, eq_self, List.getElem?_cons_zero, List.getElem?_cons_succ, List.set_cons_zero, List.set_cons_succ, List.length_cons, List.length_nil, Option.toList_some, Option.toList_none, List.cons_append, List.nil_append, Nat.zero_add, Nat.add_zero, List.map_nil, List.sum_nil, List.map_cons, List.sum_cons, Nat.zero_le, hs_set1, hro]
    refine ⟨vp_in_nI (n := 0) (N := 1) (by decide) (by decide), ?_⟩
    refine hl_segh B okL_withdraw (fun q => nomatch q) 22 1000 rfl ?_
    simp only [pL_withdraw, List.drop_zero, List.drop_succ_cons, hl_wp, hs_ii, hs_i1, hs_ll, hs_l1, hs_ff, hs_g1, hs_dd, hs_d1, hs_r1, hs_rv, hs_rv0, hs_n1, hs_n0, hs_v1i, hs_v1r, hs_a1, hs_d2l, hs_d2i, hs_ri, hs_rl, hs_rg, hs_rd8, hs_rr, hs_rn, hs_ov, hs_gf, hs_po, hs_pfi, hs_pfr, hs_ia, hs_la, hs_da, hs_qa, hs_al, hs_is, hs_ls, hs_ds, hs_iso, hs_lso, hs_dso, hs_rd, hs_f1, hs_f10, hs_f2, hs_f20, hs_in0, hs_in1, hs_lt, hs_le, hs_ge, hs_gt, hs_eq, hs_10, hs_00, hs_01, true_and, and_true, true_imp_iff, false_imp_iff, not_true_eq_false, not_false_eq_true, hs_av, hs_ai, hs_ar, hs_an, hs_aj, hs_ci, hs_cr, hs_cn, hs_cj, hs_cd, hs_cf, hs_q0, hs_q1, reduceIte, Nat.reduceEqDiff, Nat.reduceAdd, Nat.reduceLT, eq_self, List.getElem?_cons_zero, List.getElem?_cons_succ, List.set_cons_zero, List.set_cons_succ, List.length_cons, List.length_nil, Option.toList_some, Option.toList_none, List.cons_append, List.nil_append, Nat.zero_add, Nat.add_zero, List.map_nil, List.sum_nil, List.map_cons, List.sum_cons, Nat.zero_le, hs_set1]
    exact hl_ireth B rfl rfl (hl_dec okL_withdraw 23 rfl) (by decide) (by decide) ⟨ca2, _, by rw [hn]; rfl, w2.refr hr _, fun _ => by rw [hv]; rfl⟩
  · obtain ⟨ca2, w2, hE1⟩ := hx
    have hm := oe_withdraw _ hE1
    rcases List.mem_cons.mp hm with rfl | hm
    · skip
      refine hl_catch B (pre := []) (s0 := 0) (e0 := 12) (hp := 15) (ct := 13) (suf := [(0, 12, 19, 20), (0, 12, 23, 22), (0, 12, 27, 15)]) (by simp [hl_ex]) rfl (by decide) (by decide) (kk := 375) (by decide +kernel) (kc := 387) (by decide +kernel) hl_pa_n (fun q => ?_)
      refine hl_segh B okL_withdraw (fun q => nomatch q) 10 1000 rfl ?_
      simp only [pL_withdraw, List.drop_zero, List.drop_succ_cons, hl_wp, hs_ii, hs_i1, hs_ll, hs_l1, hs_ff, hs_g1, hs_dd, hs_d1, hs_r1, hs_rv, hs_rv0, hs_n1, hs_n0, hs_v1i, hs_v1r, hs_a1, hs_d2l, hs_d2i, hs_ri, hs_rl, hs_rg, hs_rd8, hs_rr, hs_rn, hs_ov, hs_gf, hs_po, hs_pfi, hs_pfr, hs_ia, hs_la, hs_da, hs_qa, hs_al, hs_is, hs_ls, hs_ds, hs_iso, hs_lso, hs_dso, hs_rd, hs_f1, hs_f10, hs_f2, hs_f20, hs_in0, hs_in1, hs_lt, hs_le, hs_ge, hs_gt, hs_eq, hs_10, hs_00, hs_01, true_and, and_true, true_imp_iff, false_imp_iff, not_true_eq_false, not_false_eq_true, hs_av, hs_ai, hs_ar, hs_an, hs_aj, hs_ci, hs_cr, hs_cn, hs_cj, hs_cd, hs_cf, hs_q0, hs_q1, reduceIte, Nat.reduceEqDiff, Nat.reduceAdd, Nat.reduceLT, eq_self, List.getElem?_cons_zero, List.getElem?_cons_succ, List.set_cons_zero, List.set_cons_succ, List.length_cons, List.length_nil, Option.toList_some, Option.toList_none, List.cons_append, List.nil_append, Nat.zero_add, Nat.add_zero, List.map_nil, List.sum_nil, List.map_cons, List.sum_cons, Nat.zero_le, hs_set1]
      exact hl_ireth B rfl rfl (hl_dec okL_withdraw 12 rfl) (by decide) (by decide) ⟨ca2, f, by rw [hE1]; exact congrArg (fun z => some (Value.int z)) (by decide +kernel), by rw [hl_set_same hr]; exact w2, fun z => by rw [hE1] at z; cases z⟩
    rcases List.mem_cons.mp hm with rfl | hm
    · skip
      refine hl_catch B (pre := [(0, 12, 15, 13)]) (s0 := 0) (e0 := 12) (hp := 19) (ct := 20) (suf := [(0, 12, 23, 22), (0, 12, 27, 15)]) (by simp [hl_ex]) rfl (by decide) (by decide) (kk := 486) (by decide +kernel) (kc := 521) (by decide +kernel) (hl_pa_c ⟨by decide, xIAE, by simp [hl_ex], by decide, hl_T_of (k := 375) (by decide +kernel) rfl⟩ hl_pa_n) (fun q => ?_)
      refine hl_segh B okL_withdraw (fun q => nomatch q) 13 1000 rfl ?_
      simp only [pL_withdraw, List.drop_zero, List.drop_succ_cons, hl_wp, hs_ii, hs_i1, hs_ll, hs_l1, hs_ff, hs_g1, hs_dd, hs_d1, hs_r1, hs_rv, hs_rv0, hs_n1, hs_n0, hs_v1i, hs_v1r, hs_a1, hs_d2l, hs_d2i, hs_ri, hs_rl, hs_rg, hs_rd8, hs_rr, hs_rn, hs_ov, hs_gf, hs_po, hs_pfi, hs_pfr, hs_ia, hs_la, hs_da, hs_qa, hs_al, hs_is, hs_ls, hs_ds, hs_iso, hs_lso, hs_dso, hs_rd, hs_f1, hs_f10, hs_f2, hs_f20, hs_in0, hs_in1, hs_lt, hs_le, hs_ge, hs_gt, hs_eq, hs_10, hs_00, hs_01, true_and, and_true, true_imp_iff, false_imp_iff, not_true_eq_false, not_false_eq_true, hs_av, hs_ai, hs_ar, hs_an, hs_aj, hs_ci, hs_cr, hs_cn, hs_cj, hs_cd, hs_cf, hs_q0, hs_q1, reduceIte, Nat.reduceEqDiff, Nat.reduceAdd, Nat.reduceLT, eq_self, List.getElem?_cons_zero, List.getElem?_cons_succ, List.set_cons_zero, List.set_cons_succ, List.length_cons, List.length_nil, Option.toList_some, Option.toList_none, List.cons_append, List.nil_append, Nat.zero_add, Nat.add_zero, List.map_nil, List.sum_nil, List.map_cons, List.sum_cons, Nat.zero_le, hs_set1]
      exact hl_ireth B rfl rfl (hl_dec okL_withdraw 15 rfl) (by decide) (by decide) ⟨ca2, f, by rw [hE1]; exact congrArg (fun z => some (Value.int z)) (by decide +kernel), by rw [hl_set_same hr]; exact w2, fun z => by rw [hE1] at z; cases z⟩
    rcases List.mem_cons.mp hm with rfl | hm
    · skip
      refine hl_catch B (pre := [(0, 12, 15, 13), (0, 12, 19, 20)]) (s0 := 0) (e0 := 12) (hp := 23) (ct := 22) (suf := [(0, 12, 27, 15)]) (by simp [hl_ex]) rfl (by decide) (by decide) (kk := 510) (by decide +kernel) (kc := 534) (by decide +kernel) (hl_pa_c ⟨by decide, xIAE, by simp [hl_ex], by decide, hl_T_of (k := 375) (by decide +kernel) rfl⟩ (hl_pa_c ⟨by decide, xIOB, by simp [hl_ex], by decide, hl_T_of (k := 486) (by decide +kernel) rfl⟩ hl_pa_n)) (fun q => ?_)
      refine hl_segh B okL_withdraw (fun q => nomatch q) 16 1000 rfl ?_
      simp only [pL_withdraw, List.drop_zero, List.drop_succ_cons, hl_wp, hs_ii, hs_i1, hs_ll, hs_l1, hs_ff, hs_g1, hs_dd, hs_d1, hs_r1, hs_rv, hs_rv0, hs_n1, hs_n0, hs_v1i, hs_v1r, hs_a1, hs_d2l, hs_d2i, hs_ri, hs_rl, hs_rg, hs_rd8, hs_rr, hs_rn, hs_ov, hs_gf, hs_po, hs_pfi, hs_pfr, hs_ia, hs_la, hs_da, hs_qa, hs_al, hs_is, hs_ls, hs_ds, hs_iso, hs_lso, hs_dso, hs_rd, hs_f1, hs_f10, hs_f2, hs_f20, hs_in0, hs_in1, hs_lt, hs_le, hs_ge, hs_gt, hs_eq, hs_10, hs_00, hs_01, true_and, and_true, true_imp_iff, false_imp_iff, not_true_eq_false, not_false_eq_true, hs_av, hs_ai, hs_ar, hs_an, hs_aj, hs_ci, hs_cr, hs_cn, hs_cj, hs_cd, hs_cf, hs_q0, hs_q1, reduceIte, Nat.reduceEqDiff, Nat.reduceAdd, Nat.reduceLT, eq_self, List.getElem?_cons_zero, List.getElem?_cons_succ, List.set_cons_zero, List.set_cons_succ, List.length_cons, List.length_nil, Option.toList_some, Option.toList_none, List.cons_append, List.nil_append, Nat.zero_add, Nat.add_zero, List.map_nil, List.sum_nil, List.map_cons, List.sum_cons, Nat.zero_le, hs_set1]
      exact hl_ireth B rfl rfl (hl_dec okL_withdraw 18 rfl) (by decide) (by decide) ⟨ca2, f, by rw [hE1]; exact congrArg (fun z => some (Value.int z)) (by decide +kernel), by rw [hl_set_same hr]; exact w2, fun z => by rw [hE1] at z; cases z⟩
    cases List.mem_singleton.mp hm
    refine hl_catch B (pre := [(0, 12, 15, 13), (0, 12, 19, 20), (0, 12, 23, 22)]) (s0 := 0) (e0 := 12) (hp := 27) (ct := 15) (suf := []) (by simp [hl_ex]) rfl (by decide) (by decide) (kk := 376) (by decide +kernel) (kc := 465) (by decide +kernel) (hl_pa_c ⟨by decide, xIAE, by simp [hl_ex], by decide, hl_T_of (k := 375) (by decide +kernel) rfl⟩ (hl_pa_c ⟨by decide, xIOB, by simp [hl_ex], by decide, hl_T_of (k := 486) (by decide +kernel) rfl⟩ (hl_pa_c ⟨by decide, xUOE, by simp [hl_ex], by decide, hl_T_of (k := 510) (by decide +kernel) rfl⟩ hl_pa_n))) (fun q => ?_)
    refine hl_segh B okL_withdraw (fun q => nomatch q) 19 1000 rfl ?_
    simp only [pL_withdraw, List.drop_zero, List.drop_succ_cons, hl_wp, hs_ii, hs_i1, hs_ll, hs_l1, hs_ff, hs_g1, hs_dd, hs_d1, hs_r1, hs_rv, hs_rv0, hs_n1, hs_n0, hs_v1i, hs_v1r, hs_a1, hs_d2l, hs_d2i, hs_ri, hs_rl, hs_rg, hs_rd8, hs_rr, hs_rn, hs_ov, hs_gf, hs_po, hs_pfi, hs_pfr, hs_ia, hs_la, hs_da, hs_qa, hs_al, hs_is, hs_ls, hs_ds, hs_iso, hs_lso, hs_dso, hs_rd, hs_f1, hs_f10, hs_f2, hs_f20, hs_in0, hs_in1, hs_lt, hs_le, hs_ge, hs_gt, hs_eq, hs_10, hs_00, hs_01, true_and, and_true, true_imp_iff, false_imp_iff, not_true_eq_false, not_false_eq_true, hs_av, hs_ai, hs_ar, hs_an, hs_aj, hs_ci, hs_cr, hs_cn, hs_cj, hs_cd, hs_cf, hs_q0, hs_q1, reduceIte, Nat.reduceEqDiff, Nat.reduceAdd, Nat.reduceLT, eq_self, List.getElem?_cons_zero, List.getElem?_cons_succ, List.set_cons_zero, List.set_cons_succ, List.length_cons, List.length_nil, Option.toList_some, Option.toList_none, List.cons_append, List.nil_append, Nat.zero_add, Nat.add_zero, List.map_nil, List.sum_nil, List.map_cons, List.sum_cons, Nat.zero_le, hs_set1]
    exact hl_ireth B rfl rfl (hl_dec okL_withdraw 21 rfl) (by decide) (by decide) ⟨ca2, f, by rw [hE1]; exact congrArg (fun z => some (Value.int z)) (by decide +kernel), by rw [hl_set_same hr]; exact w2, fun z => by rw [hE1] at z; cases z⟩
theorem oe_transfer {σ : LSt} {k1 x y v : Int32} : ∀ E : String, (op_transfer σ k1 x y v).1 = some E → E ∈ [xIAE, xIOB, xUOE, xISE] := by
  intro E h
  unfold op_transfer at h
  unfold ls_kd at h
  split at h
  · cases h
  rw [ls_res_1] at h
  rcases ls_or_e h with h | h
  · cases er_key_e h; simp
  rcases ls_or_e h with h | h
  · cases er_amt_e h; simp
  rcases ls_or_e h with h | h
  · rcases er_two_e h with rfl | rfl <;> simp
  rcases ls_or_e h with h | h
  · cases er_spe_e h; simp
  rcases ls_or_e h with h | h
  · cases er_som_e h; simp
  cases er_roo_e h; simp
theorem ov_transfer {σ : LSt} {k1 x y v : Int32} : ∃ v9, (op_transfer σ k1 x y v).2.2 = .int v9 := by
  unfold op_transfer
  exact ls_kd_v
abbrev mL_transfer : hl_M := (yL_transfer, cL_transfer, 7, (some .int))
theorem mtL_transfer : hl_mh mL_transfer [(0, 14, 17, 13), (0, 14, 21, 20), (0, 14, 25, 22), (0, 14, 29, 15)] 6 := ⟨hl_T_of (k := 670) (by decide +kernel) rfl, hl_T_of (k := 48) (by decide +kernel) rfl, ⟨by decide +kernel, by decide +kernel⟩, by decide +kernel, hl_T_of (k := 669) (by decide +kernel) rfl⟩
set_option maxRecDepth 20000 in
set_option maxHeartbeats 2000000 in
theorem cw_transfer {G : hl_G} {l : Launch} {a ca : Nat → Nat} {σ : LSt} {k1 x y v : Int32} {h0 : hl_H} {ro : Nat} {f : Nat → Int64} (hst : l.stackTraces = false) (hI : LInv0 σ) (hr : h0 ro = some (.inl (1, .inr (.inl f)))) :
    hl_Ch G l mL_transfer [(0, 14, 17, 13), (0, 14, 21, 20), (0, 14, 25, 22), (0, 14, 29, 15)] 7 12 90 [.ref (a 0), .int k1, .int x, .int y, .int v, .ref ro] (LSw a ca σ h0) (lw_Q a h0 ro [xIAE, xIOB, xUOE, xISE] (op_transfer σ k1 x y v)) (fun _ _ => False) := by
  refine hl_bodyh (by decide +kernel) (Nat.le_of_ble_eq_true rfl) ?_
  intro p e s m args below meth c B g hg
  refine hl_segh B okL_transfer (fun q => nomatch q) 0 1000 rfl ?_
  simp only [pL_transfer, List.drop_zero, List.drop_succ_cons, hl_wp, hs_ii, hs_i1, hs_ll, hs_l1, hs_ff, hs_g1, hs_dd, hs_d1, hs_r1, hs_rv, hs_rv0, hs_n1, hs_n0, hs_v1i, hs_v1r, hs_a1, hs_d2l, hs_d2i, hs_ri, hs_rl, hs_rg, hs_rd8, hs_rr, hs_rn, hs_ov, hs_gf, hs_po, hs_pfi, hs_pfr, hs_ia, hs_la, hs_da, hs_qa, hs_al, hs_is, hs_ls, hs_ds, hs_iso, hs_lso, hs_dso, hs_rd, hs_f1, hs_f10, hs_f2, hs_f20, hs_in0, hs_in1, hs_lt, hs_le, hs_ge, hs_gt, hs_eq, hs_10, hs_00, hs_01, true_and, and_true, true_imp_iff, false_imp_iff, not_true_eq_false, not_false_eq_true, hs_av, hs_ai, hs_ar, hs_an, hs_aj, hs_ci, hs_cr, hs_cn, hs_cj, hs_cd, hs_cf, hs_q0, hs_q1, reduceIte, Nat.reduceEqDiff, Nat.reduceAdd, Nat.reduceLT, eq_self, List.getElem?_cons_zero, List.getElem?_cons_succ, List.set_cons_zero, List.set_cons_succ, List.length_cons, List.length_nil, Option.toList_some, Option.toList_none, List.cons_append, List.nil_append, Nat.zero_add, Nat.add_zero, List.map_nil, List.sum_nil, List.map_cons, List.sum_cons, Nat.zero_le, hs_set1]
  refine hl_callVh B (As := [.int _, .int _, .int _, .int _]) (cm_transfer hst hI) mtX7_transfer (hl_dec okL_transfer 7 rfl) (kk := 671) (by decide +kernel) rfl rfl (hg.1.f0) rfl (Nat.le_of_ble_eq_true rfl) (by decide) (by decide) (by decide) (by decide) hg (fun r9 h9 hq => ?_) (fun E h9 hx => ?_)
  · obtain ⟨ca2, rfl, w2, hn⟩ := hq
    have hro : h9 ro = some (.inl (1, .inr (.inl f))) := w2.2.2.2.2.2.2 ro _ hr
    obtain ⟨v9, hv⟩ := ov_transfer (σ := σ) (k1 := k1) (x := x) (y := y) (v := v)
    rw [hv]
    refine hl_segh B okL_transfer (fun q => nomatch q) 8 1000 rfl ?_
    simp only [pL_transfer, List.drop_zero, List.drop_succ_cons, hl_wp, hs_ii, hs_i1, hs_ll, hs_l1, hs_ff, hs_g1, hs_dd, hs_d1, hs_r1, hs_rv, hs_rv0, hs_n1, hs_n0, hs_v1i, hs_v1r, hs_a1, hs_d2l, hs_d2i, hs_ri, hs_rl, hs_rg, hs_rd8, hs_rr, hs_rn, hs_ov, hs_gf, hs_po, hs_pfi, hs_pfr, hs_ia, hs_la, hs_da, hs_qa, hs_al, hs_is, hs_ls, hs_ds, hs_iso, hs_lso, hs_dso, hs_rd, hs_f1, hs_f10, hs_f2, hs_f20, hs_in0, hs_in1, hs_lt, hs_le, hs_ge, hs_gt, hs_eq, hs_10, hs_00, hs_01, true_and, and_true, true_imp_iff, false_imp_iff, not_true_eq_false, not_false_eq_true, hs_av, hs_ai, hs_ar, hs_an, hs_aj, hs_ci, hs_cr, hs_cn, hs_cj, hs_cd, hs_cf, hs_q0, hs_q1, reduceIte, Nat.reduceEqDiff, Nat.reduceAdd, Nat.reduceLT, eq_self, List.getElem?_cons_zero, List.getElem?_cons_succ, List.set_cons_zero, List.set_cons_succ, List.length_cons, List.length_nil, Option.toList_some, Option.toList_none, List.cons_append, List.nil_append, Nat.zero_add, Nat.add_zero, List.map_nil, List.sum_nil, List.map_cons, List.sum_cons, Nat.zero_le, hs_set1, hro]
    refine ⟨vp_in_nI (n := 0) (N := 1) (by decide) (by decide), ?_⟩
    refine hl_segh B okL_transfer (fun q => nomatch q) 23 1000 rfl ?_
    simp only [pL_transfer, List.drop_zero, List.drop_succ_cons, hl_wp, hs_ii, hs_i1, hs_ll, hs_l1, hs_ff, hs_g1, hs_dd, hs_d1, hs_r1, hs_rv, hs_rv0, hs_n1, hs_n0, hs_v1i, hs_v1r, hs_a1, hs_d2l, hs_d2i, hs_ri, hs_rl, hs_rg, hs_rd8, hs_rr, hs_rn, hs_ov, hs_gf, hs_po, hs_pfi, hs_pfr, hs_ia, hs_la, hs_da, hs_qa, hs_al, hs_is, hs_ls, hs_ds, hs_iso, hs_lso, hs_dso, hs_rd, hs_f1, hs_f10, hs_f2, hs_f20, hs_in0, hs_in1, hs_lt, hs_le, hs_ge, hs_gt, hs_eq, hs_10, hs_00, hs_01, true_and, and_true, true_imp_iff, false_imp_iff, not_true_eq_false, not_false_eq_true, hs_av, hs_ai, hs_ar, hs_an, hs_aj, hs_ci, hs_cr, hs_cn, hs_cj, hs_cd, hs_cf, hs_q0, hs_q1, reduceIte, Nat.reduceEqDiff, Nat.reduceAdd, Nat.reduceLT, eq_self, List.getElem?_cons_zero, List.getElem?_cons_succ, List.set_cons_zero, List.set_cons_succ, List.length_cons, List.length_nil, Option.toList_some, Option.toList_none, List.cons_append, List.nil_append, Nat.zero_add, Nat.add_zero, List.map_nil, List.sum_nil, List.map_cons, List.sum_cons, Nat.zero_le, hs_set1]
    exact hl_ireth B rfl rfl (hl_dec okL_transfer 24 rfl) (by decide) (by decide) ⟨ca2, _, by rw [hn]; rfl, w2.refr hr _, fun _ => by rw [hv]; rfl⟩
  · obtain ⟨ca2, w2, hE1⟩ := hx
    have hm := oe_transfer _ hE1
    rcases List.mem_cons.mp hm with rfl | hm
    · skip
      refine hl_catch B (pre := []) (s0 := 0) (e0 := 14) (hp := 17) (ct := 13) (suf := [(0, 14, 21, 20), (0, 14, 25, 22), (0, 14, 29, 15)]) (by simp [hl_ex]) rfl (by decide) (by decide) (kk := 375) (by decide +kernel) (kc := 387) (by decide +kernel) hl_pa_n (fun q => ?_)
      refine hl_segh B okL_transfer (fun q => nomatch q) 11 1000 rfl ?_
      simp only [pL_transfer, List.drop_zero, List.drop_succ_cons, hl_wp, hs_ii, hs_i1, hs_ll, hs_l1, hs_ff, hs_g1, hs_dd, hs_d1, hs_r1, hs_rv, hs_rv0, hs_n1, hs_n0, hs_v1i, hs_v1r, hs_a1, hs_d2l, hs_d2i, hs_ri, hs_rl, hs_rg, hs_rd8, hs_rr, hs_rn, hs_ov, hs_gf, hs_po, hs_pfi, hs_pfr, hs_ia, hs_la, hs_da, hs_qa, hs_al, hs_is, hs_ls, hs_ds, hs_iso, hs_lso, hs_dso, hs_rd, hs_f1, hs_f10, hs_f2, hs_f20, hs_in0, hs_in1, hs_lt, hs_le, hs_ge, hs_gt, hs_eq, hs_10, hs_00, hs_01, true_and, and_true, true_imp_iff, false_imp_iff, not_true_eq_false, not_false_eq_true, hs_av, hs_ai, hs_ar, hs_an, hs_aj, hs_ci, hs_cr, hs_cn, hs_cj, hs_cd, hs_cf, hs_q0, hs_q1, reduceIte, Nat.reduceEqDiff, Nat.reduceAdd, Nat.reduceLT, eq_self, List.getElem?_cons_zero, List.getElem?_cons_succ, List.set_cons_zero, List.set_cons_succ, List.length_cons, List.length_nil, Option.toList_some, Option.toList_none, List.cons_append, List.nil_append, Nat.zero_add, Nat.add_zero, List.map_nil, List.sum_nil, List.map_cons, List.sum_cons, Nat.zero_le, hs_set1]
      exact hl_ireth B rfl rfl (hl_dec okL_transfer 13 rfl) (by decide) (by decide) ⟨ca2, f, by rw [hE1]; exact congrArg (fun z => some (Value.int z)) (by decide +kernel), by rw [hl_set_same hr]; exact w2, fun z => by rw [hE1] at z; cases z⟩
    rcases List.mem_cons.mp hm with rfl | hm
    · skip
      refine hl_catch B (pre := [(0, 14, 17, 13)]) (s0 := 0) (e0 := 14) (hp := 21) (ct := 20) (suf := [(0, 14, 25, 22), (0, 14, 29, 15)]) (by simp [hl_ex]) rfl (by decide) (by decide) (kk := 486) (by decide +kernel) (kc := 521) (by decide +kernel) (hl_pa_c ⟨by decide, xIAE, by simp [hl_ex], by decide, hl_T_of (k := 375) (by decide +kernel) rfl⟩ hl_pa_n) (fun q => ?_)
      refine hl_segh B okL_transfer (fun q => nomatch q) 14 1000 rfl ?_
      simp only [pL_transfer, List.drop_zero, List.drop_succ_cons, hl_wp, hs_ii, hs_i1, hs_ll, hs_l1, hs_ff, hs_g1, hs_dd, hs_d1, hs_r1, hs_rv, hs_rv0, hs_n1, hs_n0, hs_v1i, hs_v1r, hs_a1, hs_d2l, hs_d2i, hs_ri, hs_rl, hs_rg, hs_rd8, hs_rr, hs_rn, hs_ov, hs_gf, hs_po, hs_pfi, hs_pfr, hs_ia, hs_la, hs_da, hs_qa, hs_al, hs_is, hs_ls, hs_ds, hs_iso, hs_lso, hs_dso, hs_rd, hs_f1, hs_f10, hs_f2, hs_f20, hs_in0, hs_in1, hs_lt, hs_le, hs_ge, hs_gt, hs_eq, hs_10, hs_00, hs_01, true_and, and_true, true_imp_iff, false_imp_iff, not_true_eq_false, not_false_eq_true, hs_av, hs_ai, hs_ar, hs_an, hs_aj, hs_ci, hs_cr, hs_cn, hs_cj, hs_cd, hs_cf, hs_q0, hs_q1, reduceIte, Nat.reduceEqDiff, Nat.reduceAdd, Nat.reduceLT, eq_self, List.getElem?_cons_zero, List.getElem?_cons_succ, List.set_cons_zero, List.set_cons_succ, List.length_cons, List.length_nil, Option.toList_some, Option.toList_none, List.cons_append, List.nil_append, Nat.zero_add, Nat.add_zero, List.map_nil, List.sum_nil, List.map_cons, List.sum_cons, Nat.zero_le, hs_set1]
      exact hl_ireth B rfl rfl (hl_dec okL_transfer 16 rfl) (by decide) (by decide) ⟨ca2, f, by rw [hE1]; exact congrArg (fun z => some (Value.int z)) (by decide +kernel), by rw [hl_set_same hr]; exact w2, fun z => by rw [hE1] at z; cases z⟩
    rcases List.mem_cons.mp hm with rfl | hm
    · skip
      refine hl_catch B (pre := [(0, 14, 17, 13), (0, 14, 21, 20)]) (s0 := 0) (e0 := 14) (hp := 25) (ct := 22) (suf := [(0, 14, 29, 15)]) (by simp [hl_ex]) rfl (by decide) (by decide) (kk := 510) (by decide +kernel) (kc := 534) (by decide +kernel) (hl_pa_c ⟨by decide, xIAE, by simp [hl_ex], by decide, hl_T_of (k := 375) (by decide +kernel) rfl⟩ (hl_pa_c ⟨by decide, xIOB, by simp [hl_ex], by decide, hl_T_of (k := 486) (by decide +kernel) rfl⟩ hl_pa_n)) (fun q => ?_)
      refine hl_segh B okL_transfer (fun q => nomatch q) 17 1000 rfl ?_
      simp only [pL_transfer, List.drop_zero, List.drop_succ_cons, hl_wp, hs_ii, hs_i1, hs_ll, hs_l1, hs_ff, hs_g1, hs_dd, hs_d1, hs_r1, hs_rv, hs_rv0, hs_n1, hs_n0, hs_v1i, hs_v1r, hs_a1, hs_d2l, hs_d2i, hs_ri, hs_rl, hs_rg, hs_rd8, hs_rr, hs_rn, hs_ov, hs_gf, hs_po, hs_pfi, hs_pfr, hs_ia, hs_la, hs_da, hs_qa, hs_al, hs_is, hs_ls, hs_ds, hs_iso, hs_lso, hs_dso, hs_rd, hs_f1, hs_f10, hs_f2, hs_f20, hs_in0, hs_in1, hs_lt, hs_le, hs_ge, hs_gt, hs_eq, hs_10, hs_00, hs_01, true_and, and_true, true_imp_iff, false_imp_iff, not_true_eq_false, not_false_eq_true, hs_av, hs_ai, hs_ar, hs_an, hs_aj, hs_ci, hs_cr, hs_cn, hs_cj, hs_cd, hs_cf, hs_q0, hs_q1, reduceIte, Nat.reduceEqDiff, Nat.reduceAdd, Nat.reduceLT, eq_self, List.getElem?_cons_zero, List.getElem?_cons_succ, List.set_cons_zero, List.set_cons_succ, List.length_cons, List.length_nil, Option.toList_some, Option.toList_none, List.cons_append, List.nil_append, Nat.zero_add, Nat.add_zero, List.map_nil, List.sum_nil, List.map_cons, List.sum_cons, Nat.zero_le, hs_set1]
      exact hl_ireth B rfl rfl (hl_dec okL_transfer 19 rfl) (by decide) (by decide) ⟨ca2, f, by rw [hE1]; exact congrArg (fun z => some (Value.int z)) (by decide +kernel), by rw [hl_set_same hr]; exact w2, fun z => by rw [hE1] at z; cases z⟩
    cases List.mem_singleton.mp hm
    refine hl_catch B (pre := [(0, 14, 17, 13), (0, 14, 21, 20), (0, 14, 25, 22)]) (s0 := 0) (e0 := 14) (hp := 29) (ct := 15) (suf := []) (by simp [hl_ex]) rfl (by decide) (by decide) (kk := 376) (by decide +kernel) (kc := 465) (by decide +kernel) (hl_pa_c ⟨by decide, xIAE, by simp [hl_ex], by decide, hl_T_of (k := 375) (by decide +kernel) rfl⟩ (hl_pa_c ⟨by decide, xIOB, by simp [hl_ex], by decide, hl_T_of (k := 486) (by decide +kernel) rfl⟩ (hl_pa_c ⟨by decide, xUOE, by simp [hl_ex], by decide, hl_T_of (k := 510) (by decide +kernel) rfl⟩ hl_pa_n))) (fun q => ?_)
    refine hl_segh B okL_transfer (fun q => nomatch q) 20 1000 rfl ?_
    simp only [pL_transfer, List.drop_zero, List.drop_succ_cons, hl_wp, hs_ii, hs_i1, hs_ll, hs_l1, hs_ff, hs_g1, hs_dd, hs_d1, hs_r1, hs_rv, hs_rv0, hs_n1, hs_n0, hs_v1i, hs_v1r, hs_a1, hs_d2l, hs_d2i, hs_ri, hs_rl, hs_rg, hs_rd8, hs_rr, hs_rn, hs_ov, hs_gf, hs_po, hs_pfi, hs_pfr, hs_ia, hs_la, hs_da, hs_qa, hs_al, hs_is, hs_ls, hs_ds, hs_iso, hs_lso, hs_dso, hs_rd, hs_f1, hs_f10, hs_f2, hs_f20, hs_in0, hs_in1, hs_lt, hs_le, hs_ge, hs_gt, hs_eq, hs_10, hs_00, hs_01, true_and, and_true, true_imp_iff, false_imp_iff, not_true_eq_false, not_false_eq_true, hs_av, hs_ai, hs_ar, hs_an, hs_aj, hs_ci, hs_cr, hs_cn, hs_cj, hs_cd, hs_cf, hs_q0, hs_q1, reduceIte, Nat.reduceEqDiff, Nat.reduceAdd, Nat.reduceLT, eq_self, List.getElem?_cons_zero, List.getElem?_cons_succ, List.set_cons_zero, List.set_cons_succ, List.length_cons, List.length_nil, Option.toList_some, Option.toList_none, List.cons_append, List.nil_append, Nat.zero_add, Nat.add_zero, List.map_nil, List.sum_nil, List.map_cons, List.sum_cons, Nat.zero_le, hs_set1]
    exact hl_ireth B rfl rfl (hl_dec okL_transfer 22 rfl) (by decide) (by decide) ⟨ca2, f, by rw [hE1]; exact congrArg (fun z => some (Value.int z)) (by decide +kernel), by rw [hl_set_same hr]; exact w2, fun z => by rw [hE1] at z; cases z⟩
theorem oe_hold {σ : LSt} {k1 x y v d1 : Int32} : ∀ E : String, (op_hold σ k1 x y v d1).1 = some E → E ∈ [xIAE, xIOB, xUOE, xISE] := by
  intro E h
  unfold op_hold at h
  unfold ls_kd at h
  split at h
  · cases h
  rw [ls_res_1] at h
  rcases ls_or_e h with h | h
  · cases er_key_e h; simp
  rcases ls_or_e h with h | h
  · cases er_amt_e h; simp
  rcases ls_or_e h with h | h
  · (repeat' split at h) <;> first | (cases h; done) | (cases h; simp; done) | (cases er_spe_e h; simp)
  rcases ls_or_e h with h | h
  · rcases er_two_e h with rfl | rfl <;> simp
  rcases ls_or_e h with h | h
  · cases er_spe_e h; simp
  (repeat' split at h) <;> first | (cases h; done) | (cases h; simp; done) | (cases er_spe_e h; simp)
theorem ov_hold {σ : LSt} {k1 x y v d1 : Int32} : ∃ v9, (op_hold σ k1 x y v d1).2.2 = .int v9 := by
  unfold op_hold
  exact ls_kd_v
abbrev mL_hold : hl_M := (yL_hold, cL_hold, 8, (some .int))
theorem mtL_hold : hl_mh mL_hold [(0, 16, 19, 13), (0, 16, 23, 20), (0, 16, 27, 22), (0, 16, 31, 15)] 7 := ⟨hl_T_of (k := 687) (by decide +kernel) rfl, hl_T_of (k := 48) (by decide +kernel) rfl, ⟨by decide +kernel, by decide +kernel⟩, by decide +kernel, hl_T_of (k := 686) (by decide +kernel) rfl⟩
set_option maxRecDepth 20000 in
set_option maxHeartbeats 2000000 in
theorem cw_hold {G : hl_G} {l : Launch} {a ca : Nat → Nat} {σ : LSt} {k1 x y v d1 : Int32} {h0 : hl_H} {ro : Nat} {f : Nat → Int64} (hst : l.stackTraces = false) (hI : LInv0 σ) (hr : h0 ro = some (.inl (1, .inr (.inl f)))) :
    hl_Ch G l mL_hold [(0, 16, 19, 13), (0, 16, 23, 20), (0, 16, 27, 22), (0, 16, 31, 15)] 7 12 90 [.ref (a 0), .int k1, .int x, .int y, .int v, .int d1, .ref ro] (LSw a ca σ h0) (lw_Q a h0 ro [xIAE, xIOB, xUOE, xISE] (op_hold σ k1 x y v d1)) (fun _ _ => False) := by
  refine hl_bodyh (by decide +kernel) (Nat.le_of_ble_eq_true rfl) ?_
  intro p e s m args below meth c B g hg
  refine hl_segh B okL_hold (fun q => nomatch q) 0 1000 rfl ?_
  simp only [pL_hold, List.drop_zero, List.drop_succ_cons, hl_wp, hs_ii, hs_i1, hs_ll, hs_l1, hs_ff, hs_g1, hs_dd, hs_d1, hs_r1, hs_rv, hs_rv0, hs_n1, hs_n0, hs_v1i, hs_v1r, hs_a1, hs_d2l, hs_d2i, hs_ri, hs_rl, hs_rg, hs_rd8, hs_rr, hs_rn, hs_ov, hs_gf, hs_po, hs_pfi, hs_pfr, hs_ia, hs_la, hs_da, hs_qa, hs_al, hs_is, hs_ls, hs_ds, hs_iso, hs_lso, hs_dso, hs_rd, hs_f1, hs_f10, hs_f2, hs_f20, hs_in0, hs_in1, hs_lt, hs_le, hs_ge, hs_gt, hs_eq, hs_10, hs_00, hs_01, true_and, and_true, true_imp_iff, false_imp_iff, not_true_eq_false, not_false_eq_true, hs_av, hs_ai, hs_ar, hs_an, hs_aj, hs_ci, hs_cr, hs_cn, hs_cj, hs_cd, hs_cf, hs_q0, hs_q1, reduceIte, Nat.reduceEqDiff, Nat.reduceAdd, Nat.reduceLT, eq_self, List.getElem?_cons_zero, List.getElem?_cons_succ, List.set_cons_zero, List.set_cons_succ, List.length_cons, List.length_nil, Option.toList_some, Option.toList_none, List.cons_append, List.nil_append, Nat.zero_add, Nat.add_zero, List.map_nil, List.sum_nil, List.map_cons, List.sum_cons, Nat.zero_le, hs_set1]
  refine hl_callVh B (As := [.int _, .int _, .int _, .int _, .int _]) (cm_hold hst hI) mtX7_hold (hl_dec okL_hold 8 rfl) (kk := 688) (by decide +kernel) rfl rfl (hg.1.f0) rfl (Nat.le_of_ble_eq_true rfl) (by decide) (by decide) (by decide) (by decide) hg (fun r9 h9 hq => ?_) (fun E h9 hx => ?_)
  · obtain ⟨ca2, rfl, w2, hn⟩ := hq
    have hro : h9 ro = some (.inl (1, .inr (.inl f))) := w2.2.2.2.2.2.2 ro _ hr
    obtain ⟨v9, hv⟩ := ov_hold (σ := σ) (k1 := k1) (x := x) (y := y) (v := v) (d1 := d1)
    rw [hv]
    refine hl_segh B okL_hold (fun q => nomatch q) 9 1000 rfl ?_
    simp only [pL_hold, List.drop_zero, List.drop_succ_cons, hl_wp, hs_ii, hs_i1, hs_ll, hs_l1, hs_ff, hs_g1, hs_dd, hs_d1, hs_r1, hs_rv, hs_rv0, hs_n1, hs_n0, hs_v1i, hs_v1r, hs_a1, hs_d2l, hs_d2i, hs_ri, hs_rl, hs_rg, hs_rd8, hs_rr, hs_rn, hs_ov, hs_gf, hs_po, hs_pfi, hs_pfr, hs_ia, hs_la, hs_da, hs_qa, hs_al, hs_is, hs_ls, hs_ds, hs_iso, hs_lso, hs_dso, hs_rd, hs_f1, hs_f10, hs_f2, hs_f20, hs_in0, hs_in1, hs_lt, hs_le, hs_ge, hs_gt, hs_eq, hs_10, hs_00, hs_01, true_and, and_true, true_imp_iff, false_imp_iff, not_true_eq_false, not_false_eq_true, hs_av, hs_ai, hs_ar, hs_an, hs_aj, hs_ci, hs_cr, hs_cn, hs_cj, hs_cd, hs_cf, hs_q0, hs_q1, reduceIte, Nat.reduceEqDiff, Nat.reduceAdd, Nat.reduceLT, eq_self, List.getElem?_cons_zero, List.getElem?_cons_succ, List.set_cons_zero, List.set_cons_succ, List.length_cons, List.length_nil, Option.toList_some, Option.toList_none, List.cons_append, List.nil_append, Nat.zero_add, Nat.add_zero, List.map_nil, List.sum_nil, List.map_cons, List.sum_cons, Nat.zero_le, hs_set1, hro]
    refine ⟨vp_in_nI (n := 0) (N := 1) (by decide) (by decide), ?_⟩
    refine hl_segh B okL_hold (fun q => nomatch q) 24 1000 rfl ?_
    simp only [pL_hold, List.drop_zero, List.drop_succ_cons, hl_wp, hs_ii, hs_i1, hs_ll, hs_l1, hs_ff, hs_g1, hs_dd, hs_d1, hs_r1, hs_rv, hs_rv0, hs_n1, hs_n0, hs_v1i, hs_v1r, hs_a1, hs_d2l, hs_d2i, hs_ri, hs_rl, hs_rg, hs_rd8, hs_rr, hs_rn, hs_ov, hs_gf, hs_po, hs_pfi, hs_pfr, hs_ia, hs_la, hs_da, hs_qa, hs_al, hs_is, hs_ls, hs_ds, hs_iso, hs_lso, hs_dso, hs_rd, hs_f1, hs_f10, hs_f2, hs_f20, hs_in0, hs_in1, hs_lt, hs_le, hs_ge, hs_gt, hs_eq, hs_10, hs_00, hs_01, true_and, and_true, true_imp_iff, false_imp_iff, not_true_eq_false, not_false_eq_true, hs_av, hs_ai, hs_ar, hs_an, hs_aj, hs_ci, hs_cr, hs_cn, hs_cj, hs_cd, hs_cf, hs_q0, hs_q1, reduceIte, Nat.reduceEqDiff, Nat.reduceAdd, Nat.reduceLT, eq_self, List.getElem?_cons_zero, List.getElem?_cons_succ, List.set_cons_zero, List.set_cons_succ, List.length_cons, List.length_nil, Option.toList_some, Option.toList_none, List.cons_append, List.nil_append, Nat.zero_add, Nat.add_zero, List.map_nil, List.sum_nil, List.map_cons, List.sum_cons, Nat.zero_le, hs_set1]
    exact hl_ireth B rfl rfl (hl_dec okL_hold 25 rfl) (by decide) (by decide) ⟨ca2, _, by rw [hn]; rfl, w2.refr hr _, fun _ => by rw [hv]; rfl⟩
  · obtain ⟨ca2, w2, hE1⟩ := hx
    have hm := oe_hold _ hE1
    rcases List.mem_cons.mp hm with rfl | hm
    · skip
      refine hl_catch B (pre := []) (s0 := 0) (e0 := 16) (hp := 19) (ct := 13) (suf := [(0, 16, 23, 20), (0, 16, 27, 22), (0, 16, 31, 15)]) (by simp [hl_ex]) rfl (by decide) (by decide) (kk := 375) (by decide +kernel) (kc := 387) (by decide +kernel) hl_pa_n (fun q => ?_)
      refine hl_segh B okL_hold (fun q => nomatch q) 12 1000 rfl ?_
      simp only [pL_hold, List.drop_zero, List.drop_succ_cons, hl_wp, hs_ii, hs_i1, hs_ll, hs_l1, hs_ff, hs_g1, hs_dd, hs_d1, hs_r1, hs_rv, hs_rv0, hs_n1, hs_n0, hs_v1i, hs_v1r, hs_a1, hs_d2l, hs_d2i, hs_ri, hs_rl, hs_rg, hs_rd8, hs_rr, hs_rn, hs_ov, hs_gf, hs_po, hs_pfi, hs_pfr, hs_ia, hs_la, hs_da, hs_qa, hs_al, hs_is, hs_ls, hs_ds, hs_iso, hs_lso, hs_dso, hs_rd, hs_f1, hs_f10, hs_f2, hs_f20, hs_in0, hs_in1, hs_lt, hs_le, hs_ge, hs_gt, hs_eq, hs_10, hs_00, hs_01, true_and, and_true, true_imp_iff, false_imp_iff, not_true_eq_false, not_false_eq_true, hs_av, hs_ai, hs_ar, hs_an, hs_aj, hs_ci, hs_cr, hs_cn, hs_cj, hs_cd, hs_cf, hs_q0, hs_q1, reduceIte, Nat.reduceEqDiff, Nat.reduceAdd, Nat.reduceLT, eq_self, List.getElem?_cons_zero, List.getElem?_cons_succ, List.set_cons_zero, List.set_cons_succ, List.length_cons, List.length_nil, Option.toList_some, Option.toList_none, List.cons_append, List.nil_append, Nat.zero_add, Nat.add_zero, List.map_nil, List.sum_nil, List.map_cons, List.sum_cons, Nat.zero_le, hs_set1]
      exact hl_ireth B rfl rfl (hl_dec okL_hold 14 rfl) (by decide) (by decide) ⟨ca2, f, by rw [hE1]; exact congrArg (fun z => some (Value.int z)) (by decide +kernel), by rw [hl_set_same hr]; exact w2, fun z => by rw [hE1] at z; cases z⟩
    rcases List.mem_cons.mp hm with rfl | hm
    · skip
      refine hl_catch B (pre := [(0, 16, 19, 13)]) (s0 := 0) (e0 := 16) (hp := 23) (ct := 20) (suf := [(0, 16, 27, 22), (0, 16, 31, 15)]) (by simp [hl_ex]) rfl (by decide) (by decide) (kk := 486) (by decide +kernel) (kc := 521) (by decide +kernel) (hl_pa_c ⟨by decide, xIAE, by simp [hl_ex], by decide, hl_T_of (k := 375) (by decide +kernel) rfl⟩ hl_pa_n) (fun q => ?_)
      refine hl_segh B okL_hold (fun q => nomatch q) 15 1000 rfl ?_
      simp only [pL_hold, List.drop_zero, List.drop_succ_cons, hl_wp, hs_ii, hs_i1, hs_ll, hs_l1, hs_ff, hs_g1, hs_dd, hs_d1, hs_r1, hs_rv, hs_rv0, hs_n1, hs_n0, hs_v1i, hs_v1r, hs_a1, hs_d2l, hs_d2i, hs_ri, hs_rl, hs_rg, hs_rd8, hs_rr, hs_rn, hs_ov, hs_gf, hs_po, hs_pfi, hs_pfr, hs_ia, hs_la, hs_da, hs_qa, hs_al, hs_is, hs_ls, hs_ds, hs_iso, hs_lso, hs_dso, hs_rd, hs_f1, hs_f10, hs_f2, hs_f20, hs_in0, hs_in1, hs_lt, hs_le, hs_ge, hs_gt, hs_eq, hs_10, hs_00, hs_01, true_and, and_true, true_imp_iff, false_imp_iff, not_true_eq_false, not_false_eq_true, hs_av, hs_ai, hs_ar, hs_an, hs_aj, hs_ci, hs_cr, hs_cn, hs_cj, hs_cd, hs_cf, hs_q0, hs_q1, reduceIte, Nat.reduceEqDiff, Nat.reduceAdd, Nat.reduceLT, eq_self, List.getElem?_cons_zero, List.getElem?_cons_succ, List.set_cons_zero, List.set_cons_succ, List.length_cons, List.length_nil, Option.toList_some, Option.toList_none, List.cons_append, List.nil_append, Nat.zero_add, Nat.add_zero, List.map_nil, List.sum_nil, List.map_cons, List.sum_cons, Nat.zero_le, hs_set1]
      exact hl_ireth B rfl rfl (hl_dec okL_hold 17 rfl) (by decide) (by decide) ⟨ca2, f, by rw [hE1]; exact congrArg (fun z => some (Value.int z)) (by decide +kernel), by rw [hl_set_same hr]; exact w2, fun z => by rw [hE1] at z; cases z⟩
    rcases List.mem_cons.mp hm with rfl | hm
    · skip
      refine hl_catch B (pre := [(0, 16, 19, 13), (0, 16, 23, 20)]) (s0 := 0) (e0 := 16) (hp := 27) (ct := 22) (suf := [(0, 16, 31, 15)]) (by simp [hl_ex]) rfl (by decide) (by decide) (kk := 510) (by decide +kernel) (kc := 534) (by decide +kernel) (hl_pa_c ⟨by decide, xIAE, by simp [hl_ex], by decide, hl_T_of (k := 375) (by decide +kernel) rfl⟩ (hl_pa_c ⟨by decide, xIOB, by simp [hl_ex], by decide, hl_T_of (k := 486) (by decide +kernel) rfl⟩ hl_pa_n)) (fun q => ?_)
      refine hl_segh B okL_hold (fun q => nomatch q) 18 1000 rfl ?_
      simp only [pL_hold, List.drop_zero, List.drop_succ_cons, hl_wp, hs_ii, hs_i1, hs_ll, hs_l1, hs_ff, hs_g1, hs_dd, hs_d1, hs_r1, hs_rv, hs_rv0, hs_n1, hs_n0, hs_v1i, hs_v1r, hs_a1, hs_d2l, hs_d2i, hs_ri, hs_rl, hs_rg, hs_rd8, hs_rr, hs_rn, hs_ov, hs_gf, hs_po, hs_pfi, hs_pfr, hs_ia, hs_la, hs_da, hs_qa, hs_al, hs_is, hs_ls, hs_ds, hs_iso, hs_lso, hs_dso, hs_rd, hs_f1, hs_f10, hs_f2, hs_f20, hs_in0, hs_in1, hs_lt, hs_le, hs_ge, hs_gt, hs_eq, hs_10, hs_00, hs_01, true_and, and_true, true_imp_iff, false_imp_iff, not_true_eq_false, not_false_eq_true, hs_av, hs_ai, hs_ar, hs_an, hs_aj, hs_ci, hs_cr, hs_cn, hs_cj, hs_cd, hs_cf, hs_q0, hs_q1, reduceIte, Nat.reduceEqDiff, Nat.reduceAdd, Nat.reduceLT, eq_self, List.getElem?_cons_zero, List.getElem?_cons_succ, List.set_cons_zero, List.set_cons_succ, List.length_cons, List.length_nil, Option.toList_some, Option.toList_none, List.cons_append, List.nil_append, Nat.zero_add, Nat.add_zero, List.map_nil, List.sum_nil, List.map_cons, List.sum_cons, Nat.zero_le, hs_set1]
      exact hl_ireth B rfl rfl (hl_dec okL_hold 20 rfl) (by decide) (by decide) ⟨ca2, f, by rw [hE1]; exact congrArg (fun z => some (Value.int z)) (by decide +kernel), by rw [hl_set_same hr]; exact w2, fun z => by rw [hE1] at z; cases z⟩
    cases List.mem_singleton.mp hm
    refine hl_catch B (pre := [(0, 16, 19, 13), (0, 16, 23, 20), (0, 16, 27, 22)]) (s0 := 0) (e0 := 16) (hp := 31) (ct := 15) (suf := []) (by simp [hl_ex]) rfl (by decide) (by decide) (kk := 376) (by decide +kernel) (kc := 465) (by decide +kernel) (hl_pa_c ⟨by decide, xIAE, by simp [hl_ex], by decide, hl_T_of (k := 375) (by decide +kernel) rfl⟩ (hl_pa_c ⟨by decide, xIOB, by simp [hl_ex], by decide, hl_T_of (k := 486) (by decide +kernel) rfl⟩ (hl_pa_c ⟨by decide, xUOE, by simp [hl_ex], by decide, hl_T_of (k := 510) (by decide +kernel) rfl⟩ hl_pa_n))) (fun q => ?_)
    refine hl_segh B okL_hold (fun q => nomatch q) 21 1000 rfl ?_
    simp only [pL_hold, List.drop_zero, List.drop_succ_cons, hl_wp, hs_ii, hs_i1, hs_ll, hs_l1, hs_ff, hs_g1, hs_dd, hs_d1, hs_r1, hs_rv, hs_rv0, hs_n1, hs_n0, hs_v1i, hs_v1r, hs_a1, hs_d2l, hs_d2i, hs_ri, hs_rl, hs_rg, hs_rd8, hs_rr, hs_rn, hs_ov, hs_gf, hs_po, hs_pfi, hs_pfr, hs_ia, hs_la, hs_da, hs_qa, hs_al, hs_is, hs_ls, hs_ds, hs_iso, hs_lso, hs_dso, hs_rd, hs_f1, hs_f10, hs_f2, hs_f20, hs_in0, hs_in1, hs_lt, hs_le, hs_ge, hs_gt, hs_eq, hs_10, hs_00, hs_01, true_and, and_true, true_imp_iff, false_imp_iff, not_true_eq_false, not_false_eq_true, hs_av, hs_ai, hs_ar, hs_an, hs_aj, hs_ci, hs_cr, hs_cn, hs_cj, hs_cd, hs_cf, hs_q0, hs_q1, reduceIte, Nat.reduceEqDiff, Nat.reduceAdd, Nat.reduceLT, eq_self, List.getElem?_cons_zero, List.getElem?_cons_succ, List.set_cons_zero, List.set_cons_succ, List.length_cons, List.length_nil, Option.toList_some, Option.toList_none, List.cons_append, List.nil_append, Nat.zero_add, Nat.add_zero, List.map_nil, List.sum_nil, List.map_cons, List.sum_cons, Nat.zero_le, hs_set1]
    exact hl_ireth B rfl rfl (hl_dec okL_hold 23 rfl) (by decide) (by decide) ⟨ca2, f, by rw [hE1]; exact congrArg (fun z => some (Value.int z)) (by decide +kernel), by rw [hl_set_same hr]; exact w2, fun z => by rw [hE1] at z; cases z⟩
theorem oe_capture {σ : LSt} {k1 x v : Int32} : ∀ E : String, (op_capture σ k1 x v).1 = some E → E ∈ [xIAE, xIOB, xNSE, xUOE, xISE] := by
  intro E h
  unfold op_capture at h
  unfold ls_kd at h
  split at h
  · cases h
  rw [ls_res_1] at h
  rcases ls_or_e h with h | h
  · cases er_key_e h; simp
  rcases ls_or_e h with h | h
  · cases er_amt_e h; simp
  rcases ls_or_e h with h | h
  · rcases er_act_e h with rfl | rfl <;> simp
  rcases ls_or_e h with h | h
  · (repeat' split at h) <;> first | (cases h; done) | (cases h; simp; done) | (cases er_spe_e h; simp)
  rcases ls_or_e h with h | h
  · cases er_som_e h; simp
  cases er_roo_e h; simp
theorem ov_capture {σ : LSt} {k1 x v : Int32} : ∃ v9, (op_capture σ k1 x v).2.2 = .int v9 := by
  unfold op_capture
  exact ls_kd_v
abbrev mL_capture : hl_M := (yL_capture, cL_capture, 6, (some .int))
theorem mtL_capture : hl_mh mL_capture [(0, 12, 15, 13), (0, 12, 19, 20), (0, 12, 23, 45), (0, 12, 27, 22), (0, 12, 31, 15)] 5 := ⟨hl_T_of (k := 700) (by decide +kernel) rfl, hl_T_of (k := 48) (by decide +kernel) rfl, ⟨by decide +kernel, by decide +kernel⟩, by decide +kernel, hl_T_of (k := 699) (by decide +kernel) rfl⟩
set_option maxRecDepth 20000 in
set_option maxHeartbeats 2000000 in
theorem cw_capture {G : hl_G} {l : Launch} {a ca : Nat → Nat} {σ : LSt} {k1 x v : Int32} {h0 : hl_H} {ro : Nat} {f : Nat → Int64} (hst : l.stackTraces = false) (hI : LInv0 σ) (hr : h0 ro = some (.inl (1, .inr (.inl f)))) :
    hl_Ch G l mL_capture [(0, 12, 15, 13), (0, 12, 19, 20), (0, 12, 23, 45), (0, 12, 27, 22), (0, 12, 31, 15)] 7 12 90 [.ref (a 0), .int k1, .int x, .int v, .ref ro] (LSw a ca σ h0) (lw_Q a h0 ro [xIAE, xIOB, xNSE, xUOE, xISE] (op_capture σ k1 x v)) (fun _ _ => False) := by
  refine hl_bodyh (by decide +kernel) (Nat.le_of_ble_eq_true rfl) ?_
  intro p e s m args below meth c B g hg
  refine hl_segh B okL_capture (fun q => nomatch q) 0 1000 rfl ?_
  simp only [pL_capture, List.drop_zero, List.drop_succ_cons, hl_wp, hs_ii, hs_i1, hs_ll, hs_l1, hs_ff, hs_g1, hs_dd, hs_d1, hs_r1, hs_rv, hs_rv0, hs_n1, hs_n0, hs_v1i, hs_v1r, hs_a1, hs_d2l, hs_d2i, hs_ri, hs_rl, hs_rg, hs_rd8, hs_rr, hs_rn, hs_ov, hs_gf, hs_po, hs_pfi, hs_pfr, hs_ia, hs_la, hs_da, hs_qa, hs_al, hs_is, hs_ls, hs_ds, hs_iso, hs_lso, hs_dso, hs_rd, hs_f1, hs_f10, hs_f2, hs_f20, hs_in0, hs_in1, hs_lt, hs_le, hs_ge, hs_gt, hs_eq, hs_10, hs_00, hs_01, true_and, and_true, true_imp_iff, false_imp_iff, not_true_eq_false, not_false_eq_true, hs_av, hs_ai, hs_ar, hs_an, hs_aj, hs_ci, hs_cr, hs_cn, hs_cj, hs_cd, hs_cf, hs_q0, hs_q1, reduceIte, Nat.reduceEqDiff, Nat.reduceAdd, Nat.reduceLT, eq_self, List.getElem?_cons_zero, List.getElem?_cons_succ, List.set_cons_zero, List.set_cons_succ, List.length_cons, List.length_nil, Option.toList_some, Option.toList_none, List.cons_append, List.nil_append, Nat.zero_add, Nat.add_zero, List.map_nil, List.sum_nil, List.map_cons, List.sum_cons, Nat.zero_le, hs_set1]
  refine hl_callVh B (As := [.int _, .int _, .int _]) (cm_capture hst hI) mtX7_capture (hl_dec okL_capture 6 rfl) (kk := 702) (by decide +kernel) rfl rfl (hg.1.f0) rfl (Nat.le_of_ble_eq_true rfl) (by decide) (by decide) (by decide) (by decide) hg (fun r9 h9 hq => ?_) (fun E h9 hx => ?_)
  · obtain ⟨ca2, rfl, w2, hn⟩ := hq
    have hro : h9 ro = some (.inl (1, .inr (.inl f))) := w2.2.2.2.2.2.2 ro _ hr
    obtain ⟨v9, hv⟩ := ov_capture (σ := σ) (k1 := k1) (x := x) (v := v)
    rw [hv]
    refine hl_segh B okL_capture (fun q => nomatch q) 7 1000 rfl ?_
    simp only [pL_capture, List.drop_zero, List.drop_succ_cons, hl_wp, hs_ii, hs_i1, hs_ll, hs_l1, hs_ff, hs_g1, hs_dd, hs_d1, hs_r1, hs_rv, hs_rv0, hs_n1, hs_n0, hs_v1i, hs_v1r, hs_a1, hs_d2l, hs_d2i, hs_ri, hs_rl, hs_rg, hs_rd8, hs_rr, hs_rn, hs_ov, hs_gf, hs_po, hs_pfi, hs_pfr, hs_ia, hs_la, hs_da, hs_qa, hs_al, hs_is, hs_ls, hs_ds, hs_iso, hs_lso, hs_dso, hs_rd, hs_f1, hs_f10, hs_f2, hs_f20, hs_in0, hs_in1, hs_lt, hs_le, hs_ge, hs_gt, hs_eq, hs_10, hs_00, hs_01, true_and, and_true, true_imp_iff, false_imp_iff, not_true_eq_false, not_false_eq_true, hs_av, hs_ai, hs_ar, hs_an, hs_aj, hs_ci, hs_cr, hs_cn, hs_cj, hs_cd, hs_cf, hs_q0, hs_q1, reduceIte, Nat.reduceEqDiff, Nat.reduceAdd, Nat.reduceLT, eq_self, List.getElem?_cons_zero, List.getElem?_cons_succ, List.set_cons_zero, List.set_cons_succ, List.length_cons, List.length_nil, Option.toList_some, Option.toList_none, List.cons_append, List.nil_append, Nat.zero_add, Nat.add_zero, List.map_nil, List.sum_nil, List.map_cons, List.sum_cons, Nat.zero_le, hs_set1, hro]
    refine ⟨vp_in_nI (n := 0) (N := 1) (by decide) (by decide), ?_⟩
    refine hl_segh B okL_capture (fun q => nomatch q) 25 1000 rfl ?_
    simp only [pL_capture, List.drop_zero, List.drop_succ_cons, hl_wp, hs_ii, hs_i1, hs_ll, hs_l1, hs_ff, hs_g1, hs_dd, hs_d1, hs_r1, hs_rv, hs_rv0, hs_n1, hs_n0, hs_v1i, hs_v1r, hs_a1, hs_d2l, hs_d2i, hs_ri, hs_rl, hs_rg, hs_rd8, hs_rr, hs_rn, hs_ov, hs_gf, hs_po, hs_pfi, hs_pfr, hs_ia, hs_la, hs_da, hs_qa, hs_al, hs_is, hs_ls, hs_ds, hs_iso, hs_lso, hs_dso, hs_rd, hs_f1, hs_f10, hs_f2, hs_f20, hs_in0, hs_in1, hs_lt, hs_le, hs_ge, hs_gt, hs_eq, hs_10, hs_00, hs_01, true_and, and_true, true_imp_iff, false_imp_iff, not_true_eq_false, not_false_eq_true, hs_av, hs_ai, hs_ar, hs_an, hs_aj, hs_ci, hs_cr, hs_cn, hs_cj, hs_cd, hs_cf, hs_q0, hs_q1, reduceIte, Nat.reduceEqDiff, Nat.reduceAdd, Nat.reduceLT, eq_self, List.getElem?_cons_zero, List.getElem?_cons_succ, List.set_cons_zero, List.set_cons_succ, List.length_cons, List.length_nil, Option.toList_some, Option.toList_none, List.cons_append, List.nil_append, Nat.zero_add, Nat.add_zero, List.map_nil, List.sum_nil, List.map_cons, List.sum_cons, Nat.zero_le, hs_set1]
    exact hl_ireth B rfl rfl (hl_dec okL_capture 26 rfl) (by decide) (by decide) ⟨ca2, _, by rw [hn]; rfl, w2.refr hr _, fun _ => by rw [hv]; rfl⟩
  · obtain ⟨ca2, w2, hE1⟩ := hx
    have hm := oe_capture _ hE1
    rcases List.mem_cons.mp hm with rfl | hm
    · skip
      refine hl_catch B (pre := []) (s0 := 0) (e0 := 12) (hp := 15) (ct := 13) (suf := [(0, 12, 19, 20), (0, 12, 23, 45), (0, 12, 27, 22), (0, 12, 31, 15)]) (by simp [hl_ex]) rfl (by decide) (by decide) (kk := 375) (by decide +kernel) (kc := 387) (by decide +kernel) hl_pa_n (fun q => ?_)
      refine hl_segh B okL_capture (fun q => nomatch q) 10 1000 rfl ?_
      simp only [pL_capture, List.drop_zero, List.drop_succ_cons, hl_wp, hs_ii, hs_i1, hs_ll, hs_l1, hs_ff, hs_g1, hs_dd, hs_d1, hs_r1, hs_rv, hs_rv0, hs_n1, hs_n0, hs_v1i, hs_v1r, hs_a1, hs_d2l, hs_d2i, hs_ri, hs_rl, hs_rg, hs_rd8, hs_rr, hs_rn, hs_ov, hs_gf, hs_po, hs_pfi, hs_pfr, hs_ia, hs_la, hs_da, hs_qa, hs_al, hs_is, hs_ls, hs_ds, hs_iso, hs_lso, hs_dso, hs_rd, hs_f1, hs_f10, hs_f2, hs_f20, hs_in0, hs_in1, hs_lt, hs_le, hs_ge, hs_gt, hs_eq, hs_10, hs_00, hs_01, true_and, and_true, true_imp_iff, false_imp_iff, not_true_eq_false, not_false_eq_true, hs_av, hs_ai, hs_ar, hs_an, hs_aj, hs_ci, hs_cr, hs_cn, hs_cj, hs_cd, hs_cf, hs_q0, hs_q1, reduceIte, Nat.reduceEqDiff, Nat.reduceAdd, Nat.reduceLT, eq_self, List.getElem?_cons_zero, List.getElem?_cons_succ, List.set_cons_zero, List.set_cons_succ, List.length_cons, List.length_nil, Option.toList_some, Option.toList_none, List.cons_append, List.nil_append, Nat.zero_add, Nat.add_zero, List.map_nil, List.sum_nil, List.map_cons, List.sum_cons, Nat.zero_le, hs_set1]
      exact hl_ireth B rfl rfl (hl_dec okL_capture 12 rfl) (by decide) (by decide) ⟨ca2, f, by rw [hE1]; exact congrArg (fun z => some (Value.int z)) (by decide +kernel), by rw [hl_set_same hr]; exact w2, fun z => by rw [hE1] at z; cases z⟩
    rcases List.mem_cons.mp hm with rfl | hm
    · skip
      refine hl_catch B (pre := [(0, 12, 15, 13)]) (s0 := 0) (e0 := 12) (hp := 19) (ct := 20) (suf := [(0, 12, 23, 45), (0, 12, 27, 22), (0, 12, 31, 15)]) (by simp [hl_ex]) rfl (by decide) (by decide) (kk := 486) (by decide +kernel) (kc := 521) (by decide +kernel) (hl_pa_c ⟨by decide, xIAE, by simp [hl_ex], by decide, hl_T_of (k := 375) (by decide +kernel) rfl⟩ hl_pa_n) (fun q => ?_)
      refine hl_segh B okL_capture (fun q => nomatch q) 13 1000 rfl ?_
      simp only [pL_capture, List.drop_zero, List.drop_succ_cons, hl_wp, hs_ii, hs_i1, hs_ll, hs_l1, hs_ff, hs_g1, hs_dd, hs_d1, hs_r1, hs_rv, hs_rv0, hs_n1, hs_n0, hs_v1i, hs_v1r, hs_a1, hs_d2l, hs_d2i, hs_ri, hs_rl, hs_rg, hs_rd8, hs_rr, hs_rn, hs_ov, hs_gf, hs_po, hs_pfi, hs_pfr, hs_ia, hs_la, hs_da, hs_qa, hs_al, hs_is, hs_ls, hs_ds, hs_iso, hs_lso, hs_dso, hs_rd, hs_f1, hs_f10, hs_f2, hs_f20, hs_in0, hs_in1, hs_lt, hs_le, hs_ge, hs_gt, hs_eq, hs_10, hs_00, hs_01, true_and, and_true, true_imp_iff, false_imp_iff, not_true_eq_false, not_false_eq_true, hs_av, hs_ai, hs_ar, hs_an, hs_aj, hs_ci, hs_cr, hs_cn, hs_cj, hs_cd, hs_cf, hs_q0, hs_q1, reduceIte, Nat.reduceEqDiff, Nat.reduceAdd, Nat.reduceLT, eq_self, List.getElem?_cons_zero, List.getElem?_cons_succ, List.set_cons_zero, List.set_cons_succ, List.length_cons, List.length_nil, Option.toList_some, Option.toList_none, List.cons_append, List.nil_append, Nat.zero_add, Nat.add_zero, List.map_nil, List.sum_nil, List.map_cons, List.sum_cons, Nat.zero_le, hs_set1]
      exact hl_ireth B rfl rfl (hl_dec okL_capture 15 rfl) (by decide) (by decide) ⟨ca2, f, by rw [hE1]; exact congrArg (fun z => some (Value.int z)) (by decide +kernel), by rw [hl_set_same hr]; exact w2, fun z => by rw [hE1] at z; cases z⟩
    rcases List.mem_cons.mp hm with rfl | hm
    · skip
      refine hl_catch B (pre := [(0, 12, 15, 13), (0, 12, 19, 20)]) (s0 := 0) (e0 := 12) (hp := 23) (ct := 45) (suf := [(0, 12, 27, 22), (0, 12, 31, 15)]) (by simp [hl_ex]) rfl (by decide) (by decide) (kk := 701) (by decide +kernel) (kc := 718) (by decide +kernel) (hl_pa_c ⟨by decide, xIAE, by simp [hl_ex], by decide, hl_T_of (k := 375) (by decide +kernel) rfl⟩ (hl_pa_c ⟨by decide, xIOB, by simp [hl_ex], by decide, hl_T_of (k := 486) (by decide +kernel) rfl⟩ hl_pa_n)) (fun q => ?_)
      refine hl_segh B okL_capture (fun q => nomatch q) 16 1000 rfl ?_
      simp only [pL_capture, List.drop_zero, List.drop_succ_cons, hl_wp, hs_ii, hs_i1, hs_ll, hs_l1, hs_ff, hs_g1, hs_dd, hs_d1, hs_r1, hs_rv, hs_rv0, hs_n1, hs_n0, hs_v1i, hs_v1r, hs_a1, hs_d2l, hs_d2i, hs_ri, hs_rl, hs_rg, hs_rd8, hs_rr, hs_rn, hs_ov, hs_gf, hs_po, hs_pfi, hs_pfr, hs_ia, hs_la, hs_da, hs_qa, hs_al, hs_is, hs_ls, hs_ds, hs_iso, hs_lso, hs_dso, hs_rd, hs_f1, hs_f10, hs_f2, hs_f20, hs_in0, hs_in1, hs_lt, hs_le, hs_ge, hs_gt, hs_eq, hs_10, hs_00, hs_01, true_and, and_true, true_imp_iff, false_imp_iff, not_true_eq_false, not_false_eq_true, hs_av, hs_ai, hs_ar, hs_an, hs_aj, hs_ci, hs_cr, hs_cn, hs_cj, hs_cd, hs_cf, hs_q0, hs_q1, reduceIte, Nat.reduceEqDiff, Nat.reduceAdd, Nat.reduceLT, eq_self, List.getElem?_cons_zero, List.getElem?_cons_succ, List.set_cons_zero, List.set_cons_succ, List.length_cons, List.length_nil, Option.toList_some, Option.toList_none, List.cons_append, List.nil_append, Nat.zero_add, Nat.add_zero, List.map_nil, List.sum_nil, List.map_cons, List.sum_cons, Nat.zero_le, hs_set1]
      exact hl_ireth B rfl rfl (hl_dec okL_capture 18 rfl) (by decide) (by decide) ⟨ca2, f, by rw [hE1]; exact congrArg (fun z => some (Value.int z)) (by decide +kernel), by rw [hl_set_same hr]; exact w2, fun z => by rw [hE1] at z; cases z⟩
    rcases List.mem_cons.mp hm with rfl | hm
    · skip
      refine hl_catch B (pre := [(0, 12, 15, 13), (0, 12, 19, 20), (0, 12, 23, 45)]) (s0 := 0) (e0 := 12) (hp := 27) (ct := 22) (suf := [(0, 12, 31, 15)]) (by simp [hl_ex]) rfl (by decide) (by decide) (kk := 510) (by decide +kernel) (kc := 534) (by decide +kernel) (hl_pa_c ⟨by decide, xIAE, by simp [hl_ex], by decide, hl_T_of (k := 375) (by decide +kernel) rfl⟩ (hl_pa_c ⟨by decide, xIOB, by simp [hl_ex], by decide, hl_T_of (k := 486) (by decide +kernel) rfl⟩ (hl_pa_c ⟨by decide, xNSE, by simp [hl_ex], by decide, hl_T_of (k := 701) (by decide +kernel) rfl⟩ hl_pa_n))) (fun q => ?_)
      refine hl_segh B okL_capture (fun q => nomatch q) 19 1000 rfl ?_
      simp only [pL_capture, List.drop_zero, List.drop_succ_cons, hl_wp, hs_ii, hs_i1, hs_ll, hs_l1, hs_ff, hs_g1, hs_dd, hs_d1, hs_r1, hs_rv, hs_rv0, hs_n1, hs_n0, hs_v1i, hs_v1r, hs_a1, hs_d2l, hs_d2i, hs_ri, hs_rl, hs_rg, hs_rd8, hs_rr, hs_rn, hs_ov, hs_gf, hs_po, hs_pfi, hs_pfr, hs_ia, hs_la, hs_da, hs_qa, hs_al, hs_is, hs_ls, hs_ds, hs_iso, hs_lso, hs_dso, hs_rd, hs_f1, hs_f10, hs_f2, hs_f20, hs_in0, hs_in1, hs_lt, hs_le, hs_ge, hs_gt, hs_eq, hs_10, hs_00, hs_01, true_and, and_true, true_imp_iff, false_imp_iff, not_true_eq_false, not_false_eq_true, hs_av, hs_ai, hs_ar, hs_an, hs_aj, hs_ci, hs_cr, hs_cn, hs_cj, hs_cd, hs_cf, hs_q0, hs_q1, reduceIte, Nat.reduceEqDiff, Nat.reduceAdd, Nat.reduceLT, eq_self, List.getElem?_cons_zero, List.getElem?_cons_succ, List.set_cons_zero, List.set_cons_succ, List.length_cons, List.length_nil, Option.toList_some, Option.toList_none, List.cons_append, List.nil_append, Nat.zero_add, Nat.add_zero, List.map_nil, List.sum_nil, List.map_cons, List.sum_cons, Nat.zero_le, hs_set1]
      exact hl_ireth B rfl rfl (hl_dec okL_capture 21 rfl) (by decide) (by decide) ⟨ca2, f, by rw [hE1]; exact congrArg (fun z => some (Value.int z)) (by decide +kernel), by rw [hl_set_same hr]; exact w2, fun z => by rw [hE1] at z; cases z⟩
    cases List.mem_singleton.mp hm
    refine hl_catch B (pre := [(0, 12, 15, 13), (0, 12, 19, 20), (0, 12, 23, 45), (0, 12, 27, 22)]) (s0 := 0) (e0 := 12) (hp := 31) (ct := 15) (suf := []) (by simp [hl_ex]) rfl (by decide) (by decide) (kk := 376) (by decide +kernel) (kc := 465) (by decide +kernel) (hl_pa_c ⟨by decide, xIAE, by simp [hl_ex], by decide, hl_T_of (k := 375) (by decide +kernel) rfl⟩ (hl_pa_c ⟨by decide, xIOB, by simp [hl_ex], by decide, hl_T_of (k := 486) (by decide +kernel) rfl⟩ (hl_pa_c ⟨by decide, xNSE, by simp [hl_ex], by decide, hl_T_of (k := 701) (by decide +kernel) rfl⟩ (hl_pa_c ⟨by decide, xUOE, by simp [hl_ex], by decide, hl_T_of (k := 510) (by decide +kernel) rfl⟩ hl_pa_n)))) (fun q => ?_)
    refine hl_segh B okL_capture (fun q => nomatch q) 22 1000 rfl ?_
    simp only [pL_capture, List.drop_zero, List.drop_succ_cons, hl_wp, hs_ii, hs_i1, hs_ll, hs_l1, hs_ff, hs_g1, hs_dd, hs_d1, hs_r1, hs_rv, hs_rv0, hs_n1, hs_n0, hs_v1i, hs_v1r, hs_a1, hs_d2l, hs_d2i, hs_ri, hs_rl, hs_rg, hs_rd8, hs_rr, hs_rn, hs_ov, hs_gf, hs_po, hs_pfi, hs_pfr, hs_ia, hs_la, hs_da, hs_qa, hs_al, hs_is, hs_ls, hs_ds, hs_iso, hs_lso, hs_dso, hs_rd, hs_f1, hs_f10, hs_f2, hs_f20, hs_in0, hs_in1, hs_lt, hs_le, hs_ge, hs_gt, hs_eq, hs_10, hs_00, hs_01, true_and, and_true, true_imp_iff, false_imp_iff, not_true_eq_false, not_false_eq_true, hs_av, hs_ai, hs_ar, hs_an, hs_aj, hs_ci, hs_cr, hs_cn, hs_cj, hs_cd, hs_cf, hs_q0, hs_q1, reduceIte, Nat.reduceEqDiff, Nat.reduceAdd, Nat.reduceLT, eq_self, List.getElem?_cons_zero, List.getElem?_cons_succ, List.set_cons_zero, List.set_cons_succ, List.length_cons, List.length_nil, Option.toList_some, Option.toList_none, List.cons_append, List.nil_append, Nat.zero_add, Nat.add_zero, List.map_nil, List.sum_nil, List.map_cons, List.sum_cons, Nat.zero_le, hs_set1]
    exact hl_ireth B rfl rfl (hl_dec okL_capture 24 rfl) (by decide) (by decide) ⟨ca2, f, by rw [hE1]; exact congrArg (fun z => some (Value.int z)) (by decide +kernel), by rw [hl_set_same hr]; exact w2, fun z => by rw [hE1] at z; cases z⟩
theorem oe_release {σ : LSt} {x : Int32} : ∀ E : String, (op_release σ x).1 = some E → E ∈ [xIOB, xNSE] := by
  intro E h
  unfold op_release at h
  rw [ls_res_1] at h
  rcases er_act_e h with rfl | rfl <;> simp
theorem ov_release {σ : LSt} {x : Int32} : ∃ v9, (op_release σ x).2.2 = .int v9 := by
  unfold op_release
  exact ⟨_, ls_res_v⟩
abbrev mL_release : hl_M := (yL_release, cL_release, 4, (some .int))
theorem mtL_release : hl_mh mL_release [(0, 9, 12, 20), (0, 9, 15, 45)] 3 := ⟨hl_T_of (k := 736) (by decide +kernel) rfl, hl_T_of (k := 48) (by decide +kernel) rfl, ⟨by decide +kernel, by decide +kernel⟩, by decide +kernel, hl_T_of (k := 735) (by decide +kernel) rfl⟩
set_option maxRecDepth 20000 in
set_option maxHeartbeats 2000000 in
theorem cw_release {G : hl_G} {l : Launch} {a ca : Nat → Nat} {σ : LSt} {x : Int32} {h0 : hl_H} {ro : Nat} {f : Nat → Int64} (hst : l.stackTraces = false) (hI : LInv0 σ) (hr : h0 ro = some (.inl (1, .inr (.inl f)))) :
    hl_Ch G l mL_release [(0, 9, 12, 20), (0, 9, 15, 45)] 7 12 90 [.ref (a 0), .int x, .ref ro] (LSw a ca σ h0) (lw_Q a h0 ro [xIOB, xNSE] (op_release σ x)) (fun _ _ => False) := by
  refine hl_bodyh (by decide +kernel) (Nat.le_of_ble_eq_true rfl) ?_
  intro p e s m args below meth c B g hg
  refine hl_segh B okL_release (fun q => nomatch q) 0 1000 rfl ?_
  simp only [pL_release, List.drop_zero, List.drop_succ_cons, hl_wp, hs_ii, hs_i1, hs_ll, hs_l1, hs_ff, hs_g1, hs_dd, hs_d1, hs_r1, hs_rv, hs_rv0, hs_n1, hs_n0, hs_v1i, hs_v1r, hs_a1, hs_d2l, hs_d2i, hs_ri, hs_rl, hs_rg, hs_rd8, hs_rr, hs_rn, hs_ov, hs_gf, hs_po, hs_pfi, hs_pfr, hs_ia, hs_la, hs_da, hs_qa, hs_al, hs_is, hs_ls, hs_ds, hs_iso, hs_lso, hs_dso, hs_rd, hs_f1, hs_f10, hs_f2, hs_f20, hs_in0, hs_in1, hs_lt, hs_le, hs_ge, hs_gt, hs_eq, hs_10, hs_00, hs_01, true_and, and_true, true_imp_iff, false_imp_iff, not_true_eq_false, not_false_eq_true, hs_av, hs_ai, hs_ar, hs_an, hs_aj, hs_ci, hs_cr, hs_cn, hs_cj, hs_cd, hs_cf, hs_q0, hs_q1, reduceIte, Nat.reduceEqDiff, Nat.reduceAdd, Nat.reduceLT, eq_self, List.getElem?_cons_zero, List.getElem?_cons_succ, List.set_cons_zero, List.set_cons_succ, List.length_cons, List.length_nil, Option.toList_some, Option.toList_none, List.cons_append, List.nil_append, Nat.zero_add, Nat.add_zero, List.map_nil, List.sum_nil, List.map_cons, List.sum_cons, Nat.zero_le, hs_set1]
  refine hl_callVh B (As := [.int _]) (cm_release hst hI) mtX7_release (hl_dec okL_release 4 rfl) (kk := 737) (by decide +kernel) rfl rfl (hg.1.f0) rfl (Nat.le_of_ble_eq_true rfl) (by decide) (by decide) (by decide) (by decide) hg (fun r9 h9 hq => ?_) (fun E h9 hx => ?_)
  · obtain ⟨ca2, rfl, w2, hn⟩ := hq
    have hro : h9 ro = some (.inl (1, .inr (.inl f))) := w2.2.2.2.2.2.2 ro _ hr
    obtain ⟨v9, hv⟩ := ov_release (σ := σ) (x := x)
    rw [hv]
    refine hl_segh B okL_release (fun q => nomatch q) 5 1000 rfl ?_
    simp only [pL_release, List.drop_zero, List.drop_succ_cons, hl_wp, hs_ii, hs_i1, hs_ll, hs_l1, hs_ff, hs_g1, hs_dd, hs_d1, hs_r1, hs_rv, hs_rv0, hs_n1, hs_n0, hs_v1i, hs_v1r, hs_a1, hs_d2l, hs_d2i, hs_ri, hs_rl, hs_rg, hs_rd8, hs_rr, hs_rn, hs_ov, hs_gf, hs_po, hs_pfi, hs_pfr, hs_ia, hs_la, hs_da, hs_qa, hs_al, hs_is, hs_ls, hs_ds, hs_iso, hs_lso, hs_dso, hs_rd, hs_f1, hs_f10, hs_f2, hs_f20, hs_in0, hs_in1, hs_lt, hs_le, hs_ge, hs_gt, hs_eq, hs_10, hs_00, hs_01, true_and, and_true, true_imp_iff, false_imp_iff, not_true_eq_false, not_false_eq_true, hs_av, hs_ai, hs_ar, hs_an, hs_aj, hs_ci, hs_cr, hs_cn, hs_cj, hs_cd, hs_cf, hs_q0, hs_q1, reduceIte, Nat.reduceEqDiff, Nat.reduceAdd, Nat.reduceLT, eq_self, List.getElem?_cons_zero, List.getElem?_cons_succ, List.set_cons_zero, List.set_cons_succ, List.length_cons, List.length_nil, Option.toList_some, Option.toList_none, List.cons_append, List.nil_append, Nat.zero_add, Nat.add_zero, List.map_nil, List.sum_nil, List.map_cons, List.sum_cons, Nat.zero_le, hs_set1, hro]
    refine ⟨vp_in_nI (n := 0) (N := 1) (by decide) (by decide), ?_⟩
    refine hl_segh B okL_release (fun q => nomatch q) 14 1000 rfl ?_
    simp only [pL_release, List.drop_zero, List.drop_succ_cons, hl_wp, hs_ii, hs_i1, hs_ll, hs_l1, hs_ff, hs_g1, hs_dd, hs_d1, hs_r1, hs_rv, hs_rv0, hs_n1, hs_n0, hs_v1i, hs_v1r, hs_a1, hs_d2l, hs_d2i, hs_ri, hs_rl, hs_rg, hs_rd8, hs_rr, hs_rn, hs_ov, hs_gf, hs_po, hs_pfi, hs_pfr, hs_ia, hs_la, hs_da, hs_qa, hs_al, hs_is, hs_ls, hs_ds, hs_iso, hs_lso, hs_dso, hs_rd, hs_f1, hs_f10, hs_f2, hs_f20, hs_in0, hs_in1, hs_lt, hs_le, hs_ge, hs_gt, hs_eq, hs_10, hs_00, hs_01, true_and, and_true, true_imp_iff, false_imp_iff, not_true_eq_false, not_false_eq_true, hs_av, hs_ai, hs_ar, hs_an, hs_aj, hs_ci, hs_cr, hs_cn, hs_cj, hs_cd, hs_cf, hs_q0, hs_q1, reduceIte, Nat.reduceEqDiff, Nat.reduceAdd, Nat.reduceLT, eq_self, List.getElem?_cons_zero, List.getElem?_cons_succ, List.set_cons_zero, List.set_cons_succ, List.length_cons, List.length_nil, Option.toList_some, Option.toList_none, List.cons_append, List.nil_append, Nat.zero_add, Nat.add_zero, List.map_nil, List.sum_nil, List.map_cons, List.sum_cons, Nat.zero_le, hs_set1]
    exact hl_ireth B rfl rfl (hl_dec okL_release 15 rfl) (by decide) (by decide) ⟨ca2, _, by rw [hn]; rfl, w2.refr hr _, fun _ => by rw [hv]; rfl⟩
  · obtain ⟨ca2, w2, hE1⟩ := hx
    have hm := oe_release _ hE1
    rcases List.mem_cons.mp hm with rfl | hm
    · skip
      refine hl_catch B (pre := []) (s0 := 0) (e0 := 9) (hp := 12) (ct := 20) (suf := [(0, 9, 15, 45)]) (by simp [hl_ex]) rfl (by decide) (by decide) (kk := 486) (by decide +kernel) (kc := 521) (by decide +kernel) hl_pa_n (fun q => ?_)
      refine hl_segh B okL_release (fun q => nomatch q) 8 1000 rfl ?_
      simp only [pL_release, List.drop_zero, List.drop_succ_cons, hl_wp, hs_ii, hs_i1, hs_ll, hs_l1, hs_ff, hs_g1, hs_dd, hs_d1, hs_r1, hs_rv, hs_rv0, hs_n1, hs_n0, hs_v1i, hs_v1r, hs_a1, hs_d2l, hs_d2i, hs_ri, hs_rl, hs_rg, hs_rd8, hs_rr, hs_rn, hs_ov, hs_gf, hs_po, hs_pfi, hs_pfr, hs_ia, hs_la, hs_da, hs_qa, hs_al, hs_is, hs_ls, hs_ds, hs_iso, hs_lso, hs_dso, hs_rd, hs_f1, hs_f10, hs_f2, hs_f20, hs_in0, hs_in1, hs_lt, hs_le, hs_ge, hs_gt, hs_eq, hs_10, hs_00, hs_01, true_and, and_true, true_imp_iff, false_imp_iff, not_true_eq_false, not_false_eq_true, hs_av, hs_ai, hs_ar, hs_an, hs_aj, hs_ci, hs_cr, hs_cn, hs_cj, hs_cd, hs_cf, hs_q0, hs_q1, reduceIte, Nat.reduceEqDiff, Nat.reduceAdd, Nat.reduceLT, eq_self, List.getElem?_cons_zero, List.getElem?_cons_succ, List.set_cons_zero, List.set_cons_succ, List.length_cons, List.length_nil, Option.toList_some, Option.toList_none, List.cons_append, List.nil_append, Nat.zero_add, Nat.add_zero, List.map_nil, List.sum_nil, List.map_cons, List.sum_cons, Nat.zero_le, hs_set1]
      exact hl_ireth B rfl rfl (hl_dec okL_release 10 rfl) (by decide) (by decide) ⟨ca2, f, by rw [hE1]; exact congrArg (fun z => some (Value.int z)) (by decide +kernel), by rw [hl_set_same hr]; exact w2, fun z => by rw [hE1] at z; cases z⟩
    cases List.mem_singleton.mp hm
    refine hl_catch B (pre := [(0, 9, 12, 20)]) (s0 := 0) (e0 := 9) (hp := 15) (ct := 45) (suf := []) (by simp [hl_ex]) rfl (by decide) (by decide) (kk := 701) (by decide +kernel) (kc := 718) (by decide +kernel) (hl_pa_c ⟨by decide, xIOB, by simp [hl_ex], by decide, hl_T_of (k := 486) (by decide +kernel) rfl⟩ hl_pa_n) (fun q => ?_)
    refine hl_segh B okL_release (fun q => nomatch q) 11 1000 rfl ?_
    simp only [pL_release, List.drop_zero, List.drop_succ_cons, hl_wp, hs_ii, hs_i1, hs_ll, hs_l1, hs_ff, hs_g1, hs_dd, hs_d1, hs_r1, hs_rv, hs_rv0, hs_n1, hs_n0, hs_v1i, hs_v1r, hs_a1, hs_d2l, hs_d2i, hs_ri, hs_rl, hs_rg, hs_rd8, hs_rr, hs_rn, hs_ov, hs_gf, hs_po, hs_pfi, hs_pfr, hs_ia, hs_la, hs_da, hs_qa, hs_al, hs_is, hs_ls, hs_ds, hs_iso, hs_lso, hs_dso, hs_rd, hs_f1, hs_f10, hs_f2, hs_f20, hs_in0, hs_in1, hs_lt, hs_le, hs_ge, hs_gt, hs_eq, hs_10, hs_00, hs_01, true_and, and_true, true_imp_iff, false_imp_iff, not_true_eq_false, not_false_eq_true, hs_av, hs_ai, hs_ar, hs_an, hs_aj, hs_ci, hs_cr, hs_cn, hs_cj, hs_cd, hs_cf, hs_q0, hs_q1, reduceIte, Nat.reduceEqDiff, Nat.reduceAdd, Nat.reduceLT, eq_self, List.getElem?_cons_zero, List.getElem?_cons_succ, List.set_cons_zero, List.set_cons_succ, List.length_cons, List.length_nil, Option.toList_some, Option.toList_none, List.cons_append, List.nil_append, Nat.zero_add, Nat.add_zero, List.map_nil, List.sum_nil, List.map_cons, List.sum_cons, Nat.zero_le, hs_set1]
    exact hl_ireth B rfl rfl (hl_dec okL_release 13 rfl) (by decide) (by decide) ⟨ca2, f, by rw [hE1]; exact congrArg (fun z => some (Value.int z)) (by decide +kernel), by rw [hl_set_same hr]; exact w2, fun z => by rw [hE1] at z; cases z⟩
theorem oe_reverse {σ : LSt} {k1 x : Int32} : ∀ E : String, (op_reverse σ k1 x).1 = some E → E ∈ [xIAE, xIOB, xNSE, xUOE, xISE] := by
  intro E h
  unfold op_reverse at h
  unfold ls_kd at h
  split at h
  · cases h
  rw [ls_res_1] at h
  rcases ls_or_e h with h | h
  · cases er_key_e h; simp
  rcases ls_or_e h with h | h
  · cases er_tra_e h; simp
  rcases ls_or_e h with h | h
  · (repeat' split at h) <;> first | (cases h; done) | (cases h; simp; done) | (cases er_spe_e h; simp)
  rcases ls_or_e h with h | h
  · (repeat' split at h) <;> first | (cases h; done) | (cases h; simp; done) | (cases er_spe_e h; simp)
  cases er_roo_e h; simp
theorem ov_reverse {σ : LSt} {k1 x : Int32} : ∃ v9, (op_reverse σ k1 x).2.2 = .int v9 := by
  unfold op_reverse
  exact ls_kd_v
abbrev mL_reverse : hl_M := (yL_reverse, cL_reverse, 5, (some .int))
theorem mtL_reverse : hl_mh mL_reverse [(0, 10, 13, 13), (0, 10, 17, 20), (0, 10, 21, 45), (0, 10, 25, 22), (0, 10, 29, 15)] 4 := ⟨hl_T_of (k := 744) (by decide +kernel) rfl, hl_T_of (k := 48) (by decide +kernel) rfl, ⟨by decide +kernel, by decide +kernel⟩, by decide +kernel, hl_T_of (k := 743) (by decide +kernel) rfl⟩
set_option maxRecDepth 20000 in
set_option maxHeartbeats 2000000 in
theorem cw_reverse {G : hl_G} {l : Launch} {a ca : Nat → Nat} {σ : LSt} {k1 x : Int32} {h0 : hl_H} {ro : Nat} {f : Nat → Int64} (hst : l.stackTraces = false) (hI : LInv0 σ) (hr : h0 ro = some (.inl (1, .inr (.inl f)))) :
    hl_Ch G l mL_reverse [(0, 10, 13, 13), (0, 10, 17, 20), (0, 10, 21, 45), (0, 10, 25, 22), (0, 10, 29, 15)] 7 12 90 [.ref (a 0), .int k1, .int x, .ref ro] (LSw a ca σ h0) (lw_Q a h0 ro [xIAE, xIOB, xNSE, xUOE, xISE] (op_reverse σ k1 x)) (fun _ _ => False) := by
  refine hl_bodyh (by decide +kernel) (Nat.le_of_ble_eq_true rfl) ?_
  intro p e s m args below meth c B g hg
  refine hl_segh B okL_reverse (fun q => nomatch q) 0 1000 rfl ?_
  simp only [pL_reverse, List.drop_zero, List.drop_succ_cons, hl_wp, hs_ii, hs_i1, hs_ll, hs_l1, hs_ff, hs_g1, hs_dd, hs_d1, hs_r1, hs_rv, hs_rv0, hs_n1, hs_n0, hs_v1i, hs_v1r, hs_a1, hs_d2l, hs_d2i, hs_ri, hs_rl, hs_rg, hs_rd8, hs_rr, hs_rn, hs_ov, hs_gf, hs_po, hs_pfi, hs_pfr, hs_ia, hs_la, hs_da, hs_qa, hs_al, hs_is, hs_ls, hs_ds, hs_iso, hs_lso, hs_dso, hs_rd, hs_f1, hs_f10, hs_f2, hs_f20, hs_in0, hs_in1, hs_lt, hs_le, hs_ge, hs_gt, hs_eq, hs_10, hs_00, hs_01, true_and, and_true, true_imp_iff, false_imp_iff, not_true_eq_false, not_false_eq_true, hs_av, hs_ai, hs_ar, hs_an, hs_aj, hs_ci, hs_cr, hs_cn, hs_cj, hs_cd, hs_cf, hs_q0, hs_q1, reduceIte, Nat.reduceEqDiff, Nat.reduceAdd, Nat.reduceLT, eq_self, List.getElem?_cons_zero, List.getElem?_cons_succ, List.set_cons_zero, List.set_cons_succ, List.length_cons, List.length_nil, Option.toList_some, Option.toList_none, List.cons_append, List.nil_append, Nat.zero_add, Nat.add_zero, List.map_nil, List.sum_nil, List.map_cons, List.sum_cons, Nat.zero_le, hs_set1]
  refine hl_callVh B (As := [.int _, .int _]) (cm_reverse hst hI) mtX7_reverse (hl_dec okL_reverse 5 rfl) (kk := 745) (by decide +kernel) rfl rfl (hg.1.f0) rfl (Nat.le_of_ble_eq_true rfl) (by decide) (by decide) (by decide) (by decide) hg (fun r9 h9 hq => ?_) (fun E h9 hx => ?_)
  · obtain ⟨ca2, rfl, w2, hn⟩ := hq
    have hro : h9 ro = some (.inl (1, .inr (.inl f))) := w2.2.2.2.2.2.2 ro _ hr
    obtain ⟨v9, hv⟩ := ov_reverse (σ := σ) (k1 := k1) (x := x)
    rw [hv]
    refine hl_segh B okL_reverse (fun q => nomatch q) 6 1000 rfl ?_
    simp only [pL_reverse, List.drop_zero, List.drop_succ_cons, hl_wp, hs_ii, hs_i1, hs_ll, hs_l1, hs_ff, hs_g1, hs_dd, hs_d1, hs_r1, hs_rv, hs_rv0, hs_n1, hs_n0, hs_v1i, hs_v1r, hs_a1, hs_d2l, hs_d2i, hs_ri, hs_rl, hs_rg, hs_rd8, hs_rr, hs_rn, hs_ov, hs_gf, hs_po, hs_pfi, hs_pfr, hs_ia, hs_la, hs_da, hs_qa, hs_al, hs_is, hs_ls, hs_ds, hs_iso, hs_lso, hs_dso, hs_rd, hs_f1, hs_f10, hs_f2, hs_f20, hs_in0, hs_in1, hs_lt, hs_le, hs_ge, hs_gt, hs_eq, hs_10, hs_00, hs_01, true_and, and_true, true_imp_iff, false_imp_iff, not_true_eq_false, not_false_eq_true, hs_av, hs_ai, hs_ar, hs_an, hs_aj, hs_ci, hs_cr, hs_cn, hs_cj, hs_cd, hs_cf, hs_q0, hs_q1, reduceIte, Nat.reduceEqDiff, Nat.reduceAdd, Nat.reduceLT, eq_self, List.getElem?_cons_zero, List.getElem?_cons_succ, List.set_cons_zero, List.set_cons_succ, List.length_cons, List.length_nil, Option.toList_some, Option.toList_none, List.cons_append, List.nil_append, Nat.zero_add, Nat.add_zero, List.map_nil, List.sum_nil, List.map_cons, List.sum_cons, Nat.zero_le, hs_set1, hro]
    refine ⟨vp_in_nI (n := 0) (N := 1) (by decide) (by decide), ?_⟩
    refine hl_segh B okL_reverse (fun q => nomatch q) 24 1000 rfl ?_
    simp only [pL_reverse, List.drop_zero, List.drop_succ_cons, hl_wp, hs_ii, hs_i1, hs_ll, hs_l1, hs_ff, hs_g1, hs_dd, hs_d1, hs_r1, hs_rv, hs_rv0, hs_n1, hs_n0, hs_v1i, hs_v1r, hs_a1, hs_d2l, hs_d2i, hs_ri, hs_rl, hs_rg, hs_rd8, hs_rr, hs_rn, hs_ov, hs_gf, hs_po, hs_pfi, hs_pfr, hs_ia, hs_la, hs_da, hs_qa, hs_al, hs_is, hs_ls, hs_ds, hs_iso, hs_lso, hs_dso, hs_rd, hs_f1, hs_f10, hs_f2, hs_f20, hs_in0, hs_in1, hs_lt, hs_le, hs_ge, hs_gt, hs_eq, hs_10, hs_00, hs_01, true_and, and_true, true_imp_iff, false_imp_iff, not_true_eq_false, not_false_eq_true, hs_av, hs_ai, hs_ar, hs_an, hs_aj, hs_ci, hs_cr, hs_cn, hs_cj, hs_cd, hs_cf, hs_q0, hs_q1, reduceIte, Nat.reduceEqDiff, Nat.reduceAdd, Nat.reduceLT, eq_self, List.getElem?_cons_zero, List.getElem?_cons_succ, List.set_cons_zero, List.set_cons_succ, List.length_cons, List.length_nil, Option.toList_some, Option.toList_none, List.cons_append, List.nil_append, Nat.zero_add, Nat.add_zero, List.map_nil, List.sum_nil, List.map_cons, List.sum_cons, Nat.zero_le, hs_set1]
    exact hl_ireth B rfl rfl (hl_dec okL_reverse 25 rfl) (by decide) (by decide) ⟨ca2, _, by rw [hn]; rfl, w2.refr hr _, fun _ => by rw [hv]; rfl⟩
  · obtain ⟨ca2, w2, hE1⟩ := hx
    have hm := oe_reverse _ hE1
    rcases List.mem_cons.mp hm with rfl | hm
    · skip
      refine hl_catch B (pre := []) (s0 := 0) (e0 := 10) (hp := 13) (ct := 13) (suf := [(0, 10, 17, 20), (0, 10, 21, 45), (0, 10, 25, 22), (0, 10, 29, 15)]) (by simp [hl_ex]) rfl (by decide) (by decide) (kk := 375) (by decide +kernel) (kc := 387) (by decide +kernel) hl_pa_n (fun q => ?_)
      refine hl_segh B okL_reverse (fun q => nomatch q) 9 1000 rfl ?_
      simp only [pL_reverse, List.drop_zero, List.drop_succ_cons, hl_wp, hs_ii, hs_i1, hs_ll, hs_l1, hs_ff, hs_g1, hs_dd, hs_d1, hs_r1, hs_rv, hs_rv0, hs_n1, hs_n0, hs_v1i, hs_v1r, hs_a1, hs_d2l, hs_d2i, hs_ri, hs_rl, hs_rg, hs_rd8, hs_rr, hs_rn, hs_ov, hs_gf, hs_po, hs_pfi, hs_pfr, hs_ia, hs_la, hs_da, hs_qa, hs_al, hs_is, hs_ls, hs_ds, hs_iso, hs_lso, hs_dso, hs_rd, hs_f1, hs_f10, hs_f2, hs_f20, hs_in0, hs_in1, hs_lt, hs_le, hs_ge, hs_gt, hs_eq, hs_10, hs_00, hs_01, true_and, and_true, true_imp_iff, false_imp_iff, not_true_eq_false, not_false_eq_true, hs_av, hs_ai, hs_ar, hs_an, hs_aj, hs_ci, hs_cr, hs_cn, hs_cj, hs_cd, hs_cf, hs_q0, hs_q1, reduceIte, Nat.reduceEqDiff, Nat.reduceAdd, Nat.reduceLT, eq_self, List.getElem?_cons_zero, List.getElem?_cons_succ, List.set_cons_zero, List.set_cons_succ, List.length_cons, List.length_nil, Option.toList_some, Option.toList_none, List.cons_append, List.nil_append, Nat.zero_add, Nat.add_zero, List.map_nil, List.sum_nil, List.map_cons, List.sum_cons, Nat.zero_le, hs_set1]
      exact hl_ireth B rfl rfl (hl_dec okL_reverse 11 rfl) (by decide) (by decide) ⟨ca2, f, by rw [hE1]; exact congrArg (fun z => some (Value.int z)) (by decide +kernel), by rw [hl_set_same hr]; exact w2, fun z => by rw [hE1] at z; cases z⟩
    rcases List.mem_cons.mp hm with rfl | hm
    · skip
      refine hl_catch B (pre := [(0, 10, 13, 13)]) (s0 := 0) (e0 := 10) (hp := 17) (ct := 20) (suf := [(0, 10, 21, 45), (0, 10, 25, 22), (0, 10, 29, 15)]) (by simp [hl_ex]) rfl (by decide) (by decide) (kk := 486) (by decide +kernel) (kc := 521) (by decide +kernel) (hl_pa_c ⟨by decide, xIAE, by simp [hl_ex], by decide, hl_T_of (k := 375) (by decide +kernel) rfl⟩ hl_pa_n) (fun q => ?_)
      refine hl_segh B okL_reverse (fun q => nomatch q) 12 1000 rfl ?_
      simp only [pL_reverse, List.drop_zero, List.drop_succ_cons, hl_wp, hs_ii, hs_i1, hs_ll, hs_l1, hs_ff, hs_g1, hs_dd, hs_d1, hs_r1, hs_rv, hs_rv0, hs_n1, hs_n0, hs_v1i, hs_v1r, hs_a1, hs_d2l, hs_d2i, hs_ri, hs_rl, hs_rg, hs_rd8, hs_rr, hs_rn, hs_ov, hs_gf, hs_po, hs_pfi, hs_pfr, hs_ia, hs_la, hs_da, hs_qa, hs_al, hs_is, hs_ls, hs_ds, hs_iso, hs_lso, hs_dso, hs_rd, hs_f1, hs_f10, hs_f2, hs_f20, hs_in0, hs_in1, hs_lt, hs_le, hs_ge, hs_gt, hs_eq, hs_10, hs_00, hs_01, true_and, and_true, true_imp_iff, false_imp_iff, not_true_eq_false, not_false_eq_true, hs_av, hs_ai, hs_ar, hs_an, hs_aj, hs_ci, hs_cr, hs_cn, hs_cj, hs_cd, hs_cf, hs_q0, hs_q1, reduceIte, Nat.reduceEqDiff, Nat.reduceAdd, Nat.reduceLT, eq_self, List.getElem?_cons_zero, List.getElem?_cons_succ, List.set_cons_zero, List.set_cons_succ, List.length_cons, List.length_nil, Option.toList_some, Option.toList_none, List.cons_append, List.nil_append, Nat.zero_add, Nat.add_zero, List.map_nil, List.sum_nil, List.map_cons, List.sum_cons, Nat.zero_le, hs_set1]
      exact hl_ireth B rfl rfl (hl_dec okL_reverse 14 rfl) (by decide) (by decide) ⟨ca2, f, by rw [hE1]; exact congrArg (fun z => some (Value.int z)) (by decide +kernel), by rw [hl_set_same hr]; exact w2, fun z => by rw [hE1] at z; cases z⟩
    rcases List.mem_cons.mp hm with rfl | hm
    · skip
      refine hl_catch B (pre := [(0, 10, 13, 13), (0, 10, 17, 20)]) (s0 := 0) (e0 := 10) (hp := 21) (ct := 45) (suf := [(0, 10, 25, 22), (0, 10, 29, 15)]) (by simp [hl_ex]) rfl (by decide) (by decide) (kk := 701) (by decide +kernel) (kc := 718) (by decide +kernel) (hl_pa_c ⟨by decide, xIAE, by simp [hl_ex], by decide, hl_T_of (k := 375) (by decide +kernel) rfl⟩ (hl_pa_c ⟨by decide, xIOB, by simp [hl_ex], by decide, hl_T_of (k := 486) (by decide +kernel) rfl⟩ hl_pa_n)) (fun q => ?_)
      refine hl_segh B okL_reverse (fun q => nomatch q) 15 1000 rfl ?_
      simp only [pL_reverse, List.drop_zero, List.drop_succ_cons, hl_wp, hs_ii, hs_i1, hs_ll, hs_l1, hs_ff, hs_g1, hs_dd, hs_d1, hs_r1, hs_rv, hs_rv0, hs_n1, hs_n0, hs_v1i, hs_v1r, hs_a1, hs_d2l, hs_d2i, hs_ri, hs_rl, hs_rg, hs_rd8, hs_rr, hs_rn, hs_ov, hs_gf, hs_po, hs_pfi, hs_pfr, hs_ia, hs_la, hs_da, hs_qa, hs_al, hs_is, hs_ls, hs_ds, hs_iso, hs_lso, hs_dso, hs_rd, hs_f1, hs_f10, hs_f2, hs_f20, hs_in0, hs_in1, hs_lt, hs_le, hs_ge, hs_gt, hs_eq, hs_10, hs_00, hs_01, true_and, and_true, true_imp_iff, false_imp_iff, not_true_eq_false, not_false_eq_true, hs_av, hs_ai, hs_ar, hs_an, hs_aj, hs_ci, hs_cr, hs_cn, hs_cj, hs_cd, hs_cf, hs_q0, hs_q1, reduceIte, Nat.reduceEqDiff, Nat.reduceAdd, Nat.reduceLT, eq_self, List.getElem?_cons_zero, List.getElem?_cons_succ, List.set_cons_zero, List.set_cons_succ, List.length_cons, List.length_nil, Option.toList_some, Option.toList_none, List.cons_append, List.nil_append, Nat.zero_add, Nat.add_zero, List.map_nil, List.sum_nil, List.map_cons, List.sum_cons, Nat.zero_le, hs_set1]
      exact hl_ireth B rfl rfl (hl_dec okL_reverse 17 rfl) (by decide) (by decide) ⟨ca2, f, by rw [hE1]; exact congrArg (fun z => some (Value.int z)) (by decide +kernel), by rw [hl_set_same hr]; exact w2, fun z => by rw [hE1] at z; cases z⟩
    rcases List.mem_cons.mp hm with rfl | hm
    · skip
      refine hl_catch B (pre := [(0, 10, 13, 13), (0, 10, 17, 20), (0, 10, 21, 45)]) (s0 := 0) (e0 := 10) (hp := 25) (ct := 22) (suf := [(0, 10, 29, 15)]) (by simp [hl_ex]) rfl (by decide) (by decide) (kk := 510) (by decide +kernel) (kc := 534) (by decide +kernel) (hl_pa_c ⟨by decide, xIAE, by simp [hl_ex], by decide, hl_T_of (k := 375) (by decide +kernel) rfl⟩ (hl_pa_c ⟨by decide, xIOB, by simp [hl_ex], by decide, hl_T_of (k := 486) (by decide +kernel) rfl⟩ (hl_pa_c ⟨by decide, xNSE, by simp [hl_ex], by decide, hl_T_of (k := 701) (by decide +kernel) rfl⟩ hl_pa_n))) (fun q => ?_)
      refine hl_segh B okL_reverse (fun q => nomatch q) 18 1000 rfl ?_
      simp only [pL_reverse, List.drop_zero, List.drop_succ_cons, hl_wp, hs_ii, hs_i1, hs_ll, hs_l1, hs_ff, hs_g1, hs_dd, hs_d1, hs_r1, hs_rv, hs_rv0, hs_n1, hs_n0, hs_v1i, hs_v1r, hs_a1, hs_d2l, hs_d2i, hs_ri, hs_rl, hs_rg, hs_rd8, hs_rr, hs_rn, hs_ov, hs_gf, hs_po, hs_pfi, hs_pfr, hs_ia, hs_la, hs_da, hs_qa, hs_al, hs_is, hs_ls, hs_ds, hs_iso, hs_lso, hs_dso, hs_rd, hs_f1, hs_f10, hs_f2, hs_f20, hs_in0, hs_in1, hs_lt, hs_le, hs_ge, hs_gt, hs_eq, hs_10, hs_00, hs_01, true_and, and_true, true_imp_iff, false_imp_iff, not_true_eq_false, not_false_eq_true, hs_av, hs_ai, hs_ar, hs_an, hs_aj, hs_ci, hs_cr, hs_cn, hs_cj, hs_cd, hs_cf, hs_q0, hs_q1, reduceIte, Nat.reduceEqDiff, Nat.reduceAdd, Nat.reduceLT, eq_self, List.getElem?_cons_zero, List.getElem?_cons_succ, List.set_cons_zero, List.set_cons_succ, List.length_cons, List.length_nil, Option.toList_some, Option.toList_none, List.cons_append, List.nil_append, Nat.zero_add, Nat.add_zero, List.map_nil, List.sum_nil, List.map_cons, List.sum_cons, Nat.zero_le, hs_set1]
      exact hl_ireth B rfl rfl (hl_dec okL_reverse 20 rfl) (by decide) (by decide) ⟨ca2, f, by rw [hE1]; exact congrArg (fun z => some (Value.int z)) (by decide +kernel), by rw [hl_set_same hr]; exact w2, fun z => by rw [hE1] at z; cases z⟩
    cases List.mem_singleton.mp hm
    refine hl_catch B (pre := [(0, 10, 13, 13), (0, 10, 17, 20), (0, 10, 21, 45), (0, 10, 25, 22)]) (s0 := 0) (e0 := 10) (hp := 29) (ct := 15) (suf := []) (by simp [hl_ex]) rfl (by decide) (by decide) (kk := 376) (by decide +kernel) (kc := 465) (by decide +kernel) (hl_pa_c ⟨by decide, xIAE, by simp [hl_ex], by decide, hl_T_of (k := 375) (by decide +kernel) rfl⟩ (hl_pa_c ⟨by decide, xIOB, by simp [hl_ex], by decide, hl_T_of (k := 486) (by decide +kernel) rfl⟩ (hl_pa_c ⟨by decide, xNSE, by simp [hl_ex], by decide, hl_T_of (k := 701) (by decide +kernel) rfl⟩ (hl_pa_c ⟨by decide, xUOE, by simp [hl_ex], by decide, hl_T_of (k := 510) (by decide +kernel) rfl⟩ hl_pa_n)))) (fun q => ?_)
    refine hl_segh B okL_reverse (fun q => nomatch q) 21 1000 rfl ?_
    simp only [pL_reverse, List.drop_zero, List.drop_succ_cons, hl_wp, hs_ii, hs_i1, hs_ll, hs_l1, hs_ff, hs_g1, hs_dd, hs_d1, hs_r1, hs_rv, hs_rv0, hs_n1, hs_n0, hs_v1i, hs_v1r, hs_a1, hs_d2l, hs_d2i, hs_ri, hs_rl, hs_rg, hs_rd8, hs_rr, hs_rn, hs_ov, hs_gf, hs_po, hs_pfi, hs_pfr, hs_ia, hs_la, hs_da, hs_qa, hs_al, hs_is, hs_ls, hs_ds, hs_iso, hs_lso, hs_dso, hs_rd, hs_f1, hs_f10, hs_f2, hs_f20, hs_in0, hs_in1, hs_lt, hs_le, hs_ge, hs_gt, hs_eq, hs_10, hs_00, hs_01, true_and, and_true, true_imp_iff, false_imp_iff, not_true_eq_false, not_false_eq_true, hs_av, hs_ai, hs_ar, hs_an, hs_aj, hs_ci, hs_cr, hs_cn, hs_cj, hs_cd, hs_cf, hs_q0, hs_q1, reduceIte, Nat.reduceEqDiff, Nat.reduceAdd, Nat.reduceLT, eq_self, List.getElem?_cons_zero, List.getElem?_cons_succ, List.set_cons_zero, List.set_cons_succ, List.length_cons, List.length_nil, Option.toList_some, Option.toList_none, List.cons_append, List.nil_append, Nat.zero_add, Nat.add_zero, List.map_nil, List.sum_nil, List.map_cons, List.sum_cons, Nat.zero_le, hs_set1]
    exact hl_ireth B rfl rfl (hl_dec okL_reverse 23 rfl) (by decide) (by decide) ⟨ca2, f, by rw [hE1]; exact congrArg (fun z => some (Value.int z)) (by decide +kernel), by rw [hl_set_same hr]; exact w2, fun z => by rw [hE1] at z; cases z⟩
theorem oe_addPayment {σ : LSt} {x y v : Int32} : ∀ E : String, (op_addPayment σ x y v).1 = some E → E ∈ [xIAE, xIOB, xISE] := by
  intro E h
  unfold op_addPayment at h
  rw [ls_res_1] at h
  rcases ls_or_e h with h | h
  · cases er_amt_e h; simp
  rcases ls_or_e h with h | h
  · rcases er_two_e h with rfl | rfl <;> simp
  (repeat' split at h) <;> first | (cases h; done) | (cases h; simp; done) | (cases er_spe_e h; simp)
theorem ov_addPayment {σ : LSt} {x y v : Int32} : ∃ v9, (op_addPayment σ x y v).2.2 = .int v9 := by
  unfold op_addPayment
  exact ⟨_, ls_res_v⟩
abbrev mL_addPayment : hl_M := (yL_addPayment, cL_addPayment, 6, (some .int))
theorem mtL_addPayment : hl_mh mL_addPayment [(0, 12, 15, 13), (0, 12, 19, 20), (0, 12, 23, 15)] 5 := ⟨hl_T_of (k := 762) (by decide +kernel) rfl, hl_T_of (k := 48) (by decide +kernel) rfl, ⟨by decide +kernel, by decide +kernel⟩, by decide +kernel, hl_T_of (k := 761) (by decide +kernel) rfl⟩
set_option maxRecDepth 20000 in
set_option maxHeartbeats 2000000 in
theorem cw_addPayment {G : hl_G} {l : Launch} {a ca : Nat → Nat} {σ : LSt} {x y v : Int32} {h0 : hl_H} {ro : Nat} {f : Nat → Int64} (hst : l.stackTraces = false) (hI : LInv0 σ) (hr : h0 ro = some (.inl (1, .inr (.inl f)))) :
    hl_Ch G l mL_addPayment [(0, 12, 15, 13), (0, 12, 19, 20), (0, 12, 23, 15)] 7 12 90 [.ref (a 0), .int x, .int y, .int v, .ref ro] (LSw a ca σ h0) (lw_Q a h0 ro [xIAE, xIOB, xISE] (op_addPayment σ x y v)) (fun _ _ => False) := by
  refine hl_bodyh (by decide +kernel) (Nat.le_of_ble_eq_true rfl) ?_
  intro p e s m args below meth c B g hg
  refine hl_segh B okL_addPayment (fun q => nomatch q) 0 1000 rfl ?_
  simp only [pL_addPayment, List.drop_zero, List.drop_succ_cons, hl_wp, hs_ii, hs_i1, hs_ll, hs_l1, hs_ff, hs_g1, hs_dd, hs_d1, hs_r1, hs_rv, hs_rv0, hs_n1, hs_n0, hs_v1i, hs_v1r, hs_a1, hs_d2l, hs_d2i, hs_ri, hs_rl, hs_rg, hs_rd8, hs_rr, hs_rn, hs_ov, hs_gf, hs_po, hs_pfi, hs_pfr, hs_ia, hs_la, hs_da, hs_qa, hs_al, hs_is, hs_ls, hs_ds, hs_iso, hs_lso, hs_dso, hs_rd, hs_f1, hs_f10, hs_f2, hs_f20, hs_in0, hs_in1, hs_lt, hs_le, hs_ge, hs_gt, hs_eq, hs_10, hs_00, hs_01, true_and, and_true, true_imp_iff, false_imp_iff, not_true_eq_false, not_false_eq_true, hs_av, hs_ai, hs_ar, hs_an, hs_aj, hs_ci, hs_cr, hs_cn, hs_cj, hs_cd, hs_cf, hs_q0, hs_q1, reduceIte, Nat.reduceEqDiff, Nat.reduceAdd, Nat.reduceLT, eq_self, List.getElem?_cons_zero, List.getElem?_cons_succ, List.set_cons_zero, List.set_cons_succ, List.length_cons, List.length_nil, Option.toList_some, Option.toList_none, List.cons_append, List.nil_append, Nat.zero_add, Nat.add_zero, List.map_nil, List.sum_nil, List.map_cons, List.sum_cons, Nat.zero_le, hs_set1]
  refine hl_callVh B (As := [.int _, .int _, .int _]) (cm_addPayment hst hI) mtX7_addPayment (hl_dec okL_addPayment 6 rfl) (kk := 763) (by decide +kernel) rfl rfl (hg.1.f0) rfl (Nat.le_of_ble_eq_true rfl) (by decide) (by decide) (by decide) (by decide) hg (fun r9 h9 hq => ?_) (fun E h9 hx => ?_)
  · obtain ⟨ca2, rfl, w2, hn⟩ := hq
    have hro : h9 ro = some (.inl (1, .inr (.inl f))) := w2.2.2.2.2.2.2 ro _ hr
    obtain ⟨v9, hv⟩ := ov_addPayment (σ := σ) (x := x) (y := y) (v := v)
    rw [hv]
    refine hl_segh B okL_addPayment (fun q => nomatch q) 7 1000 rfl ?_
    simp only [pL_addPayment, List.drop_zero, List.drop_succ_cons, hl_wp, hs_ii, hs_i1, hs_ll, hs_l1, hs_ff, hs_g1, hs_dd, hs_d1, hs_r1, hs_rv, hs_rv0, hs_n1, hs_n0, hs_v1i, hs_v1r, hs_a1, hs_d2l, hs_d2i, hs_ri, hs_rl, hs_rg, hs_rd8, hs_rr, hs_rn, hs_ov, hs_gf, hs_po, hs_pfi, hs_pfr, hs_ia, hs_la, hs_da, hs_qa, hs_al, hs_is, hs_ls, hs_ds, hs_iso, hs_lso, hs_dso, hs_rd, hs_f1, hs_f10, hs_f2, hs_f20, hs_in0, hs_in1, hs_lt, hs_le, hs_ge, hs_gt, hs_eq, hs_10, hs_00, hs_01, true_and, and_true, true_imp_iff, false_imp_iff, not_true_eq_false, not_false_eq_true, hs_av, hs_ai, hs_ar, hs_an, hs_aj, hs_ci, hs_cr, hs_cn, hs_cj, hs_cd, hs_cf, hs_q0, hs_q1, reduceIte, Nat.reduceEqDiff, Nat.reduceAdd, Nat.reduceLT, eq_self, List.getElem?_cons_zero, List.getElem?_cons_succ, List.set_cons_zero, List.set_cons_succ, List.length_cons, List.length_nil, Option.toList_some, Option.toList_none, List.cons_append, List.nil_append, Nat.zero_add, Nat.add_zero, List.map_nil, List.sum_nil, List.map_cons, List.sum_cons, Nat.zero_le, hs_set1, hro]
    refine ⟨vp_in_nI (n := 0) (N := 1) (by decide) (by decide), ?_⟩
    refine hl_segh B okL_addPayment (fun q => nomatch q) 19 1000 rfl ?_
    simp only [pL_addPayment, List.drop_zero, List.drop_succ_cons, hl_wp, hs_ii, hs_i1, hs_ll, hs_l1, hs_ff, hs_g1, hs_dd, hs_d1, hs_r1, hs_rv, hs_rv0, hs_n1, hs_n0, hs_v1i, hs_v1r, hs_a1, hs_d2l, hs_d2i, hs_ri, hs_rl, hs_rg, hs_rd8, hs_rr, hs_rn, hs_ov, hs_gf, hs_po, hs_pfi, hs_pfr, hs_ia, hs_la, hs_da, hs_qa, hs_al, hs_is, hs_ls, hs_ds, hs_iso, hs_lso, hs_dso, hs_rd, hs_f1, hs_f10, hs_f2, hs_f20, hs_in0, hs_in1, hs_lt, hs_le, hs_ge, hs_gt, hs_eq, hs_10, hs_00, hs_01, true_and, and_true, true_imp_iff, false_imp_iff, not_true_eq_false, not_false_eq_true, hs_av, hs_ai, hs_ar, hs_an, hs_aj, hs_ci, hs_cr, hs_cn, hs_cj, hs_cd, hs_cf, hs_q0, hs_q1, reduceIte, Nat.reduceEqDiff, Nat.reduceAdd, Nat.reduceLT, eq_self, List.getElem?_cons_zero, List.getElem?_cons_succ, List.set_cons_zero, List.set_cons_succ, List.length_cons, List.length_nil, Option.toList_some, Option.toList_none, List.cons_append, List.nil_append, Nat.zero_add, Nat.add_zero, List.map_nil, List.sum_nil, List.map_cons, List.sum_cons, Nat.zero_le, hs_set1]
    exact hl_ireth B rfl rfl (hl_dec okL_addPayment 20 rfl) (by decide) (by decide) ⟨ca2, _, by rw [hn]; rfl, w2.refr hr _, fun _ => by rw [hv]; rfl⟩
  · obtain ⟨ca2, w2, hE1⟩ := hx
    have hm := oe_addPayment _ hE1
    rcases List.mem_cons.mp hm with rfl | hm
    · skip
      refine hl_catch B (pre := []) (s0 := 0) (e0 := 12) (hp := 15) (ct := 13) (suf := [(0, 12, 19, 20), (0, 12, 23, 15)]) (by simp [hl_ex]) rfl (by decide) (by decide) (kk := 375) (by decide +kernel) (kc := 387) (by decide +kernel) hl_pa_n (fun q => ?_)
      refine hl_segh B okL_addPayment (fun q => nomatch q) 10 1000 rfl ?_
      simp only [pL_addPayment, List.drop_zero, List.drop_succ_cons, hl_wp, hs_ii, hs_i1, hs_ll, hs_l1, hs_ff, hs_g1, hs_dd, hs_d1, hs_r1, hs_rv, hs_rv0, hs_n1, hs_n0, hs_v1i, hs_v1r, hs_a1, hs_d2l, hs_d2i, hs_ri, hs_rl, hs_rg, hs_rd8, hs_rr, hs_rn, hs_ov, hs_gf, hs_po, hs_pfi, hs_pfr, hs_ia, hs_la, hs_da, hs_qa, hs_al, hs_is, hs_ls, hs_ds, hs_iso, hs_lso, hs_dso, hs_rd, hs_f1, hs_f10, hs_f2, hs_f20, hs_in0, hs_in1, hs_lt, hs_le, hs_ge, hs_gt, hs_eq, hs_10, hs_00, hs_01, true_and, and_true, true_imp_iff, false_imp_iff, not_true_eq_false, not_false_eq_true, hs_av, hs_ai, hs_ar, hs_an, hs_aj, hs_ci, hs_cr, hs_cn, hs_cj, hs_cd, hs_cf, hs_q0, hs_q1, reduceIte, Nat.reduceEqDiff, Nat.reduceAdd, Nat.reduceLT, eq_self, List.getElem?_cons_zero, List.getElem?_cons_succ, List.set_cons_zero, List.set_cons_succ, List.length_cons, List.length_nil, Option.toList_some, Option.toList_none, List.cons_append, List.nil_append, Nat.zero_add, Nat.add_zero, List.map_nil, List.sum_nil, List.map_cons, List.sum_cons, Nat.zero_le, hs_set1]
      exact hl_ireth B rfl rfl (hl_dec okL_addPayment 12 rfl) (by decide) (by decide) ⟨ca2, f, by rw [hE1]; exact congrArg (fun z => some (Value.int z)) (by decide +kernel), by rw [hl_set_same hr]; exact w2, fun z => by rw [hE1] at z; cases z⟩
    rcases List.mem_cons.mp hm with rfl | hm
    · skip
      refine hl_catch B (pre := [(0, 12, 15, 13)]) (s0 := 0) (e0 := 12) (hp := 19) (ct := 20) (suf := [(0, 12, 23, 15)]) (by simp [hl_ex]) rfl (by decide) (by decide) (kk := 486) (by decide +kernel) (kc := 521) (by decide +kernel) (hl_pa_c ⟨by decide, xIAE, by simp [hl_ex], by decide, hl_T_of (k := 375) (by decide +kernel) rfl⟩ hl_pa_n) (fun q => ?_)
      refine hl_segh B okL_addPayment (fun q => nomatch q) 13 1000 rfl ?_
      simp only [pL_addPayment, List.drop_zero, List.drop_succ_cons, hl_wp, hs_ii, hs_i1, hs_ll, hs_l1, hs_ff, hs_g1, hs_dd, hs_d1, hs_r1, hs_rv, hs_rv0, hs_n1, hs_n0, hs_v1i, hs_v1r, hs_a1, hs_d2l, hs_d2i, hs_ri, hs_rl, hs_rg, hs_rd8, hs_rr, hs_rn, hs_ov, hs_gf, hs_po, hs_pfi, hs_pfr, hs_ia, hs_la, hs_da, hs_qa, hs_al, hs_is, hs_ls, hs_ds, hs_iso, hs_lso, hs_dso, hs_rd, hs_f1, hs_f10, hs_f2, hs_f20, hs_in0, hs_in1, hs_lt, hs_le, hs_ge, hs_gt, hs_eq, hs_10, hs_00, hs_01, true_and, and_true, true_imp_iff, false_imp_iff, not_true_eq_false, not_false_eq_true, hs_av, hs_ai, hs_ar, hs_an, hs_aj, hs_ci, hs_cr, hs_cn, hs_cj, hs_cd, hs_cf, hs_q0, hs_q1, reduceIte, Nat.reduceEqDiff, Nat.reduceAdd, Nat.reduceLT, eq_self, List.getElem?_cons_zero, List.getElem?_cons_succ, List.set_cons_zero, List.set_cons_succ, List.length_cons, List.length_nil, Option.toList_some, Option.toList_none, List.cons_append, List.nil_append, Nat.zero_add, Nat.add_zero, List.map_nil, List.sum_nil, List.map_cons, List.sum_cons, Nat.zero_le, hs_set1]
      exact hl_ireth B rfl rfl (hl_dec okL_addPayment 15 rfl) (by decide) (by decide) ⟨ca2, f, by rw [hE1]; exact congrArg (fun z => some (Value.int z)) (by decide +kernel), by rw [hl_set_same hr]; exact w2, fun z => by rw [hE1] at z; cases z⟩
    cases List.mem_singleton.mp hm
    refine hl_catch B (pre := [(0, 12, 15, 13), (0, 12, 19, 20)]) (s0 := 0) (e0 := 12) (hp := 23) (ct := 15) (suf := []) (by simp [hl_ex]) rfl (by decide) (by decide) (kk := 376) (by decide +kernel) (kc := 465) (by decide +kernel) (hl_pa_c ⟨by decide, xIAE, by simp [hl_ex], by decide, hl_T_of (k := 375) (by decide +kernel) rfl⟩ (hl_pa_c ⟨by decide, xIOB, by simp [hl_ex], by decide, hl_T_of (k := 486) (by decide +kernel) rfl⟩ hl_pa_n)) (fun q => ?_)
    refine hl_segh B okL_addPayment (fun q => nomatch q) 16 1000 rfl ?_
    simp only [pL_addPayment, List.drop_zero, List.drop_succ_cons, hl_wp, hs_ii, hs_i1, hs_ll, hs_l1, hs_ff, hs_g1, hs_dd, hs_d1, hs_r1, hs_rv, hs_rv0, hs_n1, hs_n0, hs_v1i, hs_v1r, hs_a1, hs_d2l, hs_d2i, hs_ri, hs_rl, hs_rg, hs_rd8, hs_rr, hs_rn, hs_ov, hs_gf, hs_po, hs_pfi, hs_pfr, hs_ia, hs_la, hs_da, hs_qa, hs_al, hs_is, hs_ls, hs_ds, hs_iso, hs_lso, hs_dso, hs_rd, hs_f1, hs_f10, hs_f2, hs_f20, hs_in0, hs_in1, hs_lt, hs_le, hs_ge, hs_gt, hs_eq, hs_10, hs_00, hs_01, true_and, and_true, true_imp_iff, false_imp_iff, not_true_eq_false, not_false_eq_true, hs_av, hs_ai, hs_ar, hs_an, hs_aj, hs_ci, hs_cr, hs_cn, hs_cj, hs_cd, hs_cf, hs_q0, hs_q1, reduceIte, Nat.reduceEqDiff, Nat.reduceAdd, Nat.reduceLT, eq_self, List.getElem?_cons_zero, List.getElem?_cons_succ, List.set_cons_zero, List.set_cons_succ, List.length_cons, List.length_nil, Option.toList_some, Option.toList_none, List.cons_append, List.nil_append, Nat.zero_add, Nat.add_zero, List.map_nil, List.sum_nil, List.map_cons, List.sum_cons, Nat.zero_le, hs_set1]
    exact hl_ireth B rfl rfl (hl_dec okL_addPayment 18 rfl) (by decide) (by decide) ⟨ca2, f, by rw [hE1]; exact congrArg (fun z => some (Value.int z)) (by decide +kernel), by rw [hl_set_same hr]; exact w2, fun z => by rw [hE1] at z; cases z⟩
theorem oe_removePayment {σ : LSt} {x : Int32} : ∀ E : String, (op_removePayment σ x).1 = some E → E ∈ [xIOB] := by
  intro E h
  unfold op_removePayment at h
  rw [ls_res_1] at h
  (repeat' split at h) <;> first | (cases h; done) | (cases h; simp; done) | (cases er_spe_e h; simp)
theorem ov_removePayment {σ : LSt} {x : Int32} : ∃ v9, (op_removePayment σ x).2.2 = .int v9 := by
  unfold op_removePayment
  exact ⟨_, ls_res_v⟩
abbrev mL_removePayment : hl_M := (yL_removePayment, cL_removePayment, 4, (some .int))
theorem mtL_removePayment : hl_mh mL_removePayment [(0, 9, 12, 20)] 3 := ⟨hl_T_of (k := 775) (by decide +kernel) rfl, hl_T_of (k := 48) (by decide +kernel) rfl, ⟨by decide +kernel, by decide +kernel⟩, by decide +kernel, hl_T_of (k := 774) (by decide +kernel) rfl⟩
set_option maxRecDepth 20000 in
set_option maxHeartbeats 2000000 in
theorem cw_removePayment {G : hl_G} {l : Launch} {a ca : Nat → Nat} {σ : LSt} {x : Int32} {h0 : hl_H} {ro : Nat} {f : Nat → Int64} (hst : l.stackTraces = false) (hI : LInv0 σ) (hr : h0 ro = some (.inl (1, .inr (.inl f)))) :
    hl_Ch G l mL_removePayment [(0, 9, 12, 20)] 7 12 90 [.ref (a 0), .int x, .ref ro] (LSw a ca σ h0) (lw_Q a h0 ro [xIOB] (op_removePayment σ x)) (fun _ _ => False) := by
  refine hl_bodyh (by decide +kernel) (Nat.le_of_ble_eq_true rfl) ?_
  intro p e s m args below meth c B g hg
  refine hl_segh B okL_removePayment (fun q => nomatch q) 0 1000 rfl ?_
  simp only [pL_removePayment, List.drop_zero, List.drop_succ_cons, hl_wp, hs_ii, hs_i1, hs_ll, hs_l1, hs_ff, hs_g1, hs_dd, hs_d1, hs_r1, hs_rv, hs_rv0, hs_n1, hs_n0, hs_v1i, hs_v1r, hs_a1, hs_d2l, hs_d2i, hs_ri, hs_rl, hs_rg, hs_rd8, hs_rr, hs_rn, hs_ov, hs_gf, hs_po, hs_pfi, hs_pfr, hs_ia, hs_la, hs_da, hs_qa, hs_al, hs_is, hs_ls, hs_ds, hs_iso, hs_lso, hs_dso, hs_rd, hs_f1, hs_f10, hs_f2, hs_f20, hs_in0, hs_in1, hs_lt, hs_le, hs_ge, hs_gt, hs_eq, hs_10, hs_00, hs_01, true_and, and_true, true_imp_iff, false_imp_iff, not_true_eq_false, not_false_eq_true, hs_av, hs_ai, hs_ar, hs_an, hs_aj, hs_ci, hs_cr, hs_cn, hs_cj, hs_cd, hs_cf, hs_q0, hs_q1, reduceIte, Nat.reduceEqDiff, Nat.reduceAdd, Nat.reduceLT, eq_self, List.getElem?_cons_zero, List.getElem?_cons_succ, List.set_cons_zero, List.set_cons_succ, List.length_cons, List.length_nil, Option.toList_some, Option.toList_none, List.cons_append, List.nil_append, Nat.zero_add, Nat.add_zero, List.map_nil, List.sum_nil, List.map_cons, List.sum_cons, Nat.zero_le, hs_set1]
  refine hl_callVh B (As := [.int _]) (cm_removePayment hst hI) mtX7_removePayment (hl_dec okL_removePayment 4 rfl) (kk := 776) (by decide +kernel) rfl rfl (hg.1.f0) rfl (Nat.le_of_ble_eq_true rfl) (by decide) (by decide) (by decide) (by decide) hg (fun r9 h9 hq => ?_) (fun E h9 hx => ?_)
  · obtain ⟨ca2, rfl, w2, hn⟩ := hq
    have hro : h9 ro = some (.inl (1, .inr (.inl f))) := w2.2.2.2.2.2.2 ro _ hr
    obtain ⟨v9, hv⟩ := ov_removePayment (σ := σ) (x := x)
    rw [hv]
    refine hl_segh B okL_removePayment (fun q => nomatch q) 5 1000 rfl ?_
    simp only [pL_removePayment, List.drop_zero, List.drop_succ_cons, hl_wp, hs_ii, hs_i1, hs_ll, hs_l1, hs_ff, hs_g1, hs_dd, hs_d1, hs_r1, hs_rv, hs_rv0, hs_n1, hs_n0, hs_v1i, hs_v1r, hs_a1, hs_d2l, hs_d2i, hs_ri, hs_rl, hs_rg, hs_rd8, hs_rr, hs_rn, hs_ov, hs_gf, hs_po, hs_pfi, hs_pfr, hs_ia, hs_la, hs_da, hs_qa, hs_al, hs_is, hs_ls, hs_ds, hs_iso, hs_lso, hs_dso, hs_rd, hs_f1, hs_f10, hs_f2, hs_f20, hs_in0, hs_in1, hs_lt, hs_le, hs_ge, hs_gt, hs_eq, hs_10, hs_00, hs_01, true_and, and_true, true_imp_iff, false_imp_iff, not_true_eq_false, not_false_eq_true, hs_av, hs_ai, hs_ar, hs_an, hs_aj, hs_ci, hs_cr, hs_cn, hs_cj, hs_cd, hs_cf, hs_q0, hs_q1, reduceIte, Nat.reduceEqDiff, Nat.reduceAdd, Nat.reduceLT, eq_self, List.getElem?_cons_zero, List.getElem?_cons_succ, List.set_cons_zero, List.set_cons_succ, List.length_cons, List.length_nil, Option.toList_some, Option.toList_none, List.cons_append, List.nil_append, Nat.zero_add, Nat.add_zero, List.map_nil, List.sum_nil, List.map_cons, List.sum_cons, Nat.zero_le, hs_set1, hro]
    refine ⟨vp_in_nI (n := 0) (N := 1) (by decide) (by decide), ?_⟩
    refine hl_segh B okL_removePayment (fun q => nomatch q) 11 1000 rfl ?_
    simp only [pL_removePayment, List.drop_zero, List.drop_succ_cons, hl_wp, hs_ii, hs_i1, hs_ll, hs_l1, hs_ff, hs_g1, hs_dd, hs_d1, hs_r1, hs_rv, hs_rv0, hs_n1, hs_n0, hs_v1i, hs_v1r, hs_a1, hs_d2l, hs_d2i, hs_ri, hs_rl, hs_rg, hs_rd8, hs_rr, hs_rn, hs_ov, hs_gf, hs_po, hs_pfi, hs_pfr, hs_ia, hs_la, hs_da, hs_qa, hs_al, hs_is, hs_ls, hs_ds, hs_iso, hs_lso, hs_dso, hs_rd, hs_f1, hs_f10, hs_f2, hs_f20, hs_in0, hs_in1, hs_lt, hs_le, hs_ge, hs_gt, hs_eq, hs_10, hs_00, hs_01, true_and, and_true, true_imp_iff, false_imp_iff, not_true_eq_false, not_false_eq_true, hs_av, hs_ai, hs_ar, hs_an, hs_aj, hs_ci, hs_cr, hs_cn, hs_cj, hs_cd, hs_cf, hs_q0, hs_q1, reduceIte, Nat.reduceEqDiff, Nat.reduceAdd, Nat.reduceLT, eq_self, List.getElem?_cons_zero, List.getElem?_cons_succ, List.set_cons_zero, List.set_cons_succ, List.length_cons, List.length_nil, Option.toList_some, Option.toList_none, List.cons_append, List.nil_append, Nat.zero_add, Nat.add_zero, List.map_nil, List.sum_nil, List.map_cons, List.sum_cons, Nat.zero_le, hs_set1]
    exact hl_ireth B rfl rfl (hl_dec okL_removePayment 12 rfl) (by decide) (by decide) ⟨ca2, _, by rw [hn]; rfl, w2.refr hr _, fun _ => by rw [hv]; rfl⟩
  · obtain ⟨ca2, w2, hE1⟩ := hx
    have hm := oe_removePayment _ hE1
    cases List.mem_singleton.mp hm
    refine hl_catch B (pre := []) (s0 := 0) (e0 := 9) (hp := 12) (ct := 20) (suf := []) (by simp [hl_ex]) rfl (by decide) (by decide) (kk := 486) (by decide +kernel) (kc := 521) (by decide +kernel) hl_pa_n (fun q => ?_)
    refine hl_segh B okL_removePayment (fun q => nomatch q) 8 1000 rfl ?_
    simp only [pL_removePayment, List.drop_zero, List.drop_succ_cons, hl_wp, hs_ii, hs_i1, hs_ll, hs_l1, hs_ff, hs_g1, hs_dd, hs_d1, hs_r1, hs_rv, hs_rv0, hs_n1, hs_n0, hs_v1i, hs_v1r, hs_a1, hs_d2l, hs_d2i, hs_ri, hs_rl, hs_rg, hs_rd8, hs_rr, hs_rn, hs_ov, hs_gf, hs_po, hs_pfi, hs_pfr, hs_ia, hs_la, hs_da, hs_qa, hs_al, hs_is, hs_ls, hs_ds, hs_iso, hs_lso, hs_dso, hs_rd, hs_f1, hs_f10, hs_f2, hs_f20, hs_in0, hs_in1, hs_lt, hs_le, hs_ge, hs_gt, hs_eq, hs_10, hs_00, hs_01, true_and, and_true, true_imp_iff, false_imp_iff, not_true_eq_false, not_false_eq_true, hs_av, hs_ai, hs_ar, hs_an, hs_aj, hs_ci, hs_cr, hs_cn, hs_cj, hs_cd, hs_cf, hs_q0, hs_q1, reduceIte, Nat.reduceEqDiff, Nat.reduceAdd, Nat.reduceLT, eq_self, List.getElem?_cons_zero, List.getElem?_cons_succ, List.set_cons_zero, List.set_cons_succ, List.length_cons, List.length_nil, Option.toList_some, Option.toList_none, List.cons_append, List.nil_append, Nat.zero_add, Nat.add_zero, List.map_nil, List.sum_nil, List.map_cons, List.sum_cons, Nat.zero_le, hs_set1]
    exact hl_ireth B rfl rfl (hl_dec okL_removePayment 10 rfl) (by decide) (by decide) ⟨ca2, f, by rw [hE1]; exact congrArg (fun z => some (Value.int z)) (by decide +kernel), by rw [hl_set_same hr]; exact w2, fun z => by rw [hE1] at z; cases z⟩
theorem oe_settle {σ : LSt} {k1 : Int32} : ∀ E : String, (op_settle σ k1).1 = some E → E ∈ [xIAE, xUOE] := by
  intro E h
  unfold op_settle at h
  unfold ls_kd at h
  split at h
  · cases h
  rw [ls_res_1] at h
  rcases ls_or_e h with h | h
  · cases er_key_e h; simp
  (repeat' split at h) <;> first | (cases h; done) | (cases h; simp; done) | (cases er_spe_e h; simp)
theorem ov_settle {σ : LSt} {k1 : Int32} : ∃ v9, (op_settle σ k1).2.2 = .int v9 := by
  unfold op_settle
  exact ls_kd_v
abbrev mL_settle : hl_M := (yL_settle, cL_settle, 4, (some .int))
theorem mtL_settle : hl_mh mL_settle [(0, 9, 12, 13), (0, 9, 15, 22)] 3 := ⟨hl_T_of (k := 788) (by decide +kernel) rfl, hl_T_of (k := 48) (by decide +kernel) rfl, ⟨by decide +kernel, by decide +kernel⟩, by decide +kernel, hl_T_of (k := 787) (by decide +kernel) rfl⟩
set_option maxRecDepth 20000 in
set_option maxHeartbeats 2000000 in
theorem cw_settle {G : hl_G} {l : Launch} {a ca : Nat → Nat} {σ : LSt} {k1 : Int32} {h0 : hl_H} {ro : Nat} {f : Nat → Int64} (hst : l.stackTraces = false) (hI : LInv0 σ) (hr : h0 ro = some (.inl (1, .inr (.inl f)))) :
    hl_Ch G l mL_settle [(0, 9, 12, 13), (0, 9, 15, 22)] 7 12 90 [.ref (a 0), .int k1, .ref ro] (LSw a ca σ h0) (lw_Q a h0 ro [xIAE, xUOE] (op_settle σ k1)) (fun _ _ => False) := by
  refine hl_bodyh (by decide +kernel) (Nat.le_of_ble_eq_true rfl) ?_
  intro p e s m args below meth c B g hg
  refine hl_segh B okL_settle (fun q => nomatch q) 0 1000 rfl ?_
  simp only [pL_settle, List.drop_zero, List.drop_succ_cons, hl_wp, hs_ii, hs_i1, hs_ll, hs_l1, hs_ff, hs_g1, hs_dd, hs_d1, hs_r1, hs_rv, hs_rv0, hs_n1, hs_n0, hs_v1i, hs_v1r, hs_a1, hs_d2l, hs_d2i, hs_ri, hs_rl, hs_rg, hs_rd8, hs_rr, hs_rn, hs_ov, hs_gf, hs_po, hs_pfi, hs_pfr, hs_ia, hs_la, hs_da, hs_qa, hs_al, hs_is, hs_ls, hs_ds, hs_iso, hs_lso, hs_dso, hs_rd, hs_f1, hs_f10, hs_f2, hs_f20, hs_in0, hs_in1, hs_lt, hs_le, hs_ge, hs_gt, hs_eq, hs_10, hs_00, hs_01, true_and, and_true, true_imp_iff, false_imp_iff, not_true_eq_false, not_false_eq_true, hs_av, hs_ai, hs_ar, hs_an, hs_aj, hs_ci, hs_cr, hs_cn, hs_cj, hs_cd, hs_cf, hs_q0, hs_q1, reduceIte, Nat.reduceEqDiff, Nat.reduceAdd, Nat.reduceLT, eq_self, List.getElem?_cons_zero, List.getElem?_cons_succ, List.set_cons_zero, List.set_cons_succ, List.length_cons, List.length_nil, Option.toList_some, Option.toList_none, List.cons_append, List.nil_append, Nat.zero_add, Nat.add_zero, List.map_nil, List.sum_nil, List.map_cons, List.sum_cons, Nat.zero_le, hs_set1]
  refine hl_callVh B (As := [.int _]) (cm_settle hst hI) mtX7_settle (hl_dec okL_settle 4 rfl) (kk := 789) (by decide +kernel) rfl rfl (hg.1.f0) rfl (Nat.le_of_ble_eq_true rfl) (by decide) (by decide) (by decide) (by decide) hg (fun r9 h9 hq => ?_) (fun E h9 hx => ?_)
  · obtain ⟨ca2, rfl, w2, hn⟩ := hq
    have hro : h9 ro = some (.inl (1, .inr (.inl f))) := w2.2.2.2.2.2.2 ro _ hr
    obtain ⟨v9, hv⟩ := ov_settle (σ := σ) (k1 := k1)
    rw [hv]
    refine hl_segh B okL_settle (fun q => nomatch q) 5 1000 rfl ?_
    simp only [pL_settle, List.drop_zero, List.drop_succ_cons, hl_wp, hs_ii, hs_i1, hs_ll, hs_l1, hs_ff, hs_g1, hs_dd, hs_d1, hs_r1, hs_rv, hs_rv0, hs_n1, hs_n0, hs_v1i, hs_v1r, hs_a1, hs_d2l, hs_d2i, hs_ri, hs_rl, hs_rg, hs_rd8, hs_rr, hs_rn, hs_ov, hs_gf, hs_po, hs_pfi, hs_pfr, hs_ia, hs_la, hs_da, hs_qa, hs_al, hs_is, hs_ls, hs_ds, hs_iso, hs_lso, hs_dso, hs_rd, hs_f1, hs_f10, hs_f2, hs_f20, hs_in0, hs_in1, hs_lt, hs_le, hs_ge, hs_gt, hs_eq, hs_10, hs_00, hs_01, true_and, and_true, true_imp_iff, false_imp_iff, not_true_eq_false, not_false_eq_true, hs_av, hs_ai, hs_ar, hs_an, hs_aj, hs_ci, hs_cr, hs_cn, hs_cj, hs_cd, hs_cf, hs_q0, hs_q1, reduceIte, Nat.reduceEqDiff, Nat.reduceAdd, Nat.reduceLT, eq_self, List.getElem?_cons_zero, List.getElem?_cons_succ, List.set_cons_zero, List.set_cons_succ, List.length_cons, List.length_nil, Option.toList_some, Option.toList_none, List.cons_append, List.nil_append, Nat.zero_add, Nat.add_zero, List.map_nil, List.sum_nil, List.map_cons, List.sum_cons, Nat.zero_le, hs_set1, hro]
    refine ⟨vp_in_nI (n := 0) (N := 1) (by decide) (by decide), ?_⟩
    refine hl_segh B okL_settle (fun q => nomatch q) 14 1000 rfl ?_
    simp only [pL_settle, List.drop_zero, List.drop_succ_cons, hl_wp, hs_ii, hs_i1, hs_ll, hs_l1, hs_ff, hs_g1, hs_dd, hs_d1, hs_r1, hs_rv, hs_rv0, hs_n1, hs_n0, hs_v1i, hs_v1r, hs_a1, hs_d2l, hs_d2i, hs_ri, hs_rl, hs_rg, hs_rd8, hs_rr, hs_rn, hs_ov, hs_gf, hs_po, hs_pfi, hs_pfr, hs_ia, hs_la, hs_da, hs_qa, hs_al, hs_is, hs_ls, hs_ds, hs_iso, hs_lso, hs_dso, hs_rd, hs_f1, hs_f10, hs_f2, hs_f20, hs_in0, hs_in1, hs_lt, hs_le, hs_ge, hs_gt, hs_eq, hs_10, hs_00, hs_01, true_and, and_true, true_imp_iff, false_imp_iff, not_true_eq_false, not_false_eq_true, hs_av, hs_ai, hs_ar, hs_an, hs_aj, hs_ci, hs_cr, hs_cn, hs_cj, hs_cd, hs_cf, hs_q0, hs_q1, reduceIte, Nat.reduceEqDiff, Nat.reduceAdd, Nat.reduceLT, eq_self, List.getElem?_cons_zero, List.getElem?_cons_succ, List.set_cons_zero, List.set_cons_succ, List.length_cons, List.length_nil, Option.toList_some, Option.toList_none, List.cons_append, List.nil_append, Nat.zero_add, Nat.add_zero, List.map_nil, List.sum_nil, List.map_cons, List.sum_cons, Nat.zero_le, hs_set1]
    exact hl_ireth B rfl rfl (hl_dec okL_settle 15 rfl) (by decide) (by decide) ⟨ca2, _, by rw [hn]; rfl, w2.refr hr _, fun _ => by rw [hv]; rfl⟩
  · obtain ⟨ca2, w2, hE1⟩ := hx
    have hm := oe_settle _ hE1
    rcases List.mem_cons.mp hm with rfl | hm
    · skip
      refine hl_catch B (pre := []) (s0 := 0) (e0 := 9) (hp := 12) (ct := 13) (suf := [(0, 9, 15, 22)]) (by simp [hl_ex]) rfl (by decide) (by decide) (kk := 375) (by decide +kernel) (kc := 387) (by decide +kernel) hl_pa_n (fun q => ?_)
      refine hl_segh B okL_settle (fun q => nomatch q) 8 1000 rfl ?_
      simp only [pL_settle, List.drop_zero, List.drop_succ_cons, hl_wp, hs_ii, hs_i1, hs_ll, hs_l1, hs_ff, hs_g1, hs_dd, hs_d1, hs_r1, hs_rv, hs_rv0, hs_n1, hs_n0, hs_v1i, hs_v1r, hs_a1, hs_d2l, hs_d2i, hs_ri, hs_rl, hs_rg, hs_rd8, hs_rr, hs_rn, hs_ov, hs_gf, hs_po, hs_pfi, hs_pfr, hs_ia, hs_la, hs_da, hs_qa, hs_al, hs_is, hs_ls, hs_ds, hs_iso, hs_lso, hs_dso, hs_rd, hs_f1, hs_f10, hs_f2, hs_f20, hs_in0, hs_in1, hs_lt, hs_le, hs_ge, hs_gt, hs_eq, hs_10, hs_00, hs_01, true_and, and_true, true_imp_iff, false_imp_iff, not_true_eq_false, not_false_eq_true, hs_av, hs_ai, hs_ar, hs_an, hs_aj, hs_ci, hs_cr, hs_cn, hs_cj, hs_cd, hs_cf, hs_q0, hs_q1, reduceIte, Nat.reduceEqDiff, Nat.reduceAdd, Nat.reduceLT, eq_self, List.getElem?_cons_zero, List.getElem?_cons_succ, List.set_cons_zero, List.set_cons_succ, List.length_cons, List.length_nil, Option.toList_some, Option.toList_none, List.cons_append, List.nil_append, Nat.zero_add, Nat.add_zero, List.map_nil, List.sum_nil, List.map_cons, List.sum_cons, Nat.zero_le, hs_set1]
      exact hl_ireth B rfl rfl (hl_dec okL_settle 10 rfl) (by decide) (by decide) ⟨ca2, f, by rw [hE1]; exact congrArg (fun z => some (Value.int z)) (by decide +kernel), by rw [hl_set_same hr]; exact w2, fun z => by rw [hE1] at z; cases z⟩
    cases List.mem_singleton.mp hm
    refine hl_catch B (pre := [(0, 9, 12, 13)]) (s0 := 0) (e0 := 9) (hp := 15) (ct := 22) (suf := []) (by simp [hl_ex]) rfl (by decide) (by decide) (kk := 510) (by decide +kernel) (kc := 534) (by decide +kernel) (hl_pa_c ⟨by decide, xIAE, by simp [hl_ex], by decide, hl_T_of (k := 375) (by decide +kernel) rfl⟩ hl_pa_n) (fun q => ?_)
    refine hl_segh B okL_settle (fun q => nomatch q) 11 1000 rfl ?_
    simp only [pL_settle, List.drop_zero, List.drop_succ_cons, hl_wp, hs_ii, hs_i1, hs_ll, hs_l1, hs_ff, hs_g1, hs_dd, hs_d1, hs_r1, hs_rv, hs_rv0, hs_n1, hs_n0, hs_v1i, hs_v1r, hs_a1, hs_d2l, hs_d2i, hs_ri, hs_rl, hs_rg, hs_rd8, hs_rr, hs_rn, hs_ov, hs_gf, hs_po, hs_pfi, hs_pfr, hs_ia, hs_la, hs_da, hs_qa, hs_al, hs_is, hs_ls, hs_ds, hs_iso, hs_lso, hs_dso, hs_rd, hs_f1, hs_f10, hs_f2, hs_f20, hs_in0, hs_in1, hs_lt, hs_le, hs_ge, hs_gt, hs_eq, hs_10, hs_00, hs_01, true_and, and_true, true_imp_iff, false_imp_iff, not_true_eq_false, not_false_eq_true, hs_av, hs_ai, hs_ar, hs_an, hs_aj, hs_ci, hs_cr, hs_cn, hs_cj, hs_cd, hs_cf, hs_q0, hs_q1, reduceIte, Nat.reduceEqDiff, Nat.reduceAdd, Nat.reduceLT, eq_self, List.getElem?_cons_zero, List.getElem?_cons_succ, List.set_cons_zero, List.set_cons_succ, List.length_cons, List.length_nil, Option.toList_some, Option.toList_none, List.cons_append, List.nil_append, Nat.zero_add, Nat.add_zero, List.map_nil, List.sum_nil, List.map_cons, List.sum_cons, Nat.zero_le, hs_set1]
    exact hl_ireth B rfl rfl (hl_dec okL_settle 13 rfl) (by decide) (by decide) ⟨ca2, f, by rw [hE1]; exact congrArg (fun z => some (Value.int z)) (by decide +kernel), by rw [hl_set_same hr]; exact w2, fun z => by rw [hE1] at z; cases z⟩
theorem oe_netOf {σ : LSt} {x : Int32} : ∀ E : String, (op_netOf σ x).1 = some E → E ∈ [xIOB] := by
  intro E h
  unfold op_netOf at h
  rw [ls_res_1] at h
  cases er_acc_e h; simp
theorem ov_netOf {σ : LSt} {x : Int32} : ∃ v9, (op_netOf σ x).2.2 = .long v9 := by
  unfold op_netOf
  exact ⟨_, ls_res_v⟩
abbrev mL_netOf : hl_M := (yL_netOf, cL_netOf, 4, (some .int))
theorem mtL_netOf : hl_mh mL_netOf [(0, 8, 11, 20)] 3 := ⟨hl_T_of (k := 796) (by decide +kernel) rfl, hl_T_of (k := 48) (by decide +kernel) rfl, ⟨by decide +kernel, by decide +kernel⟩, by decide +kernel, hl_T_of (k := 795) (by decide +kernel) rfl⟩
set_option maxRecDepth 20000 in
set_option maxHeartbeats 2000000 in
theorem cw_netOf {G : hl_G} {l : Launch} {a ca : Nat → Nat} {σ : LSt} {x : Int32} {h0 : hl_H} {ro : Nat} {f : Nat → Int64} (hst : l.stackTraces = false) (hI : LInv0 σ) (hr : h0 ro = some (.inl (1, .inr (.inl f)))) :
    hl_Ch G l mL_netOf [(0, 8, 11, 20)] 7 12 90 [.ref (a 0), .int x, .ref ro] (LSw a ca σ h0) (lw_Q a h0 ro [xIOB] (op_netOf σ x)) (fun _ _ => False) := by
  refine hl_bodyh (by decide +kernel) (Nat.le_of_ble_eq_true rfl) ?_
  intro p e s m args below meth c B g hg
  refine hl_segh B okL_netOf (fun q => nomatch q) 0 1000 rfl ?_
  simp only [pL_netOf, List.drop_zero, List.drop_succ_cons, hl_wp, hs_ii, hs_i1, hs_ll, hs_l1, hs_ff, hs_g1, hs_dd, hs_d1, hs_r1, hs_rv, hs_rv0, hs_n1, hs_n0, hs_v1i, hs_v1r, hs_a1, hs_d2l, hs_d2i, hs_ri, hs_rl, hs_rg, hs_rd8, hs_rr, hs_rn, hs_ov, hs_gf, hs_po, hs_pfi, hs_pfr, hs_ia, hs_la, hs_da, hs_qa, hs_al, hs_is, hs_ls, hs_ds, hs_iso, hs_lso, hs_dso, hs_rd, hs_f1, hs_f10, hs_f2, hs_f20, hs_in0, hs_in1, hs_lt, hs_le, hs_ge, hs_gt, hs_eq, hs_10, hs_00, hs_01, true_and, and_true, true_imp_iff, false_imp_iff, not_true_eq_false, not_false_eq_true, hs_av, hs_ai, hs_ar, hs_an, hs_aj, hs_ci, hs_cr, hs_cn, hs_cj, hs_cd, hs_cf, hs_q0, hs_q1, reduceIte, Nat.reduceEqDiff, Nat.reduceAdd, Nat.reduceLT, eq_self, List.getElem?_cons_zero, List.getElem?_cons_succ, List.set_cons_zero, List.set_cons_succ, List.length_cons, List.length_nil, Option.toList_some, Option.toList_none, List.cons_append, List.nil_append, Nat.zero_add, Nat.add_zero, List.map_nil, List.sum_nil, List.map_cons, List.sum_cons, Nat.zero_le, hs_set1]
  refine hl_callVh B (As := [.int _]) (cm_netOf hst hI) mtX7_netOf (hl_dec okL_netOf 4 rfl) (kk := 797) (by decide +kernel) rfl rfl (hg.1.f0) rfl (Nat.le_of_ble_eq_true rfl) (by decide) (by decide) (by decide) (by decide) hg (fun r9 h9 hq => ?_) (fun E h9 hx => ?_)
  · obtain ⟨ca2, rfl, w2, hn⟩ := hq
    have hro : h9 ro = some (.inl (1, .inr (.inl f))) := w2.2.2.2.2.2.2 ro _ hr
    obtain ⟨v9, hv⟩ := ov_netOf (σ := σ) (x := x)
    rw [hv]
    refine hl_segh B okL_netOf (fun q => nomatch q) 5 1000 rfl ?_
    simp only [pL_netOf, List.drop_zero, List.drop_succ_cons, hl_wp, hs_ii, hs_i1, hs_ll, hs_l1, hs_ff, hs_g1, hs_dd, hs_d1, hs_r1, hs_rv, hs_rv0, hs_n1, hs_n0, hs_v1i, hs_v1r, hs_a1, hs_d2l, hs_d2i, hs_ri, hs_rl, hs_rg, hs_rd8, hs_rr, hs_rn, hs_ov, hs_gf, hs_po, hs_pfi, hs_pfr, hs_ia, hs_la, hs_da, hs_qa, hs_al, hs_is, hs_ls, hs_ds, hs_iso, hs_lso, hs_dso, hs_rd, hs_f1, hs_f10, hs_f2, hs_f20, hs_in0, hs_in1, hs_lt, hs_le, hs_ge, hs_gt, hs_eq, hs_10, hs_00, hs_01, true_and, and_true, true_imp_iff, false_imp_iff, not_true_eq_false, not_false_eq_true, hs_av, hs_ai, hs_ar, hs_an, hs_aj, hs_ci, hs_cr, hs_cn, hs_cj, hs_cd, hs_cf, hs_q0, hs_q1, reduceIte, Nat.reduceEqDiff, Nat.reduceAdd, Nat.reduceLT, eq_self, List.getElem?_cons_zero, List.getElem?_cons_succ, List.set_cons_zero, List.set_cons_succ, List.length_cons, List.length_nil, Option.toList_some, Option.toList_none, List.cons_append, List.nil_append, Nat.zero_add, Nat.add_zero, List.map_nil, List.sum_nil, List.map_cons, List.sum_cons, Nat.zero_le, hs_set1, hro]
    refine ⟨vp_in_nI (n := 0) (N := 1) (by decide) (by decide), ?_⟩
    refine hl_segh B okL_netOf (fun q => nomatch q) 10 1000 rfl ?_
    simp only [pL_netOf, List.drop_zero, List.drop_succ_cons, hl_wp, hs_ii, hs_i1, hs_ll, hs_l1, hs_ff, hs_g1, hs_dd, hs_d1, hs_r1, hs_rv, hs_rv0, hs_n1, hs_n0, hs_v1i, hs_v1r, hs_a1, hs_d2l, hs_d2i, hs_ri, hs_rl, hs_rg, hs_rd8, hs_rr, hs_rn, hs_ov, hs_gf, hs_po, hs_pfi, hs_pfr, hs_ia, hs_la, hs_da, hs_qa, hs_al, hs_is, hs_ls, hs_ds, hs_iso, hs_lso, hs_dso, hs_rd, hs_f1, hs_f10, hs_f2, hs_f20, hs_in0, hs_in1, hs_lt, hs_le, hs_ge, hs_gt, hs_eq, hs_10, hs_00, hs_01, true_and, and_true, true_imp_iff, false_imp_iff, not_true_eq_false, not_false_eq_true, hs_av, hs_ai, hs_ar, hs_an, hs_aj, hs_ci, hs_cr, hs_cn, hs_cj, hs_cd, hs_cf, hs_q0, hs_q1, reduceIte, Nat.reduceEqDiff, Nat.reduceAdd, Nat.reduceLT, eq_self, List.getElem?_cons_zero, List.getElem?_cons_succ, List.set_cons_zero, List.set_cons_succ, List.length_cons, List.length_nil, Option.toList_some, Option.toList_none, List.cons_append, List.nil_append, Nat.zero_add, Nat.add_zero, List.map_nil, List.sum_nil, List.map_cons, List.sum_cons, Nat.zero_le, hs_set1]
    exact hl_ireth B rfl rfl (hl_dec okL_netOf 11 rfl) (by decide) (by decide) ⟨ca2, _, by rw [hn]; rfl, w2.refr hr _, fun _ => by rw [hv]; rfl⟩
  · obtain ⟨ca2, w2, hE1⟩ := hx
    have hm := oe_netOf _ hE1
    cases List.mem_singleton.mp hm
    refine hl_catch B (pre := []) (s0 := 0) (e0 := 8) (hp := 11) (ct := 20) (suf := []) (by simp [hl_ex]) rfl (by decide) (by decide) (kk := 486) (by decide +kernel) (kc := 521) (by decide +kernel) hl_pa_n (fun q => ?_)
    refine hl_segh B okL_netOf (fun q => nomatch q) 7 1000 rfl ?_
    simp only [pL_netOf, List.drop_zero, List.drop_succ_cons, hl_wp, hs_ii, hs_i1, hs_ll, hs_l1, hs_ff, hs_g1, hs_dd, hs_d1, hs_r1, hs_rv, hs_rv0, hs_n1, hs_n0, hs_v1i, hs_v1r, hs_a1, hs_d2l, hs_d2i, hs_ri, hs_rl, hs_rg, hs_rd8, hs_rr, hs_rn, hs_ov, hs_gf, hs_po, hs_pfi, hs_pfr, hs_ia, hs_la, hs_da, hs_qa, hs_al, hs_is, hs_ls, hs_ds, hs_iso, hs_lso, hs_dso, hs_rd, hs_f1, hs_f10, hs_f2, hs_f20, hs_in0, hs_in1, hs_lt, hs_le, hs_ge, hs_gt, hs_eq, hs_10, hs_00, hs_01, true_and, and_true, true_imp_iff, false_imp_iff, not_true_eq_false, not_false_eq_true, hs_av, hs_ai, hs_ar, hs_an, hs_aj, hs_ci, hs_cr, hs_cn, hs_cj, hs_cd, hs_cf, hs_q0, hs_q1, reduceIte, Nat.reduceEqDiff, Nat.reduceAdd, Nat.reduceLT, eq_self, List.getElem?_cons_zero, List.getElem?_cons_succ, List.set_cons_zero, List.set_cons_succ, List.length_cons, List.length_nil, Option.toList_some, Option.toList_none, List.cons_append, List.nil_append, Nat.zero_add, Nat.add_zero, List.map_nil, List.sum_nil, List.map_cons, List.sum_cons, Nat.zero_le, hs_set1]
    exact hl_ireth B rfl rfl (hl_dec okL_netOf 9 rfl) (by decide) (by decide) ⟨ca2, f, by rw [hE1]; exact congrArg (fun z => some (Value.int z)) (by decide +kernel), by rw [hl_set_same hr]; exact w2, fun z => by rw [hE1] at z; cases z⟩
theorem oe_balance {σ : LSt} {x : Int32} : ∀ E : String, (op_balance σ x).1 = some E → E ∈ [xIOB] := by
  intro E h
  unfold op_balance at h
  rw [ls_res_1] at h
  cases er_acc_e h; simp
theorem ov_balance {σ : LSt} {x : Int32} : ∃ v9, (op_balance σ x).2.2 = .long v9 := by
  unfold op_balance
  exact ⟨_, ls_res_v⟩
abbrev mL_balance : hl_M := (yL_balance, cL_balance, 4, (some .int))
theorem mtL_balance : hl_mh mL_balance [(0, 8, 11, 20)] 3 := ⟨hl_T_of (k := 803) (by decide +kernel) rfl, hl_T_of (k := 48) (by decide +kernel) rfl, ⟨by decide +kernel, by decide +kernel⟩, by decide +kernel, hl_T_of (k := 802) (by decide +kernel) rfl⟩
set_option maxRecDepth 20000 in
set_option maxHeartbeats 2000000 in
theorem cw_balance {G : hl_G} {l : Launch} {a ca : Nat → Nat} {σ : LSt} {x : Int32} {h0 : hl_H} {ro : Nat} {f : Nat → Int64} (hst : l.stackTraces = false) (hI : LInv0 σ) (hr : h0 ro = some (.inl (1, .inr (.inl f)))) :
    hl_Ch G l mL_balance [(0, 8, 11, 20)] 7 12 90 [.ref (a 0), .int x, .ref ro] (LSw a ca σ h0) (lw_Q a h0 ro [xIOB] (op_balance σ x)) (fun _ _ => False) := by
  refine hl_bodyh (by decide +kernel) (Nat.le_of_ble_eq_true rfl) ?_
  intro p e s m args below meth c B g hg
  refine hl_segh B okL_balance (fun q => nomatch q) 0 1000 rfl ?_
  simp only [pL_balance, List.drop_zero, List.drop_succ_cons, hl_wp, hs_ii, hs_i1, hs_ll, hs_l1, hs_ff, hs_g1, hs_dd, hs_d1, hs_r1, hs_rv, hs_rv0, hs_n1, hs_n0, hs_v1i, hs_v1r, hs_a1, hs_d2l, hs_d2i, hs_ri, hs_rl, hs_rg, hs_rd8, hs_rr, hs_rn, hs_ov, hs_gf, hs_po, hs_pfi, hs_pfr, hs_ia, hs_la, hs_da, hs_qa, hs_al, hs_is, hs_ls, hs_ds, hs_iso, hs_lso, hs_dso, hs_rd, hs_f1, hs_f10, hs_f2, hs_f20, hs_in0, hs_in1, hs_lt, hs_le, hs_ge, hs_gt, hs_eq, hs_10, hs_00, hs_01, true_and, and_true, true_imp_iff, false_imp_iff, not_true_eq_false, not_false_eq_true, hs_av, hs_ai, hs_ar, hs_an, hs_aj, hs_ci, hs_cr, hs_cn, hs_cj, hs_cd, hs_cf, hs_q0, hs_q1, reduceIte, Nat.reduceEqDiff, Nat.reduceAdd, Nat.reduceLT, eq_self, List.getElem?_cons_zero, List.getElem?_cons_succ, List.set_cons_zero, List.set_cons_succ, List.length_cons, List.length_nil, Option.toList_some, Option.toList_none, List.cons_append, List.nil_append, Nat.zero_add, Nat.add_zero, List.map_nil, List.sum_nil, List.map_cons, List.sum_cons, Nat.zero_le, hs_set1]
  refine hl_callVh B (As := [.int _]) (cm_balance hst hI) mtX7_balance (hl_dec okL_balance 4 rfl) (kk := 804) (by decide +kernel) rfl rfl (hg.1.f0) rfl (Nat.le_of_ble_eq_true rfl) (by decide) (by decide) (by decide) (by decide) hg (fun r9 h9 hq => ?_) (fun E h9 hx => ?_)
  · obtain ⟨ca2, rfl, w2, hn⟩ := hq
    have hro : h9 ro = some (.inl (1, .inr (.inl f))) := w2.2.2.2.2.2.2 ro _ hr
    obtain ⟨v9, hv⟩ := ov_balance (σ := σ) (x := x)
    rw [hv]
    refine hl_segh B okL_balance (fun q => nomatch q) 5 1000 rfl ?_
    simp only [pL_balance, List.drop_zero, List.drop_succ_cons, hl_wp, hs_ii, hs_i1, hs_ll, hs_l1, hs_ff, hs_g1, hs_dd, hs_d1, hs_r1, hs_rv, hs_rv0, hs_n1, hs_n0, hs_v1i, hs_v1r, hs_a1, hs_d2l, hs_d2i, hs_ri, hs_rl, hs_rg, hs_rd8, hs_rr, hs_rn, hs_ov, hs_gf, hs_po, hs_pfi, hs_pfr, hs_ia, hs_la, hs_da, hs_qa, hs_al, hs_is, hs_ls, hs_ds, hs_iso, hs_lso, hs_dso, hs_rd, hs_f1, hs_f10, hs_f2, hs_f20, hs_in0, hs_in1, hs_lt, hs_le, hs_ge, hs_gt, hs_eq, hs_10, hs_00, hs_01, true_and, and_true, true_imp_iff, false_imp_iff, not_true_eq_false, not_false_eq_true, hs_av, hs_ai, hs_ar, hs_an, hs_aj, hs_ci, hs_cr, hs_cn, hs_cj, hs_cd, hs_cf, hs_q0, hs_q1, reduceIte, Nat.reduceEqDiff, Nat.reduceAdd, Nat.reduceLT, eq_self, List.getElem?_cons_zero, List.getElem?_cons_succ, List.set_cons_zero, List.set_cons_succ, List.length_cons, List.length_nil, Option.toList_some, Option.toList_none, List.cons_append, List.nil_append, Nat.zero_add, Nat.add_zero, List.map_nil, List.sum_nil, List.map_cons, List.sum_cons, Nat.zero_le, hs_set1, hro]
    refine ⟨vp_in_nI (n := 0) (N := 1) (by decide) (by decide), ?_⟩
    refine hl_segh B okL_balance (fun q => nomatch q) 10 1000 rfl ?_
    simp only [pL_balance, List.drop_zero, List.drop_succ_cons, hl_wp, hs_ii, hs_i1, hs_ll, hs_l1, hs_ff, hs_g1, hs_dd, hs_d1, hs_r1, hs_rv, hs_rv0, hs_n1, hs_n0, hs_v1i, hs_v1r, hs_a1, hs_d2l, hs_d2i, hs_ri, hs_rl, hs_rg, hs_rd8, hs_rr, hs_rn, hs_ov, hs_gf, hs_po, hs_pfi, hs_pfr, hs_ia, hs_la, hs_da, hs_qa, hs_al, hs_is, hs_ls, hs_ds, hs_iso, hs_lso, hs_dso, hs_rd, hs_f1, hs_f10, hs_f2, hs_f20, hs_in0, hs_in1, hs_lt, hs_le, hs_ge, hs_gt, hs_eq, hs_10, hs_00, hs_01, true_and, and_true, true_imp_iff, false_imp_iff, not_true_eq_false, not_false_eq_true, hs_av, hs_ai, hs_ar, hs_an, hs_aj, hs_ci, hs_cr, hs_cn, hs_cj, hs_cd, hs_cf, hs_q0, hs_q1, reduceIte, Nat.reduceEqDiff, Nat.reduceAdd, Nat.reduceLT, eq_self, List.getElem?_cons_zero, List.getElem?_cons_succ, List.set_cons_zero, List.set_cons_succ, List.length_cons, List.length_nil, Option.toList_some, Option.toList_none, List.cons_append, List.nil_append, Nat.zero_add, Nat.add_zero, List.map_nil, List.sum_nil, List.map_cons, List.sum_cons, Nat.zero_le, hs_set1]
    exact hl_ireth B rfl rfl (hl_dec okL_balance 11 rfl) (by decide) (by decide) ⟨ca2, _, by rw [hn]; rfl, w2.refr hr _, fun _ => by rw [hv]; rfl⟩
  · obtain ⟨ca2, w2, hE1⟩ := hx
    have hm := oe_balance _ hE1
    cases List.mem_singleton.mp hm
    refine hl_catch B (pre := []) (s0 := 0) (e0 := 8) (hp := 11) (ct := 20) (suf := []) (by simp [hl_ex]) rfl (by decide) (by decide) (kk := 486) (by decide +kernel) (kc := 521) (by decide +kernel) hl_pa_n (fun q => ?_)
    refine hl_segh B okL_balance (fun q => nomatch q) 7 1000 rfl ?_
    simp only [pL_balance, List.drop_zero, List.drop_succ_cons, hl_wp, hs_ii, hs_i1, hs_ll, hs_l1, hs_ff, hs_g1, hs_dd, hs_d1, hs_r1, hs_rv, hs_rv0, hs_n1, hs_n0, hs_v1i, hs_v1r, hs_a1, hs_d2l, hs_d2i, hs_ri, hs_rl, hs_rg, hs_rd8, hs_rr, hs_rn, hs_ov, hs_gf, hs_po, hs_pfi, hs_pfr, hs_ia, hs_la, hs_da, hs_qa, hs_al, hs_is, hs_ls, hs_ds, hs_iso, hs_lso, hs_dso, hs_rd, hs_f1, hs_f10, hs_f2, hs_f20, hs_in0, hs_in1, hs_lt, hs_le, hs_ge, hs_gt, hs_eq, hs_10, hs_00, hs_01, true_and, and_true, true_imp_iff, false_imp_iff, not_true_eq_false, not_false_eq_true, hs_av, hs_ai, hs_ar, hs_an, hs_aj, hs_ci, hs_cr, hs_cn, hs_cj, hs_cd, hs_cf, hs_q0, hs_q1, reduceIte, Nat.reduceEqDiff, Nat.reduceAdd, Nat.reduceLT, eq_self, List.getElem?_cons_zero, List.getElem?_cons_succ, List.set_cons_zero, List.set_cons_succ, List.length_cons, List.length_nil, Option.toList_some, Option.toList_none, List.cons_append, List.nil_append, Nat.zero_add, Nat.add_zero, List.map_nil, List.sum_nil, List.map_cons, List.sum_cons, Nat.zero_le, hs_set1]
    exact hl_ireth B rfl rfl (hl_dec okL_balance 9 rfl) (by decide) (by decide) ⟨ca2, f, by rw [hE1]; exact congrArg (fun z => some (Value.int z)) (by decide +kernel), by rw [hl_set_same hr]; exact w2, fun z => by rw [hE1] at z; cases z⟩
theorem oe_available {σ : LSt} {x : Int32} : ∀ E : String, (op_available σ x).1 = some E → E ∈ [xIOB] := by
  intro E h
  unfold op_available at h
  rw [ls_res_1] at h
  cases er_acc_e h; simp
theorem ov_available {σ : LSt} {x : Int32} : ∃ v9, (op_available σ x).2.2 = .long v9 := by
  unfold op_available
  exact ⟨_, ls_res_v⟩
abbrev mL_available : hl_M := (yL_available, cL_available, 4, (some .int))
theorem mtL_available : hl_mh mL_available [(0, 8, 11, 20)] 3 := ⟨hl_T_of (k := 810) (by decide +kernel) rfl, hl_T_of (k := 48) (by decide +kernel) rfl, ⟨by decide +kernel, by decide +kernel⟩, by decide +kernel, hl_T_of (k := 809) (by decide +kernel) rfl⟩
set_option maxRecDepth 20000 in
set_option maxHeartbeats 2000000 in
theorem cw_available {G : hl_G} {l : Launch} {a ca : Nat → Nat} {σ : LSt} {x : Int32} {h0 : hl_H} {ro : Nat} {f : Nat → Int64} (hst : l.stackTraces = false) (hI : LInv0 σ) (hr : h0 ro = some (.inl (1, .inr (.inl f)))) :
    hl_Ch G l mL_available [(0, 8, 11, 20)] 7 12 90 [.ref (a 0), .int x, .ref ro] (LSw a ca σ h0) (lw_Q a h0 ro [xIOB] (op_available σ x)) (fun _ _ => False) := by
  refine hl_bodyh (by decide +kernel) (Nat.le_of_ble_eq_true rfl) ?_
  intro p e s m args below meth c B g hg
  refine hl_segh B okL_available (fun q => nomatch q) 0 1000 rfl ?_
  simp only [pL_available, List.drop_zero, List.drop_succ_cons, hl_wp, hs_ii, hs_i1, hs_ll, hs_l1, hs_ff, hs_g1, hs_dd, hs_d1, hs_r1, hs_rv, hs_rv0, hs_n1, hs_n0, hs_v1i, hs_v1r, hs_a1, hs_d2l, hs_d2i, hs_ri, hs_rl, hs_rg, hs_rd8, hs_rr, hs_rn, hs_ov, hs_gf, hs_po, hs_pfi, hs_pfr, hs_ia, hs_la, hs_da, hs_qa, hs_al, hs_is, hs_ls, hs_ds, hs_iso, hs_lso, hs_dso, hs_rd, hs_f1, hs_f10, hs_f2, hs_f20, hs_in0, hs_in1, hs_lt, hs_le, hs_ge, hs_gt, hs_eq, hs_10, hs_00, hs_01, true_and, and_true, true_imp_iff, false_imp_iff, not_true_eq_false, not_false_eq_true, hs_av, hs_ai, hs_ar, hs_an, hs_aj, hs_ci, hs_cr, hs_cn, hs_cj, hs_cd, hs_cf, hs_q0, hs_q1, reduceIte, Nat.reduceEqDiff, Nat.reduceAdd, Nat.reduceLT, eq_self, List.getElem?_cons_zero, List.getElem?_cons_succ, List.set_cons_zero, List.set_cons_succ, List.length_cons, List.length_nil, Option.toList_some, Option.toList_none, List.cons_append, List.nil_append, Nat.zero_add, Nat.add_zero, List.map_nil, List.sum_nil, List.map_cons, List.sum_cons, Nat.zero_le, hs_set1]
  refine hl_callVh B (As := [.int _]) (cm_available hst hI) mtX7_available (hl_dec okL_available 4 rfl) (kk := 811) (by decide +kernel) rfl rfl (hg.1.f0) rfl (Nat.le_of_ble_eq_true rfl) (by decide) (by decide) (by decide) (by decide) hg (fun r9 h9 hq => ?_) (fun E h9 hx => ?_)
  · obtain ⟨ca2, rfl, w2, hn⟩ := hq
    have hro : h9 ro = some (.inl (1, .inr (.inl f))) := w2.2.2.2.2.2.2 ro _ hr
    obtain ⟨v9, hv⟩ := ov_available (σ := σ) (x := x)
    rw [hv]
    refine hl_segh B okL_available (fun q => nomatch q) 5 1000 rfl ?_
    simp only [pL_available, List.drop_zero, List.drop_succ_cons, hl_wp, hs_ii, hs_i1, hs_ll, hs_l1, hs_ff, hs_g1, hs_dd, hs_d1, hs_r1, hs_rv, hs_rv0, hs_n1, hs_n0, hs_v1i, hs_v1r, hs_a1, hs_d2l, hs_d2i, hs_ri, hs_rl, hs_rg, hs_rd8, hs_rr, hs_rn, hs_ov, hs_gf, hs_po, hs_pfi, hs_pfr, hs_ia, hs_la, hs_da, hs_qa, hs_al, hs_is, hs_ls, hs_ds, hs_iso, hs_lso, hs_dso, hs_rd, hs_f1, hs_f10, hs_f2, hs_f20, hs_in0, hs_in1, hs_lt, hs_le, hs_ge, hs_gt, hs_eq, hs_10, hs_00, hs_01, true_and, and_true, true_imp_iff, false_imp_iff, not_true_eq_false, not_false_eq_true, hs_av, hs_ai, hs_ar, hs_an, hs_aj, hs_ci, hs_cr, hs_cn, hs_cj, hs_cd, hs_cf, hs_q0, hs_q1, reduceIte, Nat.reduceEqDiff, Nat.reduceAdd, Nat.reduceLT, eq_self, List.getElem?_cons_zero, List.getElem?_cons_succ, List.set_cons_zero, List.set_cons_succ, List.length_cons, List.length_nil, Option.toList_some, Option.toList_none, List.cons_append, List.nil_append, Nat.zero_add, Nat.add_zero, List.map_nil, List.sum_nil, List.map_cons, List.sum_cons, Nat.zero_le, hs_set1, hro]
    refine ⟨vp_in_nI (n := 0) (N := 1) (by decide) (by decide), ?_⟩
    refine hl_segh B okL_available (fun q => nomatch q) 10 1000 rfl ?_
    simp only [pL_available, List.drop_zero, List.drop_succ_cons, hl_wp, hs_ii, hs_i1, hs_ll, hs_l1, hs_ff, hs_g1, hs_dd, hs_d1, hs_r1, hs_rv, hs_rv0, hs_n1, hs_n0, hs_v1i, hs_v1r, hs_a1, hs_d2l, hs_d2i, hs_ri, hs_rl, hs_rg, hs_rd8, hs_rr, hs_rn, hs_ov, hs_gf, hs_po, hs_pfi, hs_pfr, hs_ia, hs_la, hs_da, hs_qa, hs_al, hs_is, hs_ls, hs_ds, hs_iso, hs_lso, hs_dso, hs_rd, hs_f1, hs_f10, hs_f2, hs_f20, hs_in0, hs_in1, hs_lt, hs_le, hs_ge, hs_gt, hs_eq, hs_10, hs_00, hs_01, true_and, and_true, true_imp_iff, false_imp_iff, not_true_eq_false, not_false_eq_true, hs_av, hs_ai, hs_ar, hs_an, hs_aj, hs_ci, hs_cr, hs_cn, hs_cj, hs_cd, hs_cf, hs_q0, hs_q1, reduceIte, Nat.reduceEqDiff, Nat.reduceAdd, Nat.reduceLT, eq_self, List.getElem?_cons_zero, List.getElem?_cons_succ, List.set_cons_zero, List.set_cons_succ, List.length_cons, List.length_nil, Option.toList_some, Option.toList_none, List.cons_append, List.nil_append, Nat.zero_add, Nat.add_zero, List.map_nil, List.sum_nil, List.map_cons, List.sum_cons, Nat.zero_le, hs_set1]
    exact hl_ireth B rfl rfl (hl_dec okL_available 11 rfl) (by decide) (by decide) ⟨ca2, _, by rw [hn]; rfl, w2.refr hr _, fun _ => by rw [hv]; rfl⟩
  · obtain ⟨ca2, w2, hE1⟩ := hx
    have hm := oe_available _ hE1
    cases List.mem_singleton.mp hm
    refine hl_catch B (pre := []) (s0 := 0) (e0 := 8) (hp := 11) (ct := 20) (suf := []) (by simp [hl_ex]) rfl (by decide) (by decide) (kk := 486) (by decide +kernel) (kc := 521) (by decide +kernel) hl_pa_n (fun q => ?_)
    refine hl_segh B okL_available (fun q => nomatch q) 7 1000 rfl ?_
    simp only [pL_available, List.drop_zero, List.drop_succ_cons, hl_wp, hs_ii, hs_i1, hs_ll, hs_l1, hs_ff, hs_g1, hs_dd, hs_d1, hs_r1, hs_rv, hs_rv0, hs_n1, hs_n0, hs_v1i, hs_v1r, hs_a1, hs_d2l, hs_d2i, hs_ri, hs_rl, hs_rg, hs_rd8, hs_rr, hs_rn, hs_ov, hs_gf, hs_po, hs_pfi, hs_pfr, hs_ia, hs_la, hs_da, hs_qa, hs_al, hs_is, hs_ls, hs_ds, hs_iso, hs_lso, hs_dso, hs_rd, hs_f1, hs_f10, hs_f2, hs_f20, hs_in0, hs_in1, hs_lt, hs_le, hs_ge, hs_gt, hs_eq, hs_10, hs_00, hs_01, true_and, and_true, true_imp_iff, false_imp_iff, not_true_eq_false, not_false_eq_true, hs_av, hs_ai, hs_ar, hs_an, hs_aj, hs_ci, hs_cr, hs_cn, hs_cj, hs_cd, hs_cf, hs_q0, hs_q1, reduceIte, Nat.reduceEqDiff, Nat.reduceAdd, Nat.reduceLT, eq_self, List.getElem?_cons_zero, List.getElem?_cons_succ, List.set_cons_zero, List.set_cons_succ, List.length_cons, List.length_nil, Option.toList_some, Option.toList_none, List.cons_append, List.nil_append, Nat.zero_add, Nat.add_zero, List.map_nil, List.sum_nil, List.map_cons, List.sum_cons, Nat.zero_le, hs_set1]
    exact hl_ireth B rfl rfl (hl_dec okL_available 9 rfl) (by decide) (by decide) ⟨ca2, f, by rw [hE1]; exact congrArg (fun z => some (Value.int z)) (by decide +kernel), by rw [hl_set_same hr]; exact w2, fun z => by rw [hE1] at z; cases z⟩
theorem oe_balanceByReplay {σ : LSt} {x : Int32} : ∀ E : String, (op_balanceByReplay σ x).1 = some E → E ∈ [xIOB] := by
  intro E h
  unfold op_balanceByReplay at h
  rw [ls_res_1] at h
  cases er_acc_e h; simp
theorem ov_balanceByReplay {σ : LSt} {x : Int32} : ∃ v9, (op_balanceByReplay σ x).2.2 = .long v9 := by
  unfold op_balanceByReplay
  exact ⟨_, ls_res_v⟩
abbrev mL_balanceByReplay : hl_M := (yL_balanceByReplay, cL_balanceByReplay, 4, (some .int))
theorem mtL_balanceByReplay : hl_mh mL_balanceByReplay [(0, 8, 11, 20)] 3 := ⟨hl_T_of (k := 817) (by decide +kernel) rfl, hl_T_of (k := 48) (by decide +kernel) rfl, ⟨by decide +kernel, by decide +kernel⟩, by decide +kernel, hl_T_of (k := 816) (by decide +kernel) rfl⟩
set_option maxRecDepth 20000 in
set_option maxHeartbeats 2000000 in
theorem cw_balanceByReplay {G : hl_G} {l : Launch} {a ca : Nat → Nat} {σ : LSt} {x : Int32} {h0 : hl_H} {ro : Nat} {f : Nat → Int64} (hst : l.stackTraces = false) (hI : LInv0 σ) (hr : h0 ro = some (.inl (1, .inr (.inl f)))) :
    hl_Ch G l mL_balanceByReplay [(0, 8, 11, 20)] 7 12 90 [.ref (a 0), .int x, .ref ro] (LSw a ca σ h0) (lw_Q a h0 ro [xIOB] (op_balanceByReplay σ x)) (fun _ _ => False) := by
  refine hl_bodyh (by decide +kernel) (Nat.le_of_ble_eq_true rfl) ?_
  intro p e s m args below meth c B g hg
  refine hl_segh B okL_balanceByReplay (fun q => nomatch q) 0 1000 rfl ?_
  simp only [pL_balanceByReplay, List.drop_zero, List.drop_succ_cons, hl_wp, hs_ii, hs_i1, hs_ll, hs_l1, hs_ff, hs_g1, hs_dd, hs_d1, hs_r1, hs_rv, hs_rv0, hs_n1, hs_n0, hs_v1i, hs_v1r, hs_a1, hs_d2l, hs_d2i, hs_ri, hs_rl, hs_rg, hs_rd8, hs_rr, hs_rn, hs_ov, hs_gf, hs_po, hs_pfi, hs_pfr, hs_ia, hs_la, hs_da, hs_qa, hs_al, hs_is, hs_ls, hs_ds, hs_iso, hs_lso, hs_dso, hs_rd, hs_f1, hs_f10, hs_f2, hs_f20, hs_in0, hs_in1, hs_lt, hs_le, hs_ge, hs_gt, hs_eq, hs_10, hs_00, hs_01, true_and, and_true, true_imp_iff, false_imp_iff, not_true_eq_false, not_false_eq_true, hs_av, hs_ai, hs_ar, hs_an, hs_aj, hs_ci, hs_cr, hs_cn, hs_cj, hs_cd, hs_cf, hs_q0, hs_q1, reduceIte, Nat.reduceEqDiff, Nat.reduceAdd, Nat.reduceLT, eq_self, List.getElem?_cons_zero, List.getElem?_cons_succ, List.set_cons_zero, List.set_cons_succ, List.length_cons, List.length_nil, Option.toList_some, Option.toList_none, List.cons_append, List.nil_append, Nat.zero_add, Nat.add_zero, List.map_nil, List.sum_nil, List.map_cons, List.sum_cons, Nat.zero_le, hs_set1]
  refine hl_callVh B (As := [.int _]) (cm_balanceByReplay hst hI) mtX7_balanceByReplay (hl_dec okL_balanceByReplay 4 rfl) (kk := 818) (by decide +kernel) rfl rfl (hg.1.f0) rfl (Nat.le_of_ble_eq_true rfl) (by decide) (by decide) (by decide) (by decide) hg (fun r9 h9 hq => ?_) (fun E h9 hx => ?_)
  · obtain ⟨ca2, rfl, w2, hn⟩ := hq
    have hro : h9 ro = some (.inl (1, .inr (.inl f))) := w2.2.2.2.2.2.2 ro _ hr
    obtain ⟨v9, hv⟩ := ov_balanceByReplay (σ := σ) (x := x)
    rw [hv]
    refine hl_segh B okL_balanceByReplay (fun q => nomatch q) 5 1000 rfl ?_
    simp only [pL_balanceByReplay, List.drop_zero, List.drop_succ_cons, hl_wp, hs_ii, hs_i1, hs_ll, hs_l1, hs_ff, hs_g1, hs_dd, hs_d1, hs_r1, hs_rv, hs_rv0, hs_n1, hs_n0, hs_v1i, hs_v1r, hs_a1, hs_d2l, hs_d2i, hs_ri, hs_rl, hs_rg, hs_rd8, hs_rr, hs_rn, hs_ov, hs_gf, hs_po, hs_pfi, hs_pfr, hs_ia, hs_la, hs_da, hs_qa, hs_al, hs_is, hs_ls, hs_ds, hs_iso, hs_lso, hs_dso, hs_rd, hs_f1, hs_f10, hs_f2, hs_f20, hs_in0, hs_in1, hs_lt, hs_le, hs_ge, hs_gt, hs_eq, hs_10, hs_00, hs_01, true_and, and_true, true_imp_iff, false_imp_iff, not_true_eq_false, not_false_eq_true, hs_av, hs_ai, hs_ar, hs_an, hs_aj, hs_ci, hs_cr, hs_cn, hs_cj, hs_cd, hs_cf, hs_q0, hs_q1, reduceIte, Nat.reduceEqDiff, Nat.reduceAdd, Nat.reduceLT, eq_self, List.getElem?_cons_zero, List.getElem?_cons_succ, List.set_cons_zero, List.set_cons_succ, List.length_cons, List.length_nil, Option.toList_some, Option.toList_none, List.cons_append, List.nil_append, Nat.zero_add, Nat.add_zero, List.map_nil, List.sum_nil, List.map_cons, List.sum_cons, Nat.zero_le, hs_set1, hro]
    refine ⟨vp_in_nI (n := 0) (N := 1) (by decide) (by decide), ?_⟩
    refine hl_segh B okL_balanceByReplay (fun q => nomatch q) 10 1000 rfl ?_
    simp only [pL_balanceByReplay, List.drop_zero, List.drop_succ_cons, hl_wp, hs_ii, hs_i1, hs_ll, hs_l1, hs_ff, hs_g1, hs_dd, hs_d1, hs_r1, hs_rv, hs_rv0, hs_n1, hs_n0, hs_v1i, hs_v1r, hs_a1, hs_d2l, hs_d2i, hs_ri, hs_rl, hs_rg, hs_rd8, hs_rr, hs_rn, hs_ov, hs_gf, hs_po, hs_pfi, hs_pfr, hs_ia, hs_la, hs_da, hs_qa, hs_al, hs_is, hs_ls, hs_ds, hs_iso, hs_lso, hs_dso, hs_rd, hs_f1, hs_f10, hs_f2, hs_f20, hs_in0, hs_in1, hs_lt, hs_le, hs_ge, hs_gt, hs_eq, hs_10, hs_00, hs_01, true_and, and_true, true_imp_iff, false_imp_iff, not_true_eq_false, not_false_eq_true, hs_av, hs_ai, hs_ar, hs_an, hs_aj, hs_ci, hs_cr, hs_cn, hs_cj, hs_cd, hs_cf, hs_q0, hs_q1, reduceIte, Nat.reduceEqDiff, Nat.reduceAdd, Nat.reduceLT, eq_self, List.getElem?_cons_zero, List.getElem?_cons_succ, List.set_cons_zero, List.set_cons_succ, List.length_cons, List.length_nil, Option.toList_some, Option.toList_none, List.cons_append, List.nil_append, Nat.zero_add, Nat.add_zero, List.map_nil, List.sum_nil, List.map_cons, List.sum_cons, Nat.zero_le, hs_set1]
    exact hl_ireth B rfl rfl (hl_dec okL_balanceByReplay 11 rfl) (by decide) (by decide) ⟨ca2, _, by rw [hn]; rfl, w2.refr hr _, fun _ => by rw [hv]; rfl⟩
  · obtain ⟨ca2, w2, hE1⟩ := hx
    have hm := oe_balanceByReplay _ hE1
    cases List.mem_singleton.mp hm
    refine hl_catch B (pre := []) (s0 := 0) (e0 := 8) (hp := 11) (ct := 20) (suf := []) (by simp [hl_ex]) rfl (by decide) (by decide) (kk := 486) (by decide +kernel) (kc := 521) (by decide +kernel) hl_pa_n (fun q => ?_)
    refine hl_segh B okL_balanceByReplay (fun q => nomatch q) 7 1000 rfl ?_
    simp only [pL_balanceByReplay, List.drop_zero, List.drop_succ_cons, hl_wp, hs_ii, hs_i1, hs_ll, hs_l1, hs_ff, hs_g1, hs_dd, hs_d1, hs_r1, hs_rv, hs_rv0, hs_n1, hs_n0, hs_v1i, hs_v1r, hs_a1, hs_d2l, hs_d2i, hs_ri, hs_rl, hs_rg, hs_rd8, hs_rr, hs_rn, hs_ov, hs_gf, hs_po, hs_pfi, hs_pfr, hs_ia, hs_la, hs_da, hs_qa, hs_al, hs_is, hs_ls, hs_ds, hs_iso, hs_lso, hs_dso, hs_rd, hs_f1, hs_f10, hs_f2, hs_f20, hs_in0, hs_in1, hs_lt, hs_le, hs_ge, hs_gt, hs_eq, hs_10, hs_00, hs_01, true_and, and_true, true_imp_iff, false_imp_iff, not_true_eq_false, not_false_eq_true, hs_av, hs_ai, hs_ar, hs_an, hs_aj, hs_ci, hs_cr, hs_cn, hs_cj, hs_cd, hs_cf, hs_q0, hs_q1, reduceIte, Nat.reduceEqDiff, Nat.reduceAdd, Nat.reduceLT, eq_self, List.getElem?_cons_zero, List.getElem?_cons_succ, List.set_cons_zero, List.set_cons_succ, List.length_cons, List.length_nil, Option.toList_some, Option.toList_none, List.cons_append, List.nil_append, Nat.zero_add, Nat.add_zero, List.map_nil, List.sum_nil, List.map_cons, List.sum_cons, Nat.zero_le, hs_set1]
    exact hl_ireth B rfl rfl (hl_dec okL_balanceByReplay 9 rfl) (by decide) (by decide) ⟨ca2, f, by rw [hE1]; exact congrArg (fun z => some (Value.int z)) (by decide +kernel), by rw [hl_set_same hr]; exact w2, fun z => by rw [hE1] at z; cases z⟩
theorem oe_balanceAt {σ : LSt} {x y : Int32} : ∀ E : String, (op_balanceAt σ x y).1 = some E → E ∈ [xIOB, xIAE] := by
  intro E h
  unfold op_balanceAt at h
  rw [ls_res_1] at h
  rcases ls_or_e h with h | h
  · cases er_acc_e h; simp
  (repeat' split at h) <;> first | (cases h; done) | (cases h; simp; done) | (cases er_spe_e h; simp)
theorem ov_balanceAt {σ : LSt} {x y : Int32} : ∃ v9, (op_balanceAt σ x y).2.2 = .long v9 := by
  unfold op_balanceAt
  exact ⟨_, ls_res_v⟩
abbrev mL_balanceAt : hl_M := (yL_balanceAt, cL_balanceAt, 5, (some .int))
theorem mtL_balanceAt : hl_mh mL_balanceAt [(0, 9, 12, 20), (0, 9, 16, 13)] 4 := ⟨hl_T_of (k := 832) (by decide +kernel) rfl, hl_T_of (k := 48) (by decide +kernel) rfl, ⟨by decide +kernel, by decide +kernel⟩, by decide +kernel, hl_T_of (k := 831) (by decide +kernel) rfl⟩
set_option maxRecDepth 20000 in
set_option maxHeartbeats 2000000 in
theorem cw_balanceAt {G : hl_G} {l : Launch} {a ca : Nat → Nat} {σ : LSt} {x y : Int32} {h0 : hl_H} {ro : Nat} {f : Nat → Int64} (hst : l.stackTraces = false) (hI : LInv0 σ) (hr : h0 ro = some (.inl (1, .inr (.inl f)))) :
    hl_Ch G l mL_balanceAt [(0, 9, 12, 20), (0, 9, 16, 13)] 7 12 90 [.ref (a 0), .int x, .int y, .ref ro] (LSw a ca σ h0) (lw_Q a h0 ro [xIOB, xIAE] (op_balanceAt σ x y)) (fun _ _ => False) := by
  refine hl_bodyh (by decide +kernel) (Nat.le_of_ble_eq_true rfl) ?_
  intro p e s m args below meth c B g hg
  refine hl_segh B okL_balanceAt (fun q => nomatch q) 0 1000 rfl ?_
  simp only [pL_balanceAt, List.drop_zero, List.drop_succ_cons, hl_wp, hs_ii, hs_i1, hs_ll, hs_l1, hs_ff, hs_g1, hs_dd, hs_d1, hs_r1, hs_rv, hs_rv0, hs_n1, hs_n0, hs_v1i, hs_v1r, hs_a1, hs_d2l, hs_d2i, hs_ri, hs_rl, hs_rg, hs_rd8, hs_rr, hs_rn, hs_ov, hs_gf, hs_po, hs_pfi, hs_pfr, hs_ia, hs_la, hs_da, hs_qa, hs_al, hs_is, hs_ls, hs_ds, hs_iso, hs_lso, hs_dso, hs_rd, hs_f1, hs_f10, hs_f2, hs_f20, hs_in0, hs_in1, hs_lt, hs_le, hs_ge, hs_gt, hs_eq, hs_10, hs_00, hs_01, true_and, and_true, true_imp_iff, false_imp_iff, not_true_eq_false, not_false_eq_true, hs_av, hs_ai, hs_ar, hs_an, hs_aj, hs_ci, hs_cr, hs_cn, hs_cj, hs_cd, hs_cf, hs_q0, hs_q1, reduceIte, Nat.reduceEqDiff, Nat.reduceAdd, Nat.reduceLT, eq_self, List.getElem?_cons_zero, List.getElem?_cons_succ, List.set_cons_zero, List.set_cons_succ, List.length_cons, List.length_nil, Option.toList_some, Option.toList_none, List.cons_append, List.nil_append, Nat.zero_add, Nat.add_zero, List.map_nil, List.sum_nil, List.map_cons, List.sum_cons, Nat.zero_le, hs_set1]
  refine hl_callVh B (As := [.int _, .int _]) (cm_balanceAt hst hI) mtX7_balanceAt (hl_dec okL_balanceAt 5 rfl) (kk := 833) (by decide +kernel) rfl rfl (hg.1.f0) rfl (Nat.le_of_ble_eq_true rfl) (by decide) (by decide) (by decide) (by decide) hg (fun r9 h9 hq => ?_) (fun E h9 hx => ?_)
  · obtain ⟨ca2, rfl, w2, hn⟩ := hq
    have hro : h9 ro = some (.inl (1, .inr (.inl f))) := w2.2.2.2.2.2.2 ro _ hr
    obtain ⟨v9, hv⟩ := ov_balanceAt (σ := σ) (x := x) (y := y)
    rw [hv]
    refine hl_segh B okL_balanceAt (fun q => nomatch q) 6 1000 rfl ?_
    simp only [pL_balanceAt, List.drop_zero, List.drop_succ_cons, hl_wp, hs_ii, hs_i1, hs_ll, hs_l1, hs_ff, hs_g1, hs_dd, hs_d1, hs_r1, hs_rv, hs_rv0, hs_n1, hs_n0, hs_v1i, hs_v1r, hs_a1, hs_d2l, hs_d2i, hs_ri, hs_rl, hs_rg, hs_rd8, hs_rr, hs_rn, hs_ov, hs_gf, hs_po, hs_pfi, hs_pfr, hs_ia, hs_la, hs_da, hs_qa, hs_al, hs_is, hs_ls, hs_ds, hs_iso, hs_lso, hs_dso, hs_rd, hs_f1, hs_f10, hs_f2, hs_f20, hs_in0, hs_in1, hs_lt, hs_le, hs_ge, hs_gt, hs_eq, hs_10, hs_00, hs_01, true_and, and_true, true_imp_iff, false_imp_iff, not_true_eq_false, not_false_eq_true, hs_av, hs_ai, hs_ar, hs_an, hs_aj, hs_ci, hs_cr, hs_cn, hs_cj, hs_cd, hs_cf, hs_q0, hs_q1, reduceIte, Nat.reduceEqDiff, Nat.reduceAdd, Nat.reduceLT, eq_self, List.getElem?_cons_zero, List.getElem?_cons_succ, List.set_cons_zero, List.set_cons_succ, List.length_cons, List.length_nil, Option.toList_some, Option.toList_none, List.cons_append, List.nil_append, Nat.zero_add, Nat.add_zero, List.map_nil, List.sum_nil, List.map_cons, List.sum_cons, Nat.zero_le, hs_set1, hro]
    refine ⟨vp_in_nI (n := 0) (N := 1) (by decide) (by decide), ?_⟩
    refine hl_segh B okL_balanceAt (fun q => nomatch q) 14 1000 rfl ?_
    simp only [pL_balanceAt, List.drop_zero, List.drop_succ_cons, hl_wp, hs_ii, hs_i1, hs_ll, hs_l1, hs_ff, hs_g1, hs_dd, hs_d1, hs_r1, hs_rv, hs_rv0, hs_n1, hs_n0, hs_v1i, hs_v1r, hs_a1, hs_d2l, hs_d2i, hs_ri, hs_rl, hs_rg, hs_rd8, hs_rr, hs_rn, hs_ov, hs_gf, hs_po, hs_pfi, hs_pfr, hs_ia, hs_la, hs_da, hs_qa, hs_al, hs_is, hs_ls, hs_ds, hs_iso, hs_lso, hs_dso, hs_rd, hs_f1, hs_f10, hs_f2, hs_f20, hs_in0, hs_in1, hs_lt, hs_le, hs_ge, hs_gt, hs_eq, hs_10, hs_00, hs_01, true_and, and_true, true_imp_iff, false_imp_iff, not_true_eq_false, not_false_eq_true, hs_av, hs_ai, hs_ar, hs_an, hs_aj, hs_ci, hs_cr, hs_cn, hs_cj, hs_cd, hs_cf, hs_q0, hs_q1, reduceIte, Nat.reduceEqDiff, Nat.reduceAdd, Nat.reduceLT, eq_self, List.getElem?_cons_zero, List.getElem?_cons_succ, List.set_cons_zero, List.set_cons_succ, List.length_cons, List.length_nil, Option.toList_some, Option.toList_none, List.cons_append, List.nil_append, Nat.zero_add, Nat.add_zero, List.map_nil, List.sum_nil, List.map_cons, List.sum_cons, Nat.zero_le, hs_set1]
    exact hl_ireth B rfl rfl (hl_dec okL_balanceAt 15 rfl) (by decide) (by decide) ⟨ca2, _, by rw [hn]; rfl, w2.refr hr _, fun _ => by rw [hv]; rfl⟩
  · obtain ⟨ca2, w2, hE1⟩ := hx
    have hm := oe_balanceAt _ hE1
    rcases List.mem_cons.mp hm with rfl | hm
    · skip
      refine hl_catch B (pre := []) (s0 := 0) (e0 := 9) (hp := 12) (ct := 20) (suf := [(0, 9, 16, 13)]) (by simp [hl_ex]) rfl (by decide) (by decide) (kk := 486) (by decide +kernel) (kc := 521) (by decide +kernel) hl_pa_n (fun q => ?_)
      refine hl_segh B okL_balanceAt (fun q => nomatch q) 8 1000 rfl ?_
      simp only [pL_balanceAt, List.drop_zero, List.drop_succ_cons, hl_wp, hs_ii, hs_i1, hs_ll, hs_l1, hs_ff, hs_g1, hs_dd, hs_d1, hs_r1, hs_rv, hs_rv0, hs_n1, hs_n0, hs_v1i, hs_v1r, hs_a1, hs_d2l, hs_d2i, hs_ri, hs_rl, hs_rg, hs_rd8, hs_rr, hs_rn, hs_ov, hs_gf, hs_po, hs_pfi, hs_pfr, hs_ia, hs_la, hs_da, hs_qa, hs_al, hs_is, hs_ls, hs_ds, hs_iso, hs_lso, hs_dso, hs_rd, hs_f1, hs_f10, hs_f2, hs_f20, hs_in0, hs_in1, hs_lt, hs_le, hs_ge, hs_gt, hs_eq, hs_10, hs_00, hs_01, true_and, and_true, true_imp_iff, false_imp_iff, not_true_eq_false, not_false_eq_true, hs_av, hs_ai, hs_ar, hs_an, hs_aj, hs_ci, hs_cr, hs_cn, hs_cj, hs_cd, hs_cf, hs_q0, hs_q1, reduceIte, Nat.reduceEqDiff, Nat.reduceAdd, Nat.reduceLT, eq_self, List.getElem?_cons_zero, List.getElem?_cons_succ, List.set_cons_zero, List.set_cons_succ, List.length_cons, List.length_nil, Option.toList_some, Option.toList_none, List.cons_append, List.nil_append, Nat.zero_add, Nat.add_zero, List.map_nil, List.sum_nil, List.map_cons, List.sum_cons, Nat.zero_le, hs_set1]
      exact hl_ireth B rfl rfl (hl_dec okL_balanceAt 10 rfl) (by decide) (by decide) ⟨ca2, f, by rw [hE1]; exact congrArg (fun z => some (Value.int z)) (by decide +kernel), by rw [hl_set_same hr]; exact w2, fun z => by rw [hE1] at z; cases z⟩
    cases List.mem_singleton.mp hm
    refine hl_catch B (pre := [(0, 9, 12, 20)]) (s0 := 0) (e0 := 9) (hp := 16) (ct := 13) (suf := []) (by simp [hl_ex]) rfl (by decide) (by decide) (kk := 375) (by decide +kernel) (kc := 387) (by decide +kernel) (hl_pa_c ⟨by decide, xIOB, by simp [hl_ex], by decide, hl_T_of (k := 486) (by decide +kernel) rfl⟩ hl_pa_n) (fun q => ?_)
    refine hl_segh B okL_balanceAt (fun q => nomatch q) 11 1000 rfl ?_
    simp only [pL_balanceAt, List.drop_zero, List.drop_succ_cons, hl_wp, hs_ii, hs_i1, hs_ll, hs_l1, hs_ff, hs_g1, hs_dd, hs_d1, hs_r1, hs_rv, hs_rv0, hs_n1, hs_n0, hs_v1i, hs_v1r, hs_a1, hs_d2l, hs_d2i, hs_ri, hs_rl, hs_rg, hs_rd8, hs_rr, hs_rn, hs_ov, hs_gf, hs_po, hs_pfi, hs_pfr, hs_ia, hs_la, hs_da, hs_qa, hs_al, hs_is, hs_ls, hs_ds, hs_iso, hs_lso, hs_dso, hs_rd, hs_f1, hs_f10, hs_f2, hs_f20, hs_in0, hs_in1, hs_lt, hs_le, hs_ge, hs_gt, hs_eq, hs_10, hs_00, hs_01, true_and, and_true, true_imp_iff, false_imp_iff, not_true_eq_false, not_false_eq_true, hs_av, hs_ai, hs_ar, hs_an, hs_aj, hs_ci, hs_cr, hs_cn, hs_cj, hs_cd, hs_cf, hs_q0, hs_q1, reduceIte, Nat.reduceEqDiff, Nat.reduceAdd, Nat.reduceLT, eq_self, List.getElem?_cons_zero, List.getElem?_cons_succ, List.set_cons_zero, List.set_cons_succ, List.length_cons, List.length_nil, Option.toList_some, Option.toList_none, List.cons_append, List.nil_append, Nat.zero_add, Nat.add_zero, List.map_nil, List.sum_nil, List.map_cons, List.sum_cons, Nat.zero_le, hs_set1]
    exact hl_ireth B rfl rfl (hl_dec okL_balanceAt 13 rfl) (by decide) (by decide) ⟨ca2, f, by rw [hE1]; exact congrArg (fun z => some (Value.int z)) (by decide +kernel), by rw [hl_set_same hr]; exact w2, fun z => by rw [hE1] at z; cases z⟩
theorem oe_houseBalance {σ : LSt} {x y : Int32} : ∀ E : String, (op_houseBalance σ x y).1 = some E → E ∈ [xIAE] := by
  intro E h
  unfold op_houseBalance at h
  rw [ls_res_1] at h
  cases er_cur_e h; simp
theorem ov_houseBalance {σ : LSt} {x y : Int32} : ∃ v9, (op_houseBalance σ x y).2.2 = .long v9 := by
  unfold op_houseBalance
  exact ⟨_, ls_res_v⟩
abbrev mL_houseBalance : hl_M := (yL_houseBalance, cL_houseBalance, 5, (some .int))
theorem mtL_houseBalance : hl_mh mL_houseBalance [(0, 9, 12, 13)] 4 := ⟨hl_T_of (k := 840) (by decide +kernel) rfl, hl_T_of (k := 48) (by decide +kernel) rfl, ⟨by decide +kernel, by decide +kernel⟩, by decide +kernel, hl_T_of (k := 839) (by decide +kernel) rfl⟩
set_option maxRecDepth 20000 in
set_option maxHeartbeats 2000000 in
theorem cw_houseBalance {G : hl_G} {l : Launch} {a ca : Nat → Nat} {σ : LSt} {x y : Int32} {h0 : hl_H} {ro : Nat} {f : Nat → Int64} (hst : l.stackTraces = false) (hI : LInv0 σ) (hr : h0 ro = some (.inl (1, .inr (.inl f)))) :
    hl_Ch G l mL_houseBalance [(0, 9, 12, 13)] 7 12 90 [.ref (a 0), .int x, .int y, .ref ro] (LSw a ca σ h0) (lw_Q a h0 ro [xIAE] (op_houseBalance σ x y)) (fun _ _ => False) := by
  refine hl_bodyh (by decide +kernel) (Nat.le_of_ble_eq_true rfl) ?_
  intro p e s m args below meth c B g hg
  refine hl_segh B okL_houseBalance (fun q => nomatch q) 0 1000 rfl ?_
  simp only [pL_houseBalance, List.drop_zero, List.drop_succ_cons, hl_wp, hs_ii, hs_i1, hs_ll, hs_l1, hs_ff, hs_g1, hs_dd, hs_d1, hs_r1, hs_rv, hs_rv0, hs_n1, hs_n0, hs_v1i, hs_v1r, hs_a1, hs_d2l, hs_d2i, hs_ri, hs_rl, hs_rg, hs_rd8, hs_rr, hs_rn, hs_ov, hs_gf, hs_po, hs_pfi, hs_pfr, hs_ia, hs_la, hs_da, hs_qa, hs_al, hs_is, hs_ls, hs_ds, hs_iso, hs_lso, hs_dso, hs_rd, hs_f1, hs_f10, hs_f2, hs_f20, hs_in0, hs_in1, hs_lt, hs_le, hs_ge, hs_gt, hs_eq, hs_10, hs_00, hs_01, true_and, and_true, true_imp_iff, false_imp_iff, not_true_eq_false, not_false_eq_true, hs_av, hs_ai, hs_ar, hs_an, hs_aj, hs_ci, hs_cr, hs_cn, hs_cj, hs_cd, hs_cf, hs_q0, hs_q1, reduceIte, Nat.reduceEqDiff, Nat.reduceAdd, Nat.reduceLT, eq_self, List.getElem?_cons_zero, List.getElem?_cons_succ, List.set_cons_zero, List.set_cons_succ, List.length_cons, List.length_nil, Option.toList_some, Option.toList_none, List.cons_append, List.nil_append, Nat.zero_add, Nat.add_zero, List.map_nil, List.sum_nil, List.map_cons, List.sum_cons, Nat.zero_le, hs_set1]
  refine hl_callVh B (As := [.int _, .int _]) (cm_houseBalance hst hI) mtX7_houseBalance (hl_dec okL_houseBalance 5 rfl) (kk := 841) (by decide +kernel) rfl rfl (hg.1.f0) rfl (Nat.le_of_ble_eq_true rfl) (by decide) (by decide) (by decide) (by decide) hg (fun r9 h9 hq => ?_) (fun E h9 hx => ?_)
  · obtain ⟨ca2, rfl, w2, hn⟩ := hq
    have hro : h9 ro = some (.inl (1, .inr (.inl f))) := w2.2.2.2.2.2.2 ro _ hr
    obtain ⟨v9, hv⟩ := ov_houseBalance (σ := σ) (x := x) (y := y)
    rw [hv]
    refine hl_segh B okL_houseBalance (fun q => nomatch q) 6 1000 rfl ?_
    simp only [pL_houseBalance, List.drop_zero, List.drop_succ_cons, hl_wp, hs_ii, hs_i1, hs_ll, hs_l1, hs_ff, hs_g1, hs_dd, hs_d1, hs_r1, hs_rv, hs_rv0, hs_n1, hs_n0, hs_v1i, hs_v1r, hs_a1, hs_d2l, hs_d2i, hs_ri, hs_rl, hs_rg, hs_rd8, hs_rr, hs_rn, hs_ov, hs_gf, hs_po, hs_pfi, hs_pfr, hs_ia, hs_la, hs_da, hs_qa, hs_al, hs_is, hs_ls, hs_ds, hs_iso, hs_lso, hs_dso, hs_rd, hs_f1, hs_f10, hs_f2, hs_f20, hs_in0, hs_in1, hs_lt, hs_le, hs_ge, hs_gt, hs_eq, hs_10, hs_00, hs_01, true_and, and_true, true_imp_iff, false_imp_iff, not_true_eq_false, not_false_eq_true, hs_av, hs_ai, hs_ar, hs_an, hs_aj, hs_ci, hs_cr, hs_cn, hs_cj, hs_cd, hs_cf, hs_q0, hs_q1, reduceIte, Nat.reduceEqDiff, Nat.reduceAdd, Nat.reduceLT, eq_self, List.getElem?_cons_zero, List.getElem?_cons_succ, List.set_cons_zero, List.set_cons_succ, List.length_cons, List.length_nil, Option.toList_some, Option.toList_none, List.cons_append, List.nil_append, Nat.zero_add, Nat.add_zero, List.map_nil, List.sum_nil, List.map_cons, List.sum_cons, Nat.zero_le, hs_set1, hro]
    refine ⟨vp_in_nI (n := 0) (N := 1) (by decide) (by decide), ?_⟩
    refine hl_segh B okL_houseBalance (fun q => nomatch q) 11 1000 rfl ?_
    simp only [pL_houseBalance, List.drop_zero, List.drop_succ_cons, hl_wp, hs_ii, hs_i1, hs_ll, hs_l1, hs_ff, hs_g1, hs_dd, hs_d1, hs_r1, hs_rv, hs_rv0, hs_n1, hs_n0, hs_v1i, hs_v1r, hs_a1, hs_d2l, hs_d2i, hs_ri, hs_rl, hs_rg, hs_rd8, hs_rr, hs_rn, hs_ov, hs_gf, hs_po, hs_pfi, hs_pfr, hs_ia, hs_la, hs_da, hs_qa, hs_al, hs_is, hs_ls, hs_ds, hs_iso, hs_lso, hs_dso, hs_rd, hs_f1, hs_f10, hs_f2, hs_f20, hs_in0, hs_in1, hs_lt, hs_le, hs_ge, hs_gt, hs_eq, hs_10, hs_00, hs_01, true_and, and_true, true_imp_iff, false_imp_iff, not_true_eq_false, not_false_eq_true, hs_av, hs_ai, hs_ar, hs_an, hs_aj, hs_ci, hs_cr, hs_cn, hs_cj, hs_cd, hs_cf, hs_q0, hs_q1, reduceIte, Nat.reduceEqDiff, Nat.reduceAdd, Nat.reduceLT, eq_self, List.getElem?_cons_zero, List.getElem?_cons_succ, List.set_cons_zero, List.set_cons_succ, List.length_cons, List.length_nil, Option.toList_some, Option.toList_none, List.cons_append, List.nil_append, Nat.zero_add, Nat.add_zero, List.map_nil, List.sum_nil, List.map_cons, List.sum_cons, Nat.zero_le, hs_set1]
    exact hl_ireth B rfl rfl (hl_dec okL_houseBalance 12 rfl) (by decide) (by decide) ⟨ca2, _, by rw [hn]; rfl, w2.refr hr _, fun _ => by rw [hv]; rfl⟩
  · obtain ⟨ca2, w2, hE1⟩ := hx
    have hm := oe_houseBalance _ hE1
    cases List.mem_singleton.mp hm
    refine hl_catch B (pre := []) (s0 := 0) (e0 := 9) (hp := 12) (ct := 13) (suf := []) (by simp [hl_ex]) rfl (by decide) (by decide) (kk := 375) (by decide +kernel) (kc := 387) (by decide +kernel) hl_pa_n (fun q => ?_)
    refine hl_segh B okL_houseBalance (fun q => nomatch q) 8 1000 rfl ?_
    simp only [pL_houseBalance, List.drop_zero, List.drop_succ_cons, hl_wp, hs_ii, hs_i1, hs_ll, hs_l1, hs_ff, hs_g1, hs_dd, hs_d1, hs_r1, hs_rv, hs_rv0, hs_n1, hs_n0, hs_v1i, hs_v1r, hs_a1, hs_d2l, hs_d2i, hs_ri, hs_rl, hs_rg, hs_rd8, hs_rr, hs_rn, hs_ov, hs_gf, hs_po, hs_pfi, hs_pfr, hs_ia, hs_la, hs_da, hs_qa, hs_al, hs_is, hs_ls, hs_ds, hs_iso, hs_lso, hs_dso, hs_rd, hs_f1, hs_f10, hs_f2, hs_f20, hs_in0, hs_in1, hs_lt, hs_le, hs_ge, hs_gt, hs_eq, hs_10, hs_00, hs_01, true_and, and_true, true_imp_iff, false_imp_iff, not_true_eq_false, not_false_eq_true, hs_av, hs_ai, hs_ar, hs_an, hs_aj, hs_ci, hs_cr, hs_cn, hs_cj, hs_cd, hs_cf, hs_q0, hs_q1, reduceIte, Nat.reduceEqDiff, Nat.reduceAdd, Nat.reduceLT, eq_self, List.getElem?_cons_zero, List.getElem?_cons_succ, List.set_cons_zero, List.set_cons_succ, List.length_cons, List.length_nil, Option.toList_some, Option.toList_none, List.cons_append, List.nil_append, Nat.zero_add, Nat.add_zero, List.map_nil, List.sum_nil, List.map_cons, List.sum_cons, Nat.zero_le, hs_set1]
    exact hl_ireth B rfl rfl (hl_dec okL_houseBalance 10 rfl) (by decide) (by decide) ⟨ca2, f, by rw [hE1]; exact congrArg (fun z => some (Value.int z)) (by decide +kernel), by rw [hl_set_same hr]; exact w2, fun z => by rw [hE1] at z; cases z⟩
theorem oe_worth {σ : LSt} {x : Int32} : ∀ E : String, (op_worth σ x).1 = some E → E ∈ [xIOB] := by
  intro E h
  unfold op_worth at h
  rw [ls_res_1] at h
  cases er_acc_e h; simp
theorem ov_worth {σ : LSt} {x : Int32} : ∃ v9, (op_worth σ x).2.2 = .long v9 := by
  unfold op_worth
  exact ⟨_, ls_res_v⟩
abbrev mL_worth : hl_M := (yL_worth, cL_worth, 4, (some .int))
theorem mtL_worth : hl_mh mL_worth [(0, 8, 11, 20)] 3 := ⟨hl_T_of (k := 847) (by decide +kernel) rfl, hl_T_of (k := 48) (by decide +kernel) rfl, ⟨by decide +kernel, by decide +kernel⟩, by decide +kernel, hl_T_of (k := 846) (by decide +kernel) rfl⟩
set_option maxRecDepth 20000 in
set_option maxHeartbeats 2000000 in
theorem cw_worth {G : hl_G} {l : Launch} {a ca : Nat → Nat} {σ : LSt} {x : Int32} {h0 : hl_H} {ro : Nat} {f : Nat → Int64} (hst : l.stackTraces = false) (hI : LInv0 σ) (hr : h0 ro = some (.inl (1, .inr (.inl f)))) :
    hl_Ch G l mL_worth [(0, 8, 11, 20)] 7 12 90 [.ref (a 0), .int x, .ref ro] (LSw a ca σ h0) (lw_Q a h0 ro [xIOB] (op_worth σ x)) (fun _ _ => False) := by
  refine hl_bodyh (by decide +kernel) (Nat.le_of_ble_eq_true rfl) ?_
  intro p e s m args below meth c B g hg
  refine hl_segh B okL_worth (fun q => nomatch q) 0 1000 rfl ?_
  simp only [pL_worth, List.drop_zero, List.drop_succ_cons, hl_wp, hs_ii, hs_i1, hs_ll, hs_l1, hs_ff, hs_g1, hs_dd, hs_d1, hs_r1, hs_rv, hs_rv0, hs_n1, hs_n0, hs_v1i, hs_v1r, hs_a1, hs_d2l, hs_d2i, hs_ri, hs_rl, hs_rg, hs_rd8, hs_rr, hs_rn, hs_ov, hs_gf, hs_po, hs_pfi, hs_pfr, hs_ia, hs_la, hs_da, hs_qa, hs_al, hs_is, hs_ls, hs_ds, hs_iso, hs_lso, hs_dso, hs_rd, hs_f1, hs_f10, hs_f2, hs_f20, hs_in0, hs_in1, hs_lt, hs_le, hs_ge, hs_gt, hs_eq, hs_10, hs_00, hs_01, true_and, and_true, true_imp_iff, false_imp_iff, not_true_eq_false, not_false_eq_true, hs_av, hs_ai, hs_ar, hs_an, hs_aj, hs_ci, hs_cr, hs_cn, hs_cj, hs_cd, hs_cf, hs_q0, hs_q1, reduceIte, Nat.reduceEqDiff, Nat.reduceAdd, Nat.reduceLT, eq_self, List.getElem?_cons_zero, List.getElem?_cons_succ, List.set_cons_zero, List.set_cons_succ, List.length_cons, List.length_nil, Option.toList_some, Option.toList_none, List.cons_append, List.nil_append, Nat.zero_add, Nat.add_zero, List.map_nil, List.sum_nil, List.map_cons, List.sum_cons, Nat.zero_le, hs_set1]
  refine hl_callVh B (As := [.int _]) (cm_worth hst hI) mtX7_worth (hl_dec okL_worth 4 rfl) (kk := 848) (by decide +kernel) rfl rfl (hg.1.f0) rfl (Nat.le_of_ble_eq_true rfl) (by decide) (by decide) (by decide) (by decide) hg (fun r9 h9 hq => ?_) (fun E h9 hx => ?_)
  · obtain ⟨ca2, rfl, w2, hn⟩ := hq
    have hro : h9 ro = some (.inl (1, .inr (.inl f))) := w2.2.2.2.2.2.2 ro _ hr
    obtain ⟨v9, hv⟩ := ov_worth (σ := σ) (x := x)
    rw [hv]
    refine hl_segh B okL_worth (fun q => nomatch q) 5 1000 rfl ?_
    simp only [pL_worth, List.drop_zero, List.drop_succ_cons, hl_wp, hs_ii, hs_i1, hs_ll, hs_l1, hs_ff, hs_g1, hs_dd, hs_d1, hs_r1, hs_rv, hs_rv0, hs_n1, hs_n0, hs_v1i, hs_v1r, hs_a1, hs_d2l, hs_d2i, hs_ri, hs_rl, hs_rg, hs_rd8, hs_rr, hs_rn, hs_ov, hs_gf, hs_po, hs_pfi, hs_pfr, hs_ia, hs_la, hs_da, hs_qa, hs_al, hs_is, hs_ls, hs_ds, hs_iso, hs_lso, hs_dso, hs_rd, hs_f1, hs_f10, hs_f2, hs_f20, hs_in0, hs_in1, hs_lt, hs_le, hs_ge, hs_gt, hs_eq, hs_10, hs_00, hs_01, true_and, and_true, true_imp_iff, false_imp_iff, not_true_eq_false, not_false_eq_true, hs_av, hs_ai, hs_ar, hs_an, hs_aj, hs_ci, hs_cr, hs_cn, hs_cj, hs_cd, hs_cf, hs_q0, hs_q1, reduceIte, Nat.reduceEqDiff, Nat.reduceAdd, Nat.reduceLT, eq_self, List.getElem?_cons_zero, List.getElem?_cons_succ, List.set_cons_zero, List.set_cons_succ, List.length_cons, List.length_nil, Option.toList_some, Option.toList_none, List.cons_append, List.nil_append, Nat.zero_add, Nat.add_zero, List.map_nil, List.sum_nil, List.map_cons, List.sum_cons, Nat.zero_le, hs_set1, hro]
    refine ⟨vp_in_nI (n := 0) (N := 1) (by decide) (by decide), ?_⟩
    refine hl_segh B okL_worth (fun q => nomatch q) 10 1000 rfl ?_
    simp only [pL_worth, List.drop_zero, List.drop_succ_cons, hl_wp, hs_ii, hs_i1, hs_ll, hs_l1, hs_ff, hs_g1, hs_dd, hs_d1, hs_r1, hs_rv, hs_rv0, hs_n1, hs_n0, hs_v1i, hs_v1r, hs_a1, hs_d2l, hs_d2i, hs_ri, hs_rl, hs_rg, hs_rd8, hs_rr, hs_rn, hs_ov, hs_gf, hs_po, hs_pfi, hs_pfr, hs_ia, hs_la, hs_da, hs_qa, hs_al, hs_is, hs_ls, hs_ds, hs_iso, hs_lso, hs_dso, hs_rd, hs_f1, hs_f10, hs_f2, hs_f20, hs_in0, hs_in1, hs_lt, hs_le, hs_ge, hs_gt, hs_eq, hs_10, hs_00, hs_01, true_and, and_true, true_imp_iff, false_imp_iff, not_true_eq_false, not_false_eq_true, hs_av, hs_ai, hs_ar, hs_an, hs_aj, hs_ci, hs_cr, hs_cn, hs_cj, hs_cd, hs_cf, hs_q0, hs_q1, reduceIte, Nat.reduceEqDiff, Nat.reduceAdd, Nat.reduceLT, eq_self, List.getElem?_cons_zero, List.getElem?_cons_succ, List.set_cons_zero, List.set_cons_succ, List.length_cons, List.length_nil, Option.toList_some, Option.toList_none, List.cons_append, List.nil_append, Nat.zero_add, Nat.add_zero, List.map_nil, List.sum_nil, List.map_cons, List.sum_cons, Nat.zero_le, hs_set1]
    exact hl_ireth B rfl rfl (hl_dec okL_worth 11 rfl) (by decide) (by decide) ⟨ca2, _, by rw [hn]; rfl, w2.refr hr _, fun _ => by rw [hv]; rfl⟩
  · obtain ⟨ca2, w2, hE1⟩ := hx
    have hm := oe_worth _ hE1
    cases List.mem_singleton.mp hm
    refine hl_catch B (pre := []) (s0 := 0) (e0 := 8) (hp := 11) (ct := 20) (suf := []) (by simp [hl_ex]) rfl (by decide) (by decide) (kk := 486) (by decide +kernel) (kc := 521) (by decide +kernel) hl_pa_n (fun q => ?_)
    refine hl_segh B okL_worth (fun q => nomatch q) 7 1000 rfl ?_
    simp only [pL_worth, List.drop_zero, List.drop_succ_cons, hl_wp, hs_ii, hs_i1, hs_ll, hs_l1, hs_ff, hs_g1, hs_dd, hs_d1, hs_r1, hs_rv, hs_rv0, hs_n1, hs_n0, hs_v1i, hs_v1r, hs_a1, hs_d2l, hs_d2i, hs_ri, hs_rl, hs_rg, hs_rd8, hs_rr, hs_rn, hs_ov, hs_gf, hs_po, hs_pfi, hs_pfr, hs_ia, hs_la, hs_da, hs_qa, hs_al, hs_is, hs_ls, hs_ds, hs_iso, hs_lso, hs_dso, hs_rd, hs_f1, hs_f10, hs_f2, hs_f20, hs_in0, hs_in1, hs_lt, hs_le, hs_ge, hs_gt, hs_eq, hs_10, hs_00, hs_01, true_and, and_true, true_imp_iff, false_imp_iff, not_true_eq_false, not_false_eq_true, hs_av, hs_ai, hs_ar, hs_an, hs_aj, hs_ci, hs_cr, hs_cn, hs_cj, hs_cd, hs_cf, hs_q0, hs_q1, reduceIte, Nat.reduceEqDiff, Nat.reduceAdd, Nat.reduceLT, eq_self, List.getElem?_cons_zero, List.getElem?_cons_succ, List.set_cons_zero, List.set_cons_succ, List.length_cons, List.length_nil, Option.toList_some, Option.toList_none, List.cons_append, List.nil_append, Nat.zero_add, Nat.add_zero, List.map_nil, List.sum_nil, List.map_cons, List.sum_cons, Nat.zero_le, hs_set1]
    exact hl_ireth B rfl rfl (hl_dec okL_worth 9 rfl) (by decide) (by decide) ⟨ca2, f, by rw [hE1]; exact congrArg (fun z => some (Value.int z)) (by decide +kernel), by rw [hl_set_same hr]; exact w2, fun z => by rw [hE1] at z; cases z⟩
theorem oe_kindOf {σ : LSt} {x : Int32} : ∀ E : String, (op_kindOf σ x).1 = some E → E ∈ [xIOB] := by
  intro E h
  unfold op_kindOf at h
  rw [ls_res_1] at h
  cases er_tra_e h; simp
theorem ov_kindOf {σ : LSt} {x : Int32} : ∃ v9, (op_kindOf σ x).2.2 = .int v9 := by
  unfold op_kindOf
  exact ⟨_, ls_res_v⟩
abbrev mL_kindOf : hl_M := (yL_kindOf, cL_kindOf, 4, (some .int))
theorem mtL_kindOf : hl_mh mL_kindOf [(0, 9, 12, 20)] 3 := ⟨hl_T_of (k := 854) (by decide +kernel) rfl, hl_T_of (k := 48) (by decide +kernel) rfl, ⟨by decide +kernel, by decide +kernel⟩, by decide +kernel, hl_T_of (k := 853) (by decide +kernel) rfl⟩
set_option maxRecDepth 20000 in
set_option maxHeartbeats 2000000 in
theorem cw_kindOf {G : hl_G} {l : Launch} {a ca : Nat → Nat} {σ : LSt} {x : Int32} {h0 : hl_H} {ro : Nat} {f : Nat → Int64} (hst : l.stackTraces = false) (hI : LInv0 σ) (hr : h0 ro = some (.inl (1, .inr (.inl f)))) :
    hl_Ch G l mL_kindOf [(0, 9, 12, 20)] 7 12 90 [.ref (a 0), .int x, .ref ro] (LSw a ca σ h0) (lw_Q a h0 ro [xIOB] (op_kindOf σ x)) (fun _ _ => False) := by
  refine hl_bodyh (by decide +kernel) (Nat.le_of_ble_eq_true rfl) ?_
  intro p e s m args below meth c B g hg
  refine hl_segh B okL_kindOf (fun q => nomatch q) 0 1000 rfl ?_
  simp only [pL_kindOf, List.drop_zero, List.drop_succ_cons, hl_wp, hs_ii, hs_i1, hs_ll, hs_l1, hs_ff, hs_g1, hs_dd, hs_d1, hs_r1, hs_rv, hs_rv0, hs_n1, hs_n0, hs_v1i, hs_v1r, hs_a1, hs_d2l, hs_d2i, hs_ri, hs_rl, hs_rg, hs_rd8, hs_rr, hs_rn, hs_ov, hs_gf, hs_po, hs_pfi, hs_pfr, hs_ia, hs_la, hs_da, hs_qa, hs_al, hs_is, hs_ls, hs_ds, hs_iso, hs_lso, hs_dso, hs_rd, hs_f1, hs_f10, hs_f2, hs_f20, hs_in0, hs_in1, hs_lt, hs_le, hs_ge, hs_gt, hs_eq, hs_10, hs_00, hs_01, true_and, and_true, true_imp_iff, false_imp_iff, not_true_eq_false, not_false_eq_true, hs_av, hs_ai, hs_ar, hs_an, hs_aj, hs_ci, hs_cr, hs_cn, hs_cj, hs_cd, hs_cf, hs_q0, hs_q1, reduceIte, Nat.reduceEqDiff, Nat.reduceAdd, Nat.reduceLT, eq_self, List.getElem?_cons_zero, List.getElem?_cons_succ, List.set_cons_zero, List.set_cons_succ, List.length_cons, List.length_nil, Option.toList_some, Option.toList_none, List.cons_append, List.nil_append, Nat.zero_add, Nat.add_zero, List.map_nil, List.sum_nil, List.map_cons, List.sum_cons, Nat.zero_le, hs_set1]
  refine hl_callVh B (As := [.int _]) (cm_kindOf hst hI) mtX7_kindOf (hl_dec okL_kindOf 4 rfl) (kk := 855) (by decide +kernel) rfl rfl (hg.1.f0) rfl (Nat.le_of_ble_eq_true rfl) (by decide) (by decide) (by decide) (by decide) hg (fun r9 h9 hq => ?_) (fun E h9 hx => ?_)
  · obtain ⟨ca2, rfl, w2, hn⟩ := hq
    have hro : h9 ro = some (.inl (1, .inr (.inl f))) := w2.2.2.2.2.2.2 ro _ hr
    obtain ⟨v9, hv⟩ := ov_kindOf (σ := σ) (x := x)
    rw [hv]
    refine hl_segh B okL_kindOf (fun q => nomatch q) 5 1000 rfl ?_
    simp only [pL_kindOf, List.drop_zero, List.drop_succ_cons, hl_wp, hs_ii, hs_i1, hs_ll, hs_l1, hs_ff, hs_g1, hs_dd, hs_d1, hs_r1, hs_rv, hs_rv0, hs_n1, hs_n0, hs_v1i, hs_v1r, hs_a1, hs_d2l, hs_d2i, hs_ri, hs_rl, hs_rg, hs_rd8, hs_rr, hs_rn, hs_ov, hs_gf, hs_po, hs_pfi, hs_pfr, hs_ia, hs_la, hs_da, hs_qa, hs_al, hs_is, hs_ls, hs_ds, hs_iso, hs_lso, hs_dso, hs_rd, hs_f1, hs_f10, hs_f2, hs_f20, hs_in0, hs_in1, hs_lt, hs_le, hs_ge, hs_gt, hs_eq, hs_10, hs_00, hs_01, true_and, and_true, true_imp_iff, false_imp_iff, not_true_eq_false, not_false_eq_true, hs_av, hs_ai, hs_ar, hs_an, hs_aj, hs_ci, hs_cr, hs_cn, hs_cj, hs_cd, hs_cf, hs_q0, hs_q1, reduceIte, Nat.reduceEqDiff, Nat.reduceAdd, Nat.reduceLT, eq_self, List.getElem?_cons_zero, List.getElem?_cons_succ, List.set_cons_zero, List.set_cons_succ, List.length_cons, List.length_nil, Option.toList_some, Option.toList_none, List.cons_append, List.nil_append, Nat.zero_add, Nat.add_zero, List.map_nil, List.sum_nil, List.map_cons, List.sum_cons, Nat.zero_le, hs_set1, hro]
    refine ⟨vp_in_nI (n := 0) (N := 1) (by decide) (by decide), ?_⟩
    refine hl_segh B okL_kindOf (fun q => nomatch q) 11 1000 rfl ?_
    simp only [pL_kindOf, List.drop_zero, List.drop_succ_cons, hl_wp, hs_ii, hs_i1, hs_ll, hs_l1, hs_ff, hs_g1, hs_dd, hs_d1, hs_r1, hs_rv, hs_rv0, hs_n1, hs_n0, hs_v1i, hs_v1r, hs_a1, hs_d2l, hs_d2i, hs_ri, hs_rl, hs_rg, hs_rd8, hs_rr, hs_rn, hs_ov, hs_gf, hs_po, hs_pfi, hs_pfr, hs_ia, hs_la, hs_da, hs_qa, hs_al, hs_is, hs_ls, hs_ds, hs_iso, hs_lso, hs_dso, hs_rd, hs_f1, hs_f10, hs_f2, hs_f20, hs_in0, hs_in1, hs_lt, hs_le, hs_ge, hs_gt, hs_eq, hs_10, hs_00, hs_01, true_and, and_true, true_imp_iff, false_imp_iff, not_true_eq_false, not_false_eq_true, hs_av, hs_ai, hs_ar, hs_an, hs_aj, hs_ci, hs_cr, hs_cn, hs_cj, hs_cd, hs_cf, hs_q0, hs_q1, reduceIte, Nat.reduceEqDiff, Nat.reduceAdd, Nat.reduceLT, eq_self, List.getElem?_cons_zero, List.getElem?_cons_succ, List.set_cons_zero, List.set_cons_succ, List.length_cons, List.length_nil, Option.toList_some, Option.toList_none, List.cons_append, List.nil_append, Nat.zero_add, Nat.add_zero, List.map_nil, List.sum_nil, List.map_cons, List.sum_cons, Nat.zero_le, hs_set1]
    exact hl_ireth B rfl rfl (hl_dec okL_kindOf 12 rfl) (by decide) (by decide) ⟨ca2, _, by rw [hn]; rfl, w2.refr hr _, fun _ => by rw [hv]; rfl⟩
  · obtain ⟨ca2, w2, hE1⟩ := hx
    have hm := oe_kindOf _ hE1
    cases List.mem_singleton.mp hm
    refine hl_catch B (pre := []) (s0 := 0) (e0 := 9) (hp := 12) (ct := 20) (suf := []) (by simp [hl_ex]) rfl (by decide) (by decide) (kk := 486) (by decide +kernel) (kc := 521) (by decide +kernel) hl_pa_n (fun q => ?_)
    refine hl_segh B okL_kindOf (fun q => nomatch q) 8 1000 rfl ?_
    simp only [pL_kindOf, List.drop_zero, List.drop_succ_cons, hl_wp, hs_ii, hs_i1, hs_ll, hs_l1, hs_ff, hs_g1, hs_dd, hs_d1, hs_r1, hs_rv, hs_rv0, hs_n1, hs_n0, hs_v1i, hs_v1r, hs_a1, hs_d2l, hs_d2i, hs_ri, hs_rl, hs_rg, hs_rd8, hs_rr, hs_rn, hs_ov, hs_gf, hs_po, hs_pfi, hs_pfr, hs_ia, hs_la, hs_da, hs_qa, hs_al, hs_is, hs_ls, hs_ds, hs_iso, hs_lso, hs_dso, hs_rd, hs_f1, hs_f10, hs_f2, hs_f20, hs_in0, hs_in1, hs_lt, hs_le, hs_ge, hs_gt, hs_eq, hs_10, hs_00, hs_01, true_and, and_true, true_imp_iff, false_imp_iff, not_true_eq_false, not_false_eq_true, hs_av, hs_ai, hs_ar, hs_an, hs_aj, hs_ci, hs_cr, hs_cn, hs_cj, hs_cd, hs_cf, hs_q0, hs_q1, reduceIte, Nat.reduceEqDiff, Nat.reduceAdd, Nat.reduceLT, eq_self, List.getElem?_cons_zero, List.getElem?_cons_succ, List.set_cons_zero, List.set_cons_succ, List.length_cons, List.length_nil, Option.toList_some, Option.toList_none, List.cons_append, List.nil_append, Nat.zero_add, Nat.add_zero, List.map_nil, List.sum_nil, List.map_cons, List.sum_cons, Nat.zero_le, hs_set1]
    exact hl_ireth B rfl rfl (hl_dec okL_kindOf 10 rfl) (by decide) (by decide) ⟨ca2, f, by rw [hE1]; exact congrArg (fun z => some (Value.int z)) (by decide +kernel), by rw [hl_set_same hr]; exact w2, fun z => by rw [hE1] at z; cases z⟩
theorem oe_payerOf {σ : LSt} {x : Int32} : ∀ E : String, (op_payerOf σ x).1 = some E → E ∈ [xIOB, xNSE] := by
  intro E h
  unfold op_payerOf at h
  rw [ls_res_1] at h
  rcases ls_or_e h with h | h
  · cases er_tra_e h; simp
  (repeat' split at h) <;> first | (cases h; done) | (cases h; simp; done) | (cases er_spe_e h; simp)
theorem ov_payerOf {σ : LSt} {x : Int32} : ∃ v9, (op_payerOf σ x).2.2 = .int v9 := by
  unfold op_payerOf
  exact ⟨_, ls_res_v⟩
abbrev mL_payerOf : hl_M := (yL_payerOf, cL_payerOf, 4, (some .int))
theorem mtL_payerOf : hl_mh mL_payerOf [(0, 9, 12, 20), (0, 9, 15, 45)] 3 := ⟨hl_T_of (k := 861) (by decide +kernel) rfl, hl_T_of (k := 48) (by decide +kernel) rfl, ⟨by decide +kernel, by decide +kernel⟩, by decide +kernel, hl_T_of (k := 860) (by decide +kernel) rfl⟩
set_option maxRecDepth 20000 in
set_option maxHeartbeats 2000000 in
theorem cw_payerOf {G : hl_G} {l : Launch} {a ca : Nat → Nat} {σ : LSt} {x : Int32} {h0 : hl_H} {ro : Nat} {f : Nat → Int64} (hst : l.stackTraces = false) (hI : LInv0 σ) (hr : h0 ro = some (.inl (1, .inr (.inl f)))) :
    hl_Ch G l mL_payerOf [(0, 9, 12, 20), (0, 9, 15, 45)] 7 12 90 [.ref (a 0), .int x, .ref ro] (LSw a ca σ h0) (lw_Q a h0 ro [xIOB, xNSE] (op_payerOf σ x)) (fun _ _ => False) := by
  refine hl_bodyh (by decide +kernel) (Nat.le_of_ble_eq_true rfl) ?_
  intro p e s m args below meth c B g hg
  refine hl_segh B okL_payerOf (fun q => nomatch q) 0 1000 rfl ?_
  simp only [pL_payerOf, List.drop_zero, List.drop_succ_cons, hl_wp, hs_ii, hs_i1, hs_ll, hs_l1, hs_ff, hs_g1, hs_dd, hs_d1, hs_r1, hs_rv, hs_rv0, hs_n1, hs_n0, hs_v1i, hs_v1r, hs_a1, hs_d2l, hs_d2i, hs_ri, hs_rl, hs_rg, hs_rd8, hs_rr, hs_rn, hs_ov, hs_gf, hs_po, hs_pfi, hs_pfr, hs_ia, hs_la, hs_da, hs_qa, hs_al, hs_is, hs_ls, hs_ds, hs_iso, hs_lso, hs_dso, hs_rd, hs_f1, hs_f10, hs_f2, hs_f20, hs_in0, hs_in1, hs_lt, hs_le, hs_ge, hs_gt, hs_eq, hs_10, hs_00, hs_01, true_and, and_true, true_imp_iff, false_imp_iff, not_true_eq_false, not_false_eq_true, hs_av, hs_ai, hs_ar, hs_an, hs_aj, hs_ci, hs_cr, hs_cn, hs_cj, hs_cd, hs_cf, hs_q0, hs_q1, reduceIte, Nat.reduceEqDiff, Nat.reduceAdd, Nat.reduceLT, eq_self, List.getElem?_cons_zero, List.getElem?_cons_succ, List.set_cons_zero, List.set_cons_succ, List.length_cons, List.length_nil, Option.toList_some, Option.toList_none, List.cons_append, List.nil_append, Nat.zero_add, Nat.add_zero, List.map_nil, List.sum_nil, List.map_cons, List.sum_cons, Nat.zero_le, hs_set1]
  refine hl_callVh B (As := [.int _]) (cm_payerOf hst hI) mtX7_payerOf (hl_dec okL_payerOf 4 rfl) (kk := 862) (by decide +kernel) rfl rfl (hg.1.f0) rfl (Nat.le_of_ble_eq_true rfl) (by decide) (by decide) (by decide) (by decide) hg (fun r9 h9 hq => ?_) (fun E h9 hx => ?_)
  · obtain ⟨ca2, rfl, w2, hn⟩ := hq
    have hro : h9 ro = some (.inl (1, .inr (.inl f))) := w2.2.2.2.2.2.2 ro _ hr
    obtain ⟨v9, hv⟩ := ov_payerOf (σ := σ) (x := x)
    rw [hv]
    refine hl_segh B okL_payerOf (fun q => nomatch q) 5 1000 rfl ?_
    simp only [pL_payerOf, List.drop_zero, List.drop_succ_cons, hl_wp, hs_ii, hs_i1, hs_ll, hs_l1, hs_ff, hs_g1, hs_dd, hs_d1, hs_r1, hs_rv, hs_rv0, hs_n1, hs_n0, hs_v1i, hs_v1r, hs_a1, hs_d2l, hs_d2i, hs_ri, hs_rl, hs_rg, hs_rd8, hs_rr, hs_rn, hs_ov, hs_gf, hs_po, hs_pfi, hs_pfr, hs_ia, hs_la, hs_da, hs_qa, hs_al, hs_is, hs_ls, hs_ds, hs_iso, hs_lso, hs_dso, hs_rd, hs_f1, hs_f10, hs_f2, hs_f20, hs_in0, hs_in1, hs_lt, hs_le, hs_ge, hs_gt, hs_eq, hs_10, hs_00, hs_01, true_and, and_true, true_imp_iff, false_imp_iff, not_true_eq_false, not_false_eq_true, hs_av, hs_ai, hs_ar, hs_an, hs_aj, hs_ci, hs_cr, hs_cn, hs_cj, hs_cd, hs_cf, hs_q0, hs_q1, reduceIte, Nat.reduceEqDiff, Nat.reduceAdd, Nat.reduceLT, eq_self, List.getElem?_cons_zero, List.getElem?_cons_succ, List.set_cons_zero, List.set_cons_succ, List.length_cons, List.length_nil, Option.toList_some, Option.toList_none, List.cons_append, List.nil_append, Nat.zero_add, Nat.add_zero, List.map_nil, List.sum_nil, List.map_cons, List.sum_cons, Nat.zero_le, hs_set1, hro]
    refine ⟨vp_in_nI (n := 0) (N := 1) (by decide) (by decide), ?_⟩
    refine hl_segh B okL_payerOf (fun q => nomatch q) 14 1000 rfl ?_
    simp only [pL_payerOf, List.drop_zero, List.drop_succ_cons, hl_wp, hs_ii, hs_i1, hs_ll, hs_l1, hs_ff, hs_g1, hs_dd, hs_d1, hs_r1, hs_rv, hs_rv0, hs_n1, hs_n0, hs_v1i, hs_v1r, hs_a1, hs_d2l, hs_d2i, hs_ri, hs_rl, hs_rg, hs_rd8, hs_rr, hs_rn, hs_ov, hs_gf, hs_po, hs_pfi, hs_pfr, hs_ia, hs_la, hs_da, hs_qa, hs_al, hs_is, hs_ls, hs_ds, hs_iso, hs_lso, hs_dso, hs_rd, hs_f1, hs_f10, hs_f2, hs_f20, hs_in0, hs_in1, hs_lt, hs_le, hs_ge, hs_gt, hs_eq, hs_10, hs_00, hs_01, true_and, and_true, true_imp_iff, false_imp_iff, not_true_eq_false, not_false_eq_true, hs_av, hs_ai, hs_ar, hs_an, hs_aj, hs_ci, hs_cr, hs_cn, hs_cj, hs_cd, hs_cf, hs_q0, hs_q1, reduceIte, Nat.reduceEqDiff, Nat.reduceAdd, Nat.reduceLT, eq_self, List.getElem?_cons_zero, List.getElem?_cons_succ, List.set_cons_zero, List.set_cons_succ, List.length_cons, List.length_nil, Option.toList_some, Option.toList_none, List.cons_append, List.nil_append, Nat.zero_add, Nat.add_zero, List.map_nil, List.sum_nil, List.map_cons, List.sum_cons, Nat.zero_le, hs_set1]
    exact hl_ireth B rfl rfl (hl_dec okL_payerOf 15 rfl) (by decide) (by decide) ⟨ca2, _, by rw [hn]; rfl, w2.refr hr _, fun _ => by rw [hv]; rfl⟩
  · obtain ⟨ca2, w2, hE1⟩ := hx
    have hm := oe_payerOf _ hE1
    rcases List.mem_cons.mp hm with rfl | hm
    · skip
      refine hl_catch B (pre := []) (s0 := 0) (e0 := 9) (hp := 12) (ct := 20) (suf := [(0, 9, 15, 45)]) (by simp [hl_ex]) rfl (by decide) (by decide) (kk := 486) (by decide +kernel) (kc := 521) (by decide +kernel) hl_pa_n (fun q => ?_)
      refine hl_segh B okL_payerOf (fun q => nomatch q) 8 1000 rfl ?_
      simp only [pL_payerOf, List.drop_zero, List.drop_succ_cons, hl_wp, hs_ii, hs_i1, hs_ll, hs_l1, hs_ff, hs_g1, hs_dd, hs_d1, hs_r1, hs_rv, hs_rv0, hs_n1, hs_n0, hs_v1i, hs_v1r, hs_a1, hs_d2l, hs_d2i, hs_ri, hs_rl, hs_rg, hs_rd8, hs_rr, hs_rn, hs_ov, hs_gf, hs_po, hs_pfi, hs_pfr, hs_ia, hs_la, hs_da, hs_qa, hs_al, hs_is, hs_ls, hs_ds, hs_iso, hs_lso, hs_dso, hs_rd, hs_f1, hs_f10, hs_f2, hs_f20, hs_in0, hs_in1, hs_lt, hs_le, hs_ge, hs_gt, hs_eq, hs_10, hs_00, hs_01, true_and, and_true, true_imp_iff, false_imp_iff, not_true_eq_false, not_false_eq_true, hs_av, hs_ai, hs_ar, hs_an, hs_aj, hs_ci, hs_cr, hs_cn, hs_cj, hs_cd, hs_cf, hs_q0, hs_q1, reduceIte, Nat.reduceEqDiff, Nat.reduceAdd, Nat.reduceLT, eq_self, List.getElem?_cons_zero, List.getElem?_cons_succ, List.set_cons_zero, List.set_cons_succ, List.length_cons, List.length_nil, Option.toList_some, Option.toList_none, List.cons_append, List.nil_append, Nat.zero_add, Nat.add_zero, List.map_nil, List.sum_nil, List.map_cons, List.sum_cons, Nat.zero_le, hs_set1]
      exact hl_ireth B rfl rfl (hl_dec okL_payerOf 10 rfl) (by decide) (by decide) ⟨ca2, f, by rw [hE1]; exact congrArg (fun z => some (Value.int z)) (by decide +kernel), by rw [hl_set_same hr]; exact w2, fun z => by rw [hE1] at z; cases z⟩
    cases List.mem_singleton.mp hm
    refine hl_catch B (pre := [(0, 9, 12, 20)]) (s0 := 0) (e0 := 9) (hp := 15) (ct := 45) (suf := []) (by simp [hl_ex]) rfl (by decide) (by decide) (kk := 701) (by decide +kernel) (kc := 718) (by decide +kernel) (hl_pa_c ⟨by decide, xIOB, by simp [hl_ex], by decide, hl_T_of (k := 486) (by decide +kernel) rfl⟩ hl_pa_n) (fun q => ?_)
    refine hl_segh B okL_payerOf (fun q => nomatch q) 11 1000 rfl ?_
    simp only [pL_payerOf, List.drop_zero, List.drop_succ_cons, hl_wp, hs_ii, hs_i1, hs_ll, hs_l1, hs_ff, hs_g1, hs_dd, hs_d1, hs_r1, hs_rv, hs_rv0, hs_n1, hs_n0, hs_v1i, hs_v1r, hs_a1, hs_d2l, hs_d2i, hs_ri, hs_rl, hs_rg, hs_rd8, hs_rr, hs_rn, hs_ov, hs_gf, hs_po, hs_pfi, hs_pfr, hs_ia, hs_la, hs_da, hs_qa, hs_al, hs_is, hs_ls, hs_ds, hs_iso, hs_lso, hs_dso, hs_rd, hs_f1, hs_f10, hs_f2, hs_f20, hs_in0, hs_in1, hs_lt, hs_le, hs_ge, hs_gt, hs_eq, hs_10, hs_00, hs_01, true_and, and_true, true_imp_iff, false_imp_iff, not_true_eq_false, not_false_eq_true, hs_av, hs_ai, hs_ar, hs_an, hs_aj, hs_ci, hs_cr, hs_cn, hs_cj, hs_cd, hs_cf, hs_q0, hs_q1, reduceIte, Nat.reduceEqDiff, Nat.reduceAdd, Nat.reduceLT, eq_self, List.getElem?_cons_zero, List.getElem?_cons_succ, List.set_cons_zero, List.set_cons_succ, List.length_cons, List.length_nil, Option.toList_some, Option.toList_none, List.cons_append, List.nil_append, Nat.zero_add, Nat.add_zero, List.map_nil, List.sum_nil, List.map_cons, List.sum_cons, Nat.zero_le, hs_set1]
    exact hl_ireth B rfl rfl (hl_dec okL_payerOf 13 rfl) (by decide) (by decide) ⟨ca2, f, by rw [hE1]; exact congrArg (fun z => some (Value.int z)) (by decide +kernel), by rw [hl_set_same hr]; exact w2, fun z => by rw [hE1] at z; cases z⟩
theorem oe_payeeOf {σ : LSt} {x : Int32} : ∀ E : String, (op_payeeOf σ x).1 = some E → E ∈ [xIOB, xNSE] := by
  intro E h
  unfold op_payeeOf at h
  rw [ls_res_1] at h
  rcases ls_or_e h with h | h
  · cases er_tra_e h; simp
  (repeat' split at h) <;> first | (cases h; done) | (cases h; simp; done) | (cases er_spe_e h; simp)
theorem ov_payeeOf {σ : LSt} {x : Int32} : ∃ v9, (op_payeeOf σ x).2.2 = .int v9 := by
  unfold op_payeeOf
  exact ⟨_, ls_res_v⟩
abbrev mL_payeeOf : hl_M := (yL_payeeOf, cL_payeeOf, 4, (some .int))
theorem mtL_payeeOf : hl_mh mL_payeeOf [(0, 9, 12, 20), (0, 9, 15, 45)] 3 := ⟨hl_T_of (k := 869) (by decide +kernel) rfl, hl_T_of (k := 48) (by decide +kernel) rfl, ⟨by decide +kernel, by decide +kernel⟩, by decide +kernel, hl_T_of (k := 868) (by decide +kernel) rfl⟩
set_option maxRecDepth 20000 in
set_option maxHeartbeats 2000000 in
theorem cw_payeeOf {G : hl_G} {l : Launch} {a ca : Nat → Nat} {σ : LSt} {x : Int32} {h0 : hl_H} {ro : Nat} {f : Nat → Int64} (hst : l.stackTraces = false) (hI : LInv0 σ) (hr : h0 ro = some (.inl (1, .inr (.inl f)))) :
    hl_Ch G l mL_payeeOf [(0, 9, 12, 20), (0, 9, 15, 45)] 7 12 90 [.ref (a 0), .int x, .ref ro] (LSw a ca σ h0) (lw_Q a h0 ro [xIOB, xNSE] (op_payeeOf σ x)) (fun _ _ => False) := by
  refine hl_bodyh (by decide +kernel) (Nat.le_of_ble_eq_true rfl) ?_
  intro p e s m args below meth c B g hg
  refine hl_segh B okL_payeeOf (fun q => nomatch q) 0 1000 rfl ?_
  simp only [pL_payeeOf, List.drop_zero, List.drop_succ_cons, hl_wp, hs_ii, hs_i1, hs_ll, hs_l1, hs_ff, hs_g1, hs_dd, hs_d1, hs_r1, hs_rv, hs_rv0, hs_n1, hs_n0, hs_v1i, hs_v1r, hs_a1, hs_d2l, hs_d2i, hs_ri, hs_rl, hs_rg, hs_rd8, hs_rr, hs_rn, hs_ov, hs_gf, hs_po, hs_pfi, hs_pfr, hs_ia, hs_la, hs_da, hs_qa, hs_al, hs_is, hs_ls, hs_ds, hs_iso, hs_lso, hs_dso, hs_rd, hs_f1, hs_f10, hs_f2, hs_f20, hs_in0, hs_in1, hs_lt, hs_le, hs_ge, hs_gt, hs_eq, hs_10, hs_00, hs_01, true_and, and_true, true_imp_iff, false_imp_iff, not_true_eq_false, not_false_eq_true, hs_av, hs_ai, hs_ar, hs_an, hs_aj, hs_ci, hs_cr, hs_cn, hs_cj, hs_cd, hs_cf, hs_q0, hs_q1, reduceIte, Nat.reduceEqDiff, Nat.reduceAdd, Nat.reduceLT, eq_self, List.getElem?_cons_zero, List.getElem?_cons_succ, List.set_cons_zero, List.set_cons_succ, List.length_cons, List.length_nil, Option.toList_some, Option.toList_none, List.cons_append, List.nil_append, Nat.zero_add, Nat.add_zero, List.map_nil, List.sum_nil, List.map_cons, List.sum_cons, Nat.zero_le, hs_set1]
  refine hl_callVh B (As := [.int _]) (cm_payeeOf hst hI) mtX7_payeeOf (hl_dec okL_payeeOf 4 rfl) (kk := 870) (by decide +kernel) rfl rfl (hg.1.f0) rfl (Nat.le_of_ble_eq_true rfl) (by decide) (by decide) (by decide) (by decide) hg (fun r9 h9 hq => ?_) (fun E h9 hx => ?_)
  · obtain ⟨ca2, rfl, w2, hn⟩ := hq
    have hro : h9 ro = some (.inl (1, .inr (.inl f))) := w2.2.2.2.2.2.2 ro _ hr
    obtain ⟨v9, hv⟩ := ov_payeeOf (σ := σ) (x := x)
    rw [hv]
    refine hl_segh B okL_payeeOf (fun q => nomatch q) 5 1000 rfl ?_
    simp only [pL_payeeOf, List.drop_zero, List.drop_succ_cons, hl_wp, hs_ii, hs_i1, hs_ll, hs_l1, hs_ff, hs_g1, hs_dd, hs_d1, hs_r1, hs_rv, hs_rv0, hs_n1, hs_n0, hs_v1i, hs_v1r, hs_a1, hs_d2l, hs_d2i, hs_ri, hs_rl, hs_rg, hs_rd8, hs_rr, hs_rn, hs_ov, hs_gf, hs_po, hs_pfi, hs_pfr, hs_ia, hs_la, hs_da, hs_qa, hs_al, hs_is, hs_ls, hs_ds, hs_iso, hs_lso, hs_dso, hs_rd, hs_f1, hs_f10, hs_f2, hs_f20, hs_in0, hs_in1, hs_lt, hs_le, hs_ge, hs_gt, hs_eq, hs_10, hs_00, hs_01, true_and, and_true, true_imp_iff, false_imp_iff, not_true_eq_false, not_false_eq_true, hs_av, hs_ai, hs_ar, hs_an, hs_aj, hs_ci, hs_cr, hs_cn, hs_cj, hs_cd, hs_cf, hs_q0, hs_q1, reduceIte, Nat.reduceEqDiff, Nat.reduceAdd, Nat.reduceLT, eq_self, List.getElem?_cons_zero, List.getElem?_cons_succ, List.set_cons_zero, List.set_cons_succ, List.length_cons, List.length_nil, Option.toList_some, Option.toList_none, List.cons_append, List.nil_append, Nat.zero_add, Nat.add_zero, List.map_nil, List.sum_nil, List.map_cons, List.sum_cons, Nat.zero_le, hs_set1, hro]
    refine ⟨vp_in_nI (n := 0) (N := 1) (by decide) (by decide), ?_⟩
    refine hl_segh B okL_payeeOf (fun q => nomatch q) 14 1000 rfl ?_
    simp only [pL_payeeOf, List.drop_zero, List.drop_succ_cons, hl_wp, hs_ii, hs_i1, hs_ll, hs_l1, hs_ff, hs_g1, hs_dd, hs_d1, hs_r1, hs_rv, hs_rv0, hs_n1, hs_n0, hs_v1i, hs_v1r, hs_a1, hs_d2l, hs_d2i, hs_ri, hs_rl, hs_rg, hs_rd8, hs_rr, hs_rn, hs_ov, hs_gf, hs_po, hs_pfi, hs_pfr, hs_ia, hs_la, hs_da, hs_qa, hs_al, hs_is, hs_ls, hs_ds, hs_iso, hs_lso, hs_dso, hs_rd, hs_f1, hs_f10, hs_f2, hs_f20, hs_in0, hs_in1, hs_lt, hs_le, hs_ge, hs_gt, hs_eq, hs_10, hs_00, hs_01, true_and, and_true, true_imp_iff, false_imp_iff, not_true_eq_false, not_false_eq_true, hs_av, hs_ai, hs_ar, hs_an, hs_aj, hs_ci, hs_cr, hs_cn, hs_cj, hs_cd, hs_cf, hs_q0, hs_q1, reduceIte, Nat.reduceEqDiff, Nat.reduceAdd, Nat.reduceLT, eq_self, List.getElem?_cons_zero, List.getElem?_cons_succ, List.set_cons_zero, List.set_cons_succ, List.length_cons, List.length_nil, Option.toList_some, Option.toList_none, List.cons_append, List.nil_append, Nat.zero_add, Nat.add_zero, List.map_nil, List.sum_nil, List.map_cons, List.sum_cons, Nat.zero_le, hs_set1]
    exact hl_ireth B rfl rfl (hl_dec okL_payeeOf 15 rfl) (by decide) (by decide) ⟨ca2, _, by rw [hn]; rfl, w2.refr hr _, fun _ => by rw [hv]; rfl⟩
  · obtain ⟨ca2, w2, hE1⟩ := hx
    have hm := oe_payeeOf _ hE1
    rcases List.mem_cons.mp hm with rfl | hm
    · skip
      refine hl_catch B (pre := []) (s0 := 0) (e0 := 9) (hp := 12) (ct := 20) (suf := [(0, 9, 15, 45)]) (by simp [hl_ex]) rfl (by decide) (by decide) (kk := 486) (by decide +kernel) (kc := 521) (by decide +kernel) hl_pa_n (fun q => ?_)
      refine hl_segh B okL_payeeOf (fun q => nomatch q) 8 1000 rfl ?_
      simp only [pL_payeeOf, List.drop_zero, List.drop_succ_cons, hl_wp, hs_ii, hs_i1, hs_ll, hs_l1, hs_ff, hs_g1, hs_dd, hs_d1, hs_r1, hs_rv, hs_rv0, hs_n1, hs_n0, hs_v1i, hs_v1r, hs_a1, hs_d2l, hs_d2i, hs_ri, hs_rl, hs_rg, hs_rd8, hs_rr, hs_rn, hs_ov, hs_gf, hs_po, hs_pfi, hs_pfr, hs_ia, hs_la, hs_da, hs_qa, hs_al, hs_is, hs_ls, hs_ds, hs_iso, hs_lso, hs_dso, hs_rd, hs_f1, hs_f10, hs_f2, hs_f20, hs_in0, hs_in1, hs_lt, hs_le, hs_ge, hs_gt, hs_eq, hs_10, hs_00, hs_01, true_and, and_true, true_imp_iff, false_imp_iff, not_true_eq_false, not_false_eq_true, hs_av, hs_ai, hs_ar, hs_an, hs_aj, hs_ci, hs_cr, hs_cn, hs_cj, hs_cd, hs_cf, hs_q0, hs_q1, reduceIte, Nat.reduceEqDiff, Nat.reduceAdd, Nat.reduceLT, eq_self, List.getElem?_cons_zero, List.getElem?_cons_succ, List.set_cons_zero, List.set_cons_succ, List.length_cons, List.length_nil, Option.toList_some, Option.toList_none, List.cons_append, List.nil_append, Nat.zero_add, Nat.add_zero, List.map_nil, List.sum_nil, List.map_cons, List.sum_cons, Nat.zero_le, hs_set1]
      exact hl_ireth B rfl rfl (hl_dec okL_payeeOf 10 rfl) (by decide) (by decide) ⟨ca2, f, by rw [hE1]; exact congrArg (fun z => some (Value.int z)) (by decide +kernel), by rw [hl_set_same hr]; exact w2, fun z => by rw [hE1] at z; cases z⟩
    cases List.mem_singleton.mp hm
    refine hl_catch B (pre := [(0, 9, 12, 20)]) (s0 := 0) (e0 := 9) (hp := 15) (ct := 45) (suf := []) (by simp [hl_ex]) rfl (by decide) (by decide) (kk := 701) (by decide +kernel) (kc := 718) (by decide +kernel) (hl_pa_c ⟨by decide, xIOB, by simp [hl_ex], by decide, hl_T_of (k := 486) (by decide +kernel) rfl⟩ hl_pa_n) (fun q => ?_)
    refine hl_segh B okL_payeeOf (fun q => nomatch q) 11 1000 rfl ?_
    simp only [pL_payeeOf, List.drop_zero, List.drop_succ_cons, hl_wp, hs_ii, hs_i1, hs_ll, hs_l1, hs_ff, hs_g1, hs_dd, hs_d1, hs_r1, hs_rv, hs_rv0, hs_n1, hs_n0, hs_v1i, hs_v1r, hs_a1, hs_d2l, hs_d2i, hs_ri, hs_rl, hs_rg, hs_rd8, hs_rr, hs_rn, hs_ov, hs_gf, hs_po, hs_pfi, hs_pfr, hs_ia, hs_la, hs_da, hs_qa, hs_al, hs_is, hs_ls, hs_ds, hs_iso, hs_lso, hs_dso, hs_rd, hs_f1, hs_f10, hs_f2, hs_f20, hs_in0, hs_in1, hs_lt, hs_le, hs_ge, hs_gt, hs_eq, hs_10, hs_00, hs_01, true_and, and_true, true_imp_iff, false_imp_iff, not_true_eq_false, not_false_eq_true, hs_av, hs_ai, hs_ar, hs_an, hs_aj, hs_ci, hs_cr, hs_cn, hs_cj, hs_cd, hs_cf, hs_q0, hs_q1, reduceIte, Nat.reduceEqDiff, Nat.reduceAdd, Nat.reduceLT, eq_self, List.getElem?_cons_zero, List.getElem?_cons_succ, List.set_cons_zero, List.set_cons_succ, List.length_cons, List.length_nil, Option.toList_some, Option.toList_none, List.cons_append, List.nil_append, Nat.zero_add, Nat.add_zero, List.map_nil, List.sum_nil, List.map_cons, List.sum_cons, Nat.zero_le, hs_set1]
    exact hl_ireth B rfl rfl (hl_dec okL_payeeOf 13 rfl) (by decide) (by decide) ⟨ca2, f, by rw [hE1]; exact congrArg (fun z => some (Value.int z)) (by decide +kernel), by rw [hl_set_same hr]; exact w2, fun z => by rw [hE1] at z; cases z⟩
theorem oe_paidOf {σ : LSt} {x : Int32} : ∀ E : String, (op_paidOf σ x).1 = some E → E ∈ [xIOB] := by
  intro E h
  unfold op_paidOf at h
  rw [ls_res_1] at h
  cases er_tra_e h; simp
theorem ov_paidOf {σ : LSt} {x : Int32} : ∃ v9, (op_paidOf σ x).2.2 = .int v9 := by
  unfold op_paidOf
  exact ⟨_, ls_res_v⟩
abbrev mL_paidOf : hl_M := (yL_paidOf, cL_paidOf, 4, (some .int))
theorem mtL_paidOf : hl_mh mL_paidOf [(0, 9, 12, 20)] 3 := ⟨hl_T_of (k := 877) (by decide +kernel) rfl, hl_T_of (k := 48) (by decide +kernel) rfl, ⟨by decide +kernel, by decide +kernel⟩, by decide +kernel, hl_T_of (k := 876) (by decide +kernel) rfl⟩
set_option maxRecDepth 20000 in
set_option maxHeartbeats 2000000 in
theorem cw_paidOf {G : hl_G} {l : Launch} {a ca : Nat → Nat} {σ : LSt} {x : Int32} {h0 : hl_H} {ro : Nat} {f : Nat → Int64} (hst : l.stackTraces = false) (hI : LInv0 σ) (hr : h0 ro = some (.inl (1, .inr (.inl f)))) :
    hl_Ch G l mL_paidOf [(0, 9, 12, 20)] 7 12 90 [.ref (a 0), .int x, .ref ro] (LSw a ca σ h0) (lw_Q a h0 ro [xIOB] (op_paidOf σ x)) (fun _ _ => False) := by
  refine hl_bodyh (by decide +kernel) (Nat.le_of_ble_eq_true rfl) ?_
  intro p e s m args below meth c B g hg
  refine hl_segh B okL_paidOf (fun q => nomatch q) 0 1000 rfl ?_
  simp only [pL_paidOf, List.drop_zero, List.drop_succ_cons, hl_wp, hs_ii, hs_i1, hs_ll, hs_l1, hs_ff, hs_g1, hs_dd, hs_d1, hs_r1, hs_rv, hs_rv0, hs_n1, hs_n0, hs_v1i, hs_v1r, hs_a1, hs_d2l, hs_d2i, hs_ri, hs_rl, hs_rg, hs_rd8, hs_rr, hs_rn, hs_ov, hs_gf, hs_po, hs_pfi, hs_pfr, hs_ia, hs_la, hs_da, hs_qa, hs_al, hs_is, hs_ls, hs_ds, hs_iso, hs_lso, hs_dso, hs_rd, hs_f1, hs_f10, hs_f2, hs_f20, hs_in0, hs_in1, hs_lt, hs_le, hs_ge, hs_gt, hs_eq, hs_10, hs_00, hs_01, true_and, and_true, true_imp_iff, false_imp_iff, not_true_eq_false, not_false_eq_true, hs_av, hs_ai, hs_ar, hs_an, hs_aj, hs_ci, hs_cr, hs_cn, hs_cj, hs_cd, hs_cf, hs_q0, hs_q1, reduceIte, Nat.reduceEqDiff, Nat.reduceAdd, Nat.reduceLT, eq_self, List.getElem?_cons_zero, List.getElem?_cons_succ, List.set_cons_zero, List.set_cons_succ, List.length_cons, List.length_nil, Option.toList_some, Option.toList_none, List.cons_append, List.nil_append, Nat.zero_add, Nat.add_zero, List.map_nil, List.sum_nil, List.map_cons, List.sum_cons, Nat.zero_le, hs_set1]
  refine hl_callVh B (As := [.int _]) (cm_paidOf hst hI) mtX7_paidOf (hl_dec okL_paidOf 4 rfl) (kk := 878) (by decide +kernel) rfl rfl (hg.1.f0) rfl (Nat.le_of_ble_eq_true rfl) (by decide) (by decide) (by decide) (by decide) hg (fun r9 h9 hq => ?_) (fun E h9 hx => ?_)
  · obtain ⟨ca2, rfl, w2, hn⟩ := hq
    have hro : h9 ro = some (.inl (1, .inr (.inl f))) := w2.2.2.2.2.2.2 ro _ hr
    obtain ⟨v9, hv⟩ := ov_paidOf (σ := σ) (x := x)
    rw [hv]
    refine hl_segh B okL_paidOf (fun q => nomatch q) 5 1000 rfl ?_
    simp only [pL_paidOf, List.drop_zero, List.drop_succ_cons, hl_wp, hs_ii, hs_i1, hs_ll, hs_l1, hs_ff, hs_g1, hs_dd, hs_d1, hs_r1, hs_rv, hs_rv0, hs_n1, hs_n0, hs_v1i, hs_v1r, hs_a1, hs_d2l, hs_d2i, hs_ri, hs_rl, hs_rg, hs_rd8, hs_rr, hs_rn, hs_ov, hs_gf, hs_po, hs_pfi, hs_pfr, hs_ia, hs_la, hs_da, hs_qa, hs_al, hs_is, hs_ls, hs_ds, hs_iso, hs_lso, hs_dso, hs_rd, hs_f1, hs_f10, hs_f2, hs_f20, hs_in0, hs_in1, hs_lt, hs_le, hs_ge, hs_gt, hs_eq, hs_10, hs_00, hs_01, true_and, and_true, true_imp_iff, false_imp_iff, not_true_eq_false, not_false_eq_true, hs_av, hs_ai, hs_ar, hs_an, hs_aj, hs_ci, hs_cr, hs_cn, hs_cj, hs_cd, hs_cf, hs_q0, hs_q1, reduceIte, Nat.reduceEqDiff, Nat.reduceAdd, Nat.reduceLT, eq_self, List.getElem?_cons_zero, List.getElem?_cons_succ, List.set_cons_zero, List.set_cons_succ, List.length_cons, List.length_nil, Option.toList_some, Option.toList_none, List.cons_append, List.nil_append, Nat.zero_add, Nat.add_zero, List.map_nil, List.sum_nil, List.map_cons, List.sum_cons, Nat.zero_le, hs_set1, hro]
    refine ⟨vp_in_nI (n := 0) (N := 1) (by decide) (by decide), ?_⟩
    refine hl_segh B okL_paidOf (fun q => nomatch q) 11 1000 rfl ?_
    simp only [pL_paidOf, List.drop_zero, List.drop_succ_cons, hl_wp, hs_ii, hs_i1, hs_ll, hs_l1, hs_ff, hs_g1, hs_dd, hs_d1, hs_r1, hs_rv, hs_rv0, hs_n1, hs_n0, hs_v1i, hs_v1r, hs_a1, hs_d2l, hs_d2i, hs_ri, hs_rl, hs_rg, hs_rd8, hs_rr, hs_rn, hs_ov, hs_gf, hs_po, hs_pfi, hs_pfr, hs_ia, hs_la, hs_da, hs_qa, hs_al, hs_is, hs_ls, hs_ds, hs_iso, hs_lso, hs_dso, hs_rd, hs_f1, hs_f10, hs_f2, hs_f20, hs_in0, hs_in1, hs_lt, hs_le, hs_ge, hs_gt, hs_eq, hs_10, hs_00, hs_01, true_and, and_true, true_imp_iff, false_imp_iff, not_true_eq_false, not_false_eq_true, hs_av, hs_ai, hs_ar, hs_an, hs_aj, hs_ci, hs_cr, hs_cn, hs_cj, hs_cd, hs_cf, hs_q0, hs_q1, reduceIte, Nat.reduceEqDiff, Nat.reduceAdd, Nat.reduceLT, eq_self, List.getElem?_cons_zero, List.getElem?_cons_succ, List.set_cons_zero, List.set_cons_succ, List.length_cons, List.length_nil, Option.toList_some, Option.toList_none, List.cons_append, List.nil_append, Nat.zero_add, Nat.add_zero, List.map_nil, List.sum_nil, List.map_cons, List.sum_cons, Nat.zero_le, hs_set1]
    exact hl_ireth B rfl rfl (hl_dec okL_paidOf 12 rfl) (by decide) (by decide) ⟨ca2, _, by rw [hn]; rfl, w2.refr hr _, fun _ => by rw [hv]; rfl⟩
  · obtain ⟨ca2, w2, hE1⟩ := hx
    have hm := oe_paidOf _ hE1
    cases List.mem_singleton.mp hm
    refine hl_catch B (pre := []) (s0 := 0) (e0 := 9) (hp := 12) (ct := 20) (suf := []) (by simp [hl_ex]) rfl (by decide) (by decide) (kk := 486) (by decide +kernel) (kc := 521) (by decide +kernel) hl_pa_n (fun q => ?_)
    refine hl_segh B okL_paidOf (fun q => nomatch q) 8 1000 rfl ?_
    simp only [pL_paidOf, List.drop_zero, List.drop_succ_cons, hl_wp, hs_ii, hs_i1, hs_ll, hs_l1, hs_ff, hs_g1, hs_dd, hs_d1, hs_r1, hs_rv, hs_rv0, hs_n1, hs_n0, hs_v1i, hs_v1r, hs_a1, hs_d2l, hs_d2i, hs_ri, hs_rl, hs_rg, hs_rd8, hs_rr, hs_rn, hs_ov, hs_gf, hs_po, hs_pfi, hs_pfr, hs_ia, hs_la, hs_da, hs_qa, hs_al, hs_is, hs_ls, hs_ds, hs_iso, hs_lso, hs_dso, hs_rd, hs_f1, hs_f10, hs_f2, hs_f20, hs_in0, hs_in1, hs_lt, hs_le, hs_ge, hs_gt, hs_eq, hs_10, hs_00, hs_01, true_and, and_true, true_imp_iff, false_imp_iff, not_true_eq_false, not_false_eq_true, hs_av, hs_ai, hs_ar, hs_an, hs_aj, hs_ci, hs_cr, hs_cn, hs_cj, hs_cd, hs_cf, hs_q0, hs_q1, reduceIte, Nat.reduceEqDiff, Nat.reduceAdd, Nat.reduceLT, eq_self, List.getElem?_cons_zero, List.getElem?_cons_succ, List.set_cons_zero, List.set_cons_succ, List.length_cons, List.length_nil, Option.toList_some, Option.toList_none, List.cons_append, List.nil_append, Nat.zero_add, Nat.add_zero, List.map_nil, List.sum_nil, List.map_cons, List.sum_cons, Nat.zero_le, hs_set1]
    exact hl_ireth B rfl rfl (hl_dec okL_paidOf 10 rfl) (by decide) (by decide) ⟨ca2, f, by rw [hE1]; exact congrArg (fun z => some (Value.int z)) (by decide +kernel), by rw [hl_set_same hr]; exact w2, fun z => by rw [hE1] at z; cases z⟩
theorem oe_receivedOf {σ : LSt} {x : Int32} : ∀ E : String, (op_receivedOf σ x).1 = some E → E ∈ [xIOB] := by
  intro E h
  unfold op_receivedOf at h
  rw [ls_res_1] at h
  cases er_tra_e h; simp
theorem ov_receivedOf {σ : LSt} {x : Int32} : ∃ v9, (op_receivedOf σ x).2.2 = .int v9 := by
  unfold op_receivedOf
  exact ⟨_, ls_res_v⟩
abbrev mL_receivedOf : hl_M := (yL_receivedOf, cL_receivedOf, 4, (some .int))
theorem mtL_receivedOf : hl_mh mL_receivedOf [(0, 9, 12, 20)] 3 := ⟨hl_T_of (k := 884) (by decide +kernel) rfl, hl_T_of (k := 48) (by decide +kernel) rfl, ⟨by decide +kernel, by decide +kernel⟩, by decide +kernel, hl_T_of (k := 883) (by decide +kernel) rfl⟩
set_option maxRecDepth 20000 in
set_option maxHeartbeats 2000000 in
theorem cw_receivedOf {G : hl_G} {l : Launch} {a ca : Nat → Nat} {σ : LSt} {x : Int32} {h0 : hl_H} {ro : Nat} {f : Nat → Int64} (hst : l.stackTraces = false) (hI : LInv0 σ) (hr : h0 ro = some (.inl (1, .inr (.inl f)))) :
    hl_Ch G l mL_receivedOf [(0, 9, 12, 20)] 7 12 90 [.ref (a 0), .int x, .ref ro] (LSw a ca σ h0) (lw_Q a h0 ro [xIOB] (op_receivedOf σ x)) (fun _ _ => False) := by
  refine hl_bodyh (by decide +kernel) (Nat.le_of_ble_eq_true rfl) ?_
  intro p e s m args below meth c B g hg
  refine hl_segh B okL_receivedOf (fun q => nomatch q) 0 1000 rfl ?_
  simp only [pL_receivedOf, List.drop_zero, List.drop_succ_cons, hl_wp, hs_ii, hs_i1, hs_ll, hs_l1, hs_ff, hs_g1, hs_dd, hs_d1, hs_r1, hs_rv, hs_rv0, hs_n1, hs_n0, hs_v1i, hs_v1r, hs_a1, hs_d2l, hs_d2i, hs_ri, hs_rl, hs_rg, hs_rd8, hs_rr, hs_rn, hs_ov, hs_gf, hs_po, hs_pfi, hs_pfr, hs_ia, hs_la, hs_da, hs_qa, hs_al, hs_is, hs_ls, hs_ds, hs_iso, hs_lso, hs_dso, hs_rd, hs_f1, hs_f10, hs_f2, hs_f20, hs_in0, hs_in1, hs_lt, hs_le, hs_ge, hs_gt, hs_eq, hs_10, hs_00, hs_01, true_and, and_true, true_imp_iff, false_imp_iff, not_true_eq_false, not_false_eq_true, hs_av, hs_ai, hs_ar, hs_an, hs_aj, hs_ci, hs_cr, hs_cn, hs_cj, hs_cd, hs_cf, hs_q0, hs_q1, reduceIte, Nat.reduceEqDiff, Nat.reduceAdd, Nat.reduceLT, eq_self, List.getElem?_cons_zero, List.getElem?_cons_succ, List.set_cons_zero, List.set_cons_succ, List.length_cons, List.length_nil, Option.toList_some, Option.toList_none, List.cons_append, List.nil_append, Nat.zero_add, Nat.add_zero, List.map_nil, List.sum_nil, List.map_cons, List.sum_cons, Nat.zero_le, hs_set1]
  refine hl_callVh B (As := [.int _]) (cm_receivedOf hst hI) mtX7_receivedOf (hl_dec okL_receivedOf 4 rfl) (kk := 885) (by decide +kernel) rfl rfl (hg.1.f0) rfl (Nat.le_of_ble_eq_true rfl) (by decide) (by decide) (by decide) (by decide) hg (fun r9 h9 hq => ?_) (fun E h9 hx => ?_)
  · obtain ⟨ca2, rfl, w2, hn⟩ := hq
    have hro : h9 ro = some (.inl (1, .inr (.inl f))) := w2.2.2.2.2.2.2 ro _ hr
    obtain ⟨v9, hv⟩ := ov_receivedOf (σ := σ) (x := x)
    rw [hv]
    refine hl_segh B okL_receivedOf (fun q => nomatch q) 5 1000 rfl ?_
    simp only [pL_receivedOf, List.drop_zero, List.drop_succ_cons, hl_wp, hs_ii, hs_i1, hs_ll, hs_l1, hs_ff, hs_g1, hs_dd, hs_d1, hs_r1, hs_rv, hs_rv0, hs_n1, hs_n0, hs_v1i, hs_v1r, hs_a1, hs_d2l, hs_d2i, hs_ri, hs_rl, hs_rg, hs_rd8, hs_rr, hs_rn, hs_ov, hs_gf, hs_po, hs_pfi, hs_pfr, hs_ia, hs_la, hs_da, hs_qa, hs_al, hs_is, hs_ls, hs_ds, hs_iso, hs_lso, hs_dso, hs_rd, hs_f1, hs_f10, hs_f2, hs_f20, hs_in0, hs_in1, hs_lt, hs_le, hs_ge, hs_gt, hs_eq, hs_10, hs_00, hs_01, true_and, and_true, true_imp_iff, false_imp_iff, not_true_eq_false, not_false_eq_true, hs_av, hs_ai, hs_ar, hs_an, hs_aj, hs_ci, hs_cr, hs_cn, hs_cj, hs_cd, hs_cf, hs_q0, hs_q1, reduceIte, Nat.reduceEqDiff, Nat.reduceAdd, Nat.reduceLT, eq_self, List.getElem?_cons_zero, List.getElem?_cons_succ, List.set_cons_zero, List.set_cons_succ, List.length_cons, List.length_nil, Option.toList_some, Option.toList_none, List.cons_append, List.nil_append, Nat.zero_add, Nat.add_zero, List.map_nil, List.sum_nil, List.map_cons, List.sum_cons, Nat.zero_le, hs_set1, hro]
    refine ⟨vp_in_nI (n := 0) (N := 1) (by decide) (by decide), ?_⟩
    refine hl_segh B okL_receivedOf (fun q => nomatch q) 11 1000 rfl ?_
    simp only [pL_receivedOf, List.drop_zero, List.drop_succ_cons, hl_wp, hs_ii, hs_i1, hs_ll, hs_l1, hs_ff, hs_g1, hs_dd, hs_d1, hs_r1, hs_rv, hs_rv0, hs_n1, hs_n0, hs_v1i, hs_v1r, hs_a1, hs_d2l, hs_d2i, hs_ri, hs_rl, hs_rg, hs_rd8, hs_rr, hs_rn, hs_ov, hs_gf, hs_po, hs_pfi, hs_pfr, hs_ia, hs_la, hs_da, hs_qa, hs_al, hs_is, hs_ls, hs_ds, hs_iso, hs_lso, hs_dso, hs_rd, hs_f1, hs_f10, hs_f2, hs_f20, hs_in0, hs_in1, hs_lt, hs_le, hs_ge, hs_gt, hs_eq, hs_10, hs_00, hs_01, true_and, and_true, true_imp_iff, false_imp_iff, not_true_eq_false, not_false_eq_true, hs_av, hs_ai, hs_ar, hs_an, hs_aj, hs_ci, hs_cr, hs_cn, hs_cj, hs_cd, hs_cf, hs_q0, hs_q1, reduceIte, Nat.reduceEqDiff, Nat.reduceAdd, Nat.reduceLT, eq_self, List.getElem?_cons_zero, List.getElem?_cons_succ, List.set_cons_zero, List.set_cons_succ, List.length_cons, List.length_nil, Option.toList_some, Option.toList_none, List.cons_append, List.nil_append, Nat.zero_add, Nat.add_zero, List.map_nil, List.sum_nil, List.map_cons, List.sum_cons, Nat.zero_le, hs_set1]
    exact hl_ireth B rfl rfl (hl_dec okL_receivedOf 12 rfl) (by decide) (by decide) ⟨ca2, _, by rw [hn]; rfl, w2.refr hr _, fun _ => by rw [hv]; rfl⟩
  · obtain ⟨ca2, w2, hE1⟩ := hx
    have hm := oe_receivedOf _ hE1
    cases List.mem_singleton.mp hm
    refine hl_catch B (pre := []) (s0 := 0) (e0 := 9) (hp := 12) (ct := 20) (suf := []) (by simp [hl_ex]) rfl (by decide) (by decide) (kk := 486) (by decide +kernel) (kc := 521) (by decide +kernel) hl_pa_n (fun q => ?_)
    refine hl_segh B okL_receivedOf (fun q => nomatch q) 8 1000 rfl ?_
    simp only [pL_receivedOf, List.drop_zero, List.drop_succ_cons, hl_wp, hs_ii, hs_i1, hs_ll, hs_l1, hs_ff, hs_g1, hs_dd, hs_d1, hs_r1, hs_rv, hs_rv0, hs_n1, hs_n0, hs_v1i, hs_v1r, hs_a1, hs_d2l, hs_d2i, hs_ri, hs_rl, hs_rg, hs_rd8, hs_rr, hs_rn, hs_ov, hs_gf, hs_po, hs_pfi, hs_pfr, hs_ia, hs_la, hs_da, hs_qa, hs_al, hs_is, hs_ls, hs_ds, hs_iso, hs_lso, hs_dso, hs_rd, hs_f1, hs_f10, hs_f2, hs_f20, hs_in0, hs_in1, hs_lt, hs_le, hs_ge, hs_gt, hs_eq, hs_10, hs_00, hs_01, true_and, and_true, true_imp_iff, false_imp_iff, not_true_eq_false, not_false_eq_true, hs_av, hs_ai, hs_ar, hs_an, hs_aj, hs_ci, hs_cr, hs_cn, hs_cj, hs_cd, hs_cf, hs_q0, hs_q1, reduceIte, Nat.reduceEqDiff, Nat.reduceAdd, Nat.reduceLT, eq_self, List.getElem?_cons_zero, List.getElem?_cons_succ, List.set_cons_zero, List.set_cons_succ, List.length_cons, List.length_nil, Option.toList_some, Option.toList_none, List.cons_append, List.nil_append, Nat.zero_add, Nat.add_zero, List.map_nil, List.sum_nil, List.map_cons, List.sum_cons, Nat.zero_le, hs_set1]
    exact hl_ireth B rfl rfl (hl_dec okL_receivedOf 10 rfl) (by decide) (by decide) ⟨ca2, f, by rw [hE1]; exact congrArg (fun z => some (Value.int z)) (by decide +kernel), by rw [hl_set_same hr]; exact w2, fun z => by rw [hE1] at z; cases z⟩
theorem oe_reversalOf {σ : LSt} {x : Int32} : ∀ E : String, (op_reversalOf σ x).1 = some E → E ∈ [xIOB, xNSE] := by
  intro E h
  unfold op_reversalOf at h
  rw [ls_res_1] at h
  rcases ls_or_e h with h | h
  · cases er_tra_e h; simp
  (repeat' split at h) <;> first | (cases h; done) | (cases h; simp; done) | (cases er_spe_e h; simp)
theorem ov_reversalOf {σ : LSt} {x : Int32} : ∃ v9, (op_reversalOf σ x).2.2 = .int v9 := by
  unfold op_reversalOf
  exact ⟨_, ls_res_v⟩
abbrev mL_reversalOf : hl_M := (yL_reversalOf, cL_reversalOf, 4, (some .int))
theorem mtL_reversalOf : hl_mh mL_reversalOf [(0, 9, 12, 20), (0, 9, 15, 45)] 3 := ⟨hl_T_of (k := 891) (by decide +kernel) rfl, hl_T_of (k := 48) (by decide +kernel) rfl, ⟨by decide +kernel, by decide +kernel⟩, by decide +kernel, hl_T_of (k := 890) (by decide +kernel) rfl⟩
set_option maxRecDepth 20000 in
set_option maxHeartbeats 2000000 in
theorem cw_reversalOf {G : hl_G} {l : Launch} {a ca : Nat → Nat} {σ : LSt} {x : Int32} {h0 : hl_H} {ro : Nat} {f : Nat → Int64} (hst : l.stackTraces = false) (hI : LInv0 σ) (hr : h0 ro = some (.inl (1, .inr (.inl f)))) :
    hl_Ch G l mL_reversalOf [(0, 9, 12, 20), (0, 9, 15, 45)] 7 12 90 [.ref (a 0), .int x, .ref ro] (LSw a ca σ h0) (lw_Q a h0 ro [xIOB, xNSE] (op_reversalOf σ x)) (fun _ _ => False) := by
  refine hl_bodyh (by decide +kernel) (Nat.le_of_ble_eq_true rfl) ?_
  intro p e s m args below meth c B g hg
  refine hl_segh B okL_reversalOf (fun q => nomatch q) 0 1000 rfl ?_
  simp only [pL_reversalOf, List.drop_zero, List.drop_succ_cons, hl_wp, hs_ii, hs_i1, hs_ll, hs_l1, hs_ff, hs_g1, hs_dd, hs_d1, hs_r1, hs_rv, hs_rv0, hs_n1, hs_n0, hs_v1i, hs_v1r, hs_a1, hs_d2l, hs_d2i, hs_ri, hs_rl, hs_rg, hs_rd8, hs_rr, hs_rn, hs_ov, hs_gf, hs_po, hs_pfi, hs_pfr, hs_ia, hs_la, hs_da, hs_qa, hs_al, hs_is, hs_ls, hs_ds, hs_iso, hs_lso, hs_dso, hs_rd, hs_f1, hs_f10, hs_f2, hs_f20, hs_in0, hs_in1, hs_lt, hs_le, hs_ge, hs_gt, hs_eq, hs_10, hs_00, hs_01, true_and, and_true, true_imp_iff, false_imp_iff, not_true_eq_false, not_false_eq_true, hs_av, hs_ai, hs_ar, hs_an, hs_aj, hs_ci, hs_cr, hs_cn, hs_cj, hs_cd, hs_cf, hs_q0, hs_q1, reduceIte, Nat.reduceEqDiff, Nat.reduceAdd, Nat.reduceLT, eq_self, List.getElem?_cons_zero, List.getElem?_cons_succ, List.set_cons_zero, List.set_cons_succ, List.length_cons, List.length_nil, Option.toList_some, Option.toList_none, List.cons_append, List.nil_append, Nat.zero_add, Nat.add_zero, List.map_nil, List.sum_nil, List.map_cons, List.sum_cons, Nat.zero_le, hs_set1]
  refine hl_callVh B (As := [.int _]) (cm_reversalOf hst hI) mtX7_reversalOf (hl_dec okL_reversalOf 4 rfl) (kk := 892) (by decide +kernel) rfl rfl (hg.1.f0) rfl (Nat.le_of_ble_eq_true rfl) (by decide) (by decide) (by decide) (by decide) hg (fun r9 h9 hq => ?_) (fun E h9 hx => ?_)
  · obtain ⟨ca2, rfl, w2, hn⟩ := hq
    have hro : h9 ro = some (.inl (1, .inr (.inl f))) := w2.2.2.2.2.2.2 ro _ hr
    obtain ⟨v9, hv⟩ := ov_reversalOf (σ := σ) (x := x)
    rw [hv]
    refine hl_segh B okL_reversalOf (fun q => nomatch q) 5 1000 rfl ?_
    simp only [pL_reversalOf, List.drop_zero, List.drop_succ_cons, hl_wp, hs_ii, hs_i1, hs_ll, hs_l1, hs_ff, hs_g1, hs_dd, hs_d1, hs_r1, hs_rv, hs_rv0, hs_n1, hs_n0, hs_v1i, hs_v1r, hs_a1, hs_d2l, hs_d2i, hs_ri, hs_rl, hs_rg, hs_rd8, hs_rr, hs_rn, hs_ov, hs_gf, hs_po, hs_pfi, hs_pfr, hs_ia, hs_la, hs_da, hs_qa, hs_al, hs_is, hs_ls, hs_ds, hs_iso, hs_lso, hs_dso, hs_rd, hs_f1, hs_f10, hs_f2, hs_f20, hs_in0, hs_in1, hs_lt, hs_le, hs_ge, hs_gt, hs_eq, hs_10, hs_00, hs_01, true_and, and_true, true_imp_iff, false_imp_iff, not_true_eq_false, not_false_eq_true, hs_av, hs_ai, hs_ar, hs_an, hs_aj, hs_ci, hs_cr, hs_cn, hs_cj, hs_cd, hs_cf, hs_q0, hs_q1, reduceIte, Nat.reduceEqDiff, Nat.reduceAdd, Nat.reduceLT, eq_self, List.getElem?_cons_zero, List.getElem?_cons_succ, List.set_cons_zero, List.set_cons_succ, List.length_cons, List.length_nil, Option.toList_some, Option.toList_none, List.cons_append, List.nil_append, Nat.zero_add, Nat.add_zero, List.map_nil, List.sum_nil, List.map_cons, List.sum_cons, Nat.zero_le, hs_set1, hro]
    refine ⟨vp_in_nI (n := 0) (N := 1) (by decide) (by decide), ?_⟩
    refine hl_segh B okL_reversalOf (fun q => nomatch q) 14 1000 rfl ?_
    simp only [pL_reversalOf, List.drop_zero, List.drop_succ_cons, hl_wp, hs_ii, hs_i1, hs_ll, hs_l1, hs_ff, hs_g1, hs_dd, hs_d1, hs_r1, hs_rv, hs_rv0, hs_n1, hs_n0, hs_v1i, hs_v1r, hs_a1, hs_d2l, hs_d2i, hs_ri, hs_rl, hs_rg, hs_rd8, hs_rr, hs_rn, hs_ov, hs_gf, hs_po, hs_pfi, hs_pfr, hs_ia, hs_la, hs_da, hs_qa, hs_al, hs_is, hs_ls, hs_ds, hs_iso, hs_lso, hs_dso, hs_rd, hs_f1, hs_f10, hs_f2, hs_f20, hs_in0, hs_in1, hs_lt, hs_le, hs_ge, hs_gt, hs_eq, hs_10, hs_00, hs_01, true_and, and_true, true_imp_iff, false_imp_iff, not_true_eq_false, not_false_eq_true, hs_av, hs_ai, hs_ar, hs_an, hs_aj, hs_ci, hs_cr, hs_cn, hs_cj, hs_cd, hs_cf, hs_q0, hs_q1, reduceIte, Nat.reduceEqDiff, Nat.reduceAdd, Nat.reduceLT, eq_self, List.getElem?_cons_zero, List.getElem?_cons_succ, List.set_cons_zero, List.set_cons_succ, List.length_cons, List.length_nil, Option.toList_some, Option.toList_none, List.cons_append, List.nil_append, Nat.zero_add, Nat.add_zero, List.map_nil, List.sum_nil, List.map_cons, List.sum_cons, Nat.zero_le, hs_set1]
    exact hl_ireth B rfl rfl (hl_dec okL_reversalOf 15 rfl) (by decide) (by decide) ⟨ca2, _, by rw [hn]; rfl, w2.refr hr _, fun _ => by rw [hv]; rfl⟩
  · obtain ⟨ca2, w2, hE1⟩ := hx
    have hm := oe_reversalOf _ hE1
    rcases List.mem_cons.mp hm with rfl | hm
    · skip
      refine hl_catch B (pre := []) (s0 := 0) (e0 := 9) (hp := 12) (ct := 20) (suf := [(0, 9, 15, 45)]) (by simp [hl_ex]) rfl (by decide) (by decide) (kk := 486) (by decide +kernel) (kc := 521) (by decide +kernel) hl_pa_n (fun q => ?_)
      refine hl_segh B okL_reversalOf (fun q => nomatch q) 8 1000 rfl ?_
      simp only [pL_reversalOf, List.drop_zero, List.drop_succ_cons, hl_wp, hs_ii, hs_i1, hs_ll, hs_l1, hs_ff, hs_g1, hs_dd, hs_d1, hs_r1, hs_rv, hs_rv0, hs_n1, hs_n0, hs_v1i, hs_v1r, hs_a1, hs_d2l, hs_d2i, hs_ri, hs_rl, hs_rg, hs_rd8, hs_rr, hs_rn, hs_ov, hs_gf, hs_po, hs_pfi, hs_pfr, hs_ia, hs_la, hs_da, hs_qa, hs_al, hs_is, hs_ls, hs_ds, hs_iso, hs_lso, hs_dso, hs_rd, hs_f1, hs_f10, hs_f2, hs_f20, hs_in0, hs_in1, hs_lt, hs_le, hs_ge, hs_gt, hs_eq, hs_10, hs_00, hs_01, true_and, and_true, true_imp_iff, false_imp_iff, not_true_eq_false, not_false_eq_true, hs_av, hs_ai, hs_ar, hs_an, hs_aj, hs_ci, hs_cr, hs_cn, hs_cj, hs_cd, hs_cf, hs_q0, hs_q1, reduceIte, Nat.reduceEqDiff, Nat.reduceAdd, Nat.reduceLT, eq_self, List.getElem?_cons_zero, List.getElem?_cons_succ, List.set_cons_zero, List.set_cons_succ, List.length_cons, List.length_nil, Option.toList_some, Option.toList_none, List.cons_append, List.nil_append, Nat.zero_add, Nat.add_zero, List.map_nil, List.sum_nil, List.map_cons, List.sum_cons, Nat.zero_le, hs_set1]
      exact hl_ireth B rfl rfl (hl_dec okL_reversalOf 10 rfl) (by decide) (by decide) ⟨ca2, f, by rw [hE1]; exact congrArg (fun z => some (Value.int z)) (by decide +kernel), by rw [hl_set_same hr]; exact w2, fun z => by rw [hE1] at z; cases z⟩
    cases List.mem_singleton.mp hm
    refine hl_catch B (pre := [(0, 9, 12, 20)]) (s0 := 0) (e0 := 9) (hp := 15) (ct := 45) (suf := []) (by simp [hl_ex]) rfl (by decide) (by decide) (kk := 701) (by decide +kernel) (kc := 718) (by decide +kernel) (hl_pa_c ⟨by decide, xIOB, by simp [hl_ex], by decide, hl_T_of (k := 486) (by decide +kernel) rfl⟩ hl_pa_n) (fun q => ?_)
    refine hl_segh B okL_reversalOf (fun q => nomatch q) 11 1000 rfl ?_
    simp only [pL_reversalOf, List.drop_zero, List.drop_succ_cons, hl_wp, hs_ii, hs_i1, hs_ll, hs_l1, hs_ff, hs_g1, hs_dd, hs_d1, hs_r1, hs_rv, hs_rv0, hs_n1, hs_n0, hs_v1i, hs_v1r, hs_a1, hs_d2l, hs_d2i, hs_ri, hs_rl, hs_rg, hs_rd8, hs_rr, hs_rn, hs_ov, hs_gf, hs_po, hs_pfi, hs_pfr, hs_ia, hs_la, hs_da, hs_qa, hs_al, hs_is, hs_ls, hs_ds, hs_iso, hs_lso, hs_dso, hs_rd, hs_f1, hs_f10, hs_f2, hs_f20, hs_in0, hs_in1, hs_lt, hs_le, hs_ge, hs_gt, hs_eq, hs_10, hs_00, hs_01, true_and, and_true, true_imp_iff, false_imp_iff, not_true_eq_false, not_false_eq_true, hs_av, hs_ai, hs_ar, hs_an, hs_aj, hs_ci, hs_cr, hs_cn, hs_cj, hs_cd, hs_cf, hs_q0, hs_q1, reduceIte, Nat.reduceEqDiff, Nat.reduceAdd, Nat.reduceLT, eq_self, List.getElem?_cons_zero, List.getElem?_cons_succ, List.set_cons_zero, List.set_cons_succ, List.length_cons, List.length_nil, Option.toList_some, Option.toList_none, List.cons_append, List.nil_append, Nat.zero_add, Nat.add_zero, List.map_nil, List.sum_nil, List.map_cons, List.sum_cons, Nat.zero_le, hs_set1]
    exact hl_ireth B rfl rfl (hl_dec okL_reversalOf 13 rfl) (by decide) (by decide) ⟨ca2, f, by rw [hE1]; exact congrArg (fun z => some (Value.int z)) (by decide +kernel), by rw [hl_set_same hr]; exact w2, fun z => by rw [hE1] at z; cases z⟩
theorem oe_stateOf {σ : LSt} {x : Int32} : ∀ E : String, (op_stateOf σ x).1 = some E → E ∈ [xIOB] := by
  intro E h
  unfold op_stateOf at h
  rw [ls_res_1] at h
  cases er_hol_e h; simp
theorem ov_stateOf {σ : LSt} {x : Int32} : ∃ v9, (op_stateOf σ x).2.2 = .int v9 := by
  unfold op_stateOf
  exact ⟨_, ls_res_v⟩
abbrev mL_stateOf : hl_M := (yL_stateOf, cL_stateOf, 4, (some .int))
theorem mtL_stateOf : hl_mh mL_stateOf [(0, 9, 12, 20)] 3 := ⟨hl_T_of (k := 899) (by decide +kernel) rfl, hl_T_of (k := 48) (by decide +kernel) rfl, ⟨by decide +kernel, by decide +kernel⟩, by decide +kernel, hl_T_of (k := 898) (by decide +kernel) rfl⟩
set_option maxRecDepth 20000 in
set_option maxHeartbeats 2000000 in
theorem cw_stateOf {G : hl_G} {l : Launch} {a ca : Nat → Nat} {σ : LSt} {x : Int32} {h0 : hl_H} {ro : Nat} {f : Nat → Int64} (hst : l.stackTraces = false) (hI : LInv0 σ) (hr : h0 ro = some (.inl (1, .inr (.inl f)))) :
    hl_Ch G l mL_stateOf [(0, 9, 12, 20)] 7 12 90 [.ref (a 0), .int x, .ref ro] (LSw a ca σ h0) (lw_Q a h0 ro [xIOB] (op_stateOf σ x)) (fun _ _ => False) := by
  refine hl_bodyh (by decide +kernel) (Nat.le_of_ble_eq_true rfl) ?_
  intro p e s m args below meth c B g hg
  refine hl_segh B okL_stateOf (fun q => nomatch q) 0 1000 rfl ?_
  simp only [pL_stateOf, List.drop_zero, List.drop_succ_cons, hl_wp, hs_ii, hs_i1, hs_ll, hs_l1, hs_ff, hs_g1, hs_dd, hs_d1, hs_r1, hs_rv, hs_rv0, hs_n1, hs_n0, hs_v1i, hs_v1r, hs_a1, hs_d2l, hs_d2i, hs_ri, hs_rl, hs_rg, hs_rd8, hs_rr, hs_rn, hs_ov, hs_gf, hs_po, hs_pfi, hs_pfr, hs_ia, hs_la, hs_da, hs_qa, hs_al, hs_is, hs_ls, hs_ds, hs_iso, hs_lso, hs_dso, hs_rd, hs_f1, hs_f10, hs_f2, hs_f20, hs_in0, hs_in1, hs_lt, hs_le, hs_ge, hs_gt, hs_eq, hs_10, hs_00, hs_01, true_and, and_true, true_imp_iff, false_imp_iff, not_true_eq_false, not_false_eq_true, hs_av, hs_ai, hs_ar, hs_an, hs_aj, hs_ci, hs_cr, hs_cn, hs_cj, hs_cd, hs_cf, hs_q0, hs_q1, reduceIte, Nat.reduceEqDiff, Nat.reduceAdd, Nat.reduceLT, eq_self, List.getElem?_cons_zero, List.getElem?_cons_succ, List.set_cons_zero, List.set_cons_succ, List.length_cons, List.length_nil, Option.toList_some, Option.toList_none, List.cons_append, List.nil_append, Nat.zero_add, Nat.add_zero, List.map_nil, List.sum_nil, List.map_cons, List.sum_cons, Nat.zero_le, hs_set1]
  refine hl_callVh B (As := [.int _]) (cm_stateOf hst hI) mtX7_stateOf (hl_dec okL_stateOf 4 rfl) (kk := 900) (by decide +kernel) rfl rfl (hg.1.f0) rfl (Nat.le_of_ble_eq_true rfl) (by decide) (by decide) (by decide) (by decide) hg (fun r9 h9 hq => ?_) (fun E h9 hx => ?_)
  · obtain ⟨ca2, rfl, w2, hn⟩ := hq
    have hro : h9 ro = some (.inl (1, .inr (.inl f))) := w2.2.2.2.2.2.2 ro _ hr
    obtain ⟨v9, hv⟩ := ov_stateOf (σ := σ) (x := x)
    rw [hv]
    refine hl_segh B okL_stateOf (fun q => nomatch q) 5 1000 rfl ?_
    simp only [pL_stateOf, List.drop_zero, List.drop_succ_cons, hl_wp, hs_ii, hs_i1, hs_ll, hs_l1, hs_ff, hs_g1, hs_dd, hs_d1, hs_r1, hs_rv, hs_rv0, hs_n1, hs_n0, hs_v1i, hs_v1r, hs_a1, hs_d2l, hs_d2i, hs_ri, hs_rl, hs_rg, hs_rd8, hs_rr, hs_rn, hs_ov, hs_gf, hs_po, hs_pfi, hs_pfr, hs_ia, hs_la, hs_da, hs_qa, hs_al, hs_is, hs_ls, hs_ds, hs_iso, hs_lso, hs_dso, hs_rd, hs_f1, hs_f10, hs_f2, hs_f20, hs_in0, hs_in1, hs_lt, hs_le, hs_ge, hs_gt, hs_eq, hs_10, hs_00, hs_01, true_and, and_true, true_imp_iff, false_imp_iff, not_true_eq_false, not_false_eq_true, hs_av, hs_ai, hs_ar, hs_an, hs_aj, hs_ci, hs_cr, hs_cn, hs_cj, hs_cd, hs_cf, hs_q0, hs_q1, reduceIte, Nat.reduceEqDiff, Nat.reduceAdd, Nat.reduceLT, eq_self, List.getElem?_cons_zero, List.getElem?_cons_succ, List.set_cons_zero, List.set_cons_succ, List.length_cons, List.length_nil, Option.toList_some, Option.toList_none, List.cons_append, List.nil_append, Nat.zero_add, Nat.add_zero, List.map_nil, List.sum_nil, List.map_cons, List.sum_cons, Nat.zero_le, hs_set1, hro]
    refine ⟨vp_in_nI (n := 0) (N := 1) (by decide) (by decide), ?_⟩
    refine hl_segh B okL_stateOf (fun q => nomatch q) 11 1000 rfl ?_
    simp only [pL_stateOf, List.drop_zero, List.drop_succ_cons, hl_wp, hs_ii, hs_i1, hs_ll, hs_l1, hs_ff, hs_g1, hs_dd, hs_d1, hs_r1, hs_rv, hs_rv0, hs_n1, hs_n0, hs_v1i, hs_v1r, hs_a1, hs_d2l, hs_d2i, hs_ri, hs_rl, hs_rg, hs_rd8, hs_rr, hs_rn, hs_ov, hs_gf, hs_po, hs_pfi, hs_pfr, hs_ia, hs_la, hs_da, hs_qa, hs_al, hs_is, hs_ls, hs_ds, hs_iso, hs_lso, hs_dso, hs_rd, hs_f1, hs_f10, hs_f2, hs_f20, hs_in0, hs_in1, hs_lt, hs_le, hs_ge, hs_gt, hs_eq, hs_10, hs_00, hs_01, true_and, and_true, true_imp_iff, false_imp_iff, not_true_eq_false, not_false_eq_true, hs_av, hs_ai, hs_ar, hs_an, hs_aj, hs_ci, hs_cr, hs_cn, hs_cj, hs_cd, hs_cf, hs_q0, hs_q1, reduceIte, Nat.reduceEqDiff, Nat.reduceAdd, Nat.reduceLT, eq_self, List.getElem?_cons_zero, List.getElem?_cons_succ, List.set_cons_zero, List.set_cons_succ, List.length_cons, List.length_nil, Option.toList_some, Option.toList_none, List.cons_append, List.nil_append, Nat.zero_add, Nat.add_zero, List.map_nil, List.sum_nil, List.map_cons, List.sum_cons, Nat.zero_le, hs_set1]
    exact hl_ireth B rfl rfl (hl_dec okL_stateOf 12 rfl) (by decide) (by decide) ⟨ca2, _, by rw [hn]; rfl, w2.refr hr _, fun _ => by rw [hv]; rfl⟩
  · obtain ⟨ca2, w2, hE1⟩ := hx
    have hm := oe_stateOf _ hE1
    cases List.mem_singleton.mp hm
    refine hl_catch B (pre := []) (s0 := 0) (e0 := 9) (hp := 12) (ct := 20) (suf := []) (by simp [hl_ex]) rfl (by decide) (by decide) (kk := 486) (by decide +kernel) (kc := 521) (by decide +kernel) hl_pa_n (fun q => ?_)
    refine hl_segh B okL_stateOf (fun q => nomatch q) 8 1000 rfl ?_
    simp only [pL_stateOf, List.drop_zero, List.drop_succ_cons, hl_wp, hs_ii, hs_i1, hs_ll, hs_l1, hs_ff, hs_g1, hs_dd, hs_d1, hs_r1, hs_rv, hs_rv0, hs_n1, hs_n0, hs_v1i, hs_v1r, hs_a1, hs_d2l, hs_d2i, hs_ri, hs_rl, hs_rg, hs_rd8, hs_rr, hs_rn, hs_ov, hs_gf, hs_po, hs_pfi, hs_pfr, hs_ia, hs_la, hs_da, hs_qa, hs_al, hs_is, hs_ls, hs_ds, hs_iso, hs_lso, hs_dso, hs_rd, hs_f1, hs_f10, hs_f2, hs_f20, hs_in0, hs_in1, hs_lt, hs_le, hs_ge, hs_gt, hs_eq, hs_10, hs_00, hs_01, true_and, and_true, true_imp_iff, false_imp_iff, not_true_eq_false, not_false_eq_true, hs_av, hs_ai, hs_ar, hs_an, hs_aj, hs_ci, hs_cr, hs_cn, hs_cj, hs_cd, hs_cf, hs_q0, hs_q1, reduceIte, Nat.reduceEqDiff, Nat.reduceAdd, Nat.reduceLT, eq_self, List.getElem?_cons_zero, List.getElem?_cons_succ, List.set_cons_zero, List.set_cons_succ, List.length_cons, List.length_nil, Option.toList_some, Option.toList_none, List.cons_append, List.nil_append, Nat.zero_add, Nat.add_zero, List.map_nil, List.sum_nil, List.map_cons, List.sum_cons, Nat.zero_le, hs_set1]
    exact hl_ireth B rfl rfl (hl_dec okL_stateOf 10 rfl) (by decide) (by decide) ⟨ca2, f, by rw [hE1]; exact congrArg (fun z => some (Value.int z)) (by decide +kernel), by rw [hl_set_same hr]; exact w2, fun z => by rw [hE1] at z; cases z⟩
theorem oe_lastDayOf {σ : LSt} {x : Int32} : ∀ E : String, (op_lastDayOf σ x).1 = some E → E ∈ [xIOB] := by
  intro E h
  unfold op_lastDayOf at h
  rw [ls_res_1] at h
  cases er_hol_e h; simp
theorem ov_lastDayOf {σ : LSt} {x : Int32} : ∃ v9, (op_lastDayOf σ x).2.2 = .int v9 := by
  unfold op_lastDayOf
  exact ⟨_, ls_res_v⟩
abbrev mL_lastDayOf : hl_M := (yL_lastDayOf, cL_lastDayOf, 4, (some .int))
theorem mtL_lastDayOf : hl_mh mL_lastDayOf [(0, 9, 12, 20)] 3 := ⟨hl_T_of (k := 906) (by decide +kernel) rfl, hl_T_of (k := 48) (by decide +kernel) rfl, ⟨by decide +kernel, by decide +kernel⟩, by decide +kernel, hl_T_of (k := 905) (by decide +kernel) rfl⟩
set_option maxRecDepth 20000 in
set_option maxHeartbeats 2000000 in
theorem cw_lastDayOf {G : hl_G} {l : Launch} {a ca : Nat → Nat} {σ : LSt} {x : Int32} {h0 : hl_H} {ro : Nat} {f : Nat → Int64} (hst : l.stackTraces = false) (hI : LInv0 σ) (hr : h0 ro = some (.inl (1, .inr (.inl f)))) :
    hl_Ch G l mL_lastDayOf [(0, 9, 12, 20)] 7 12 90 [.ref (a 0), .int x, .ref ro] (LSw a ca σ h0) (lw_Q a h0 ro [xIOB] (op_lastDayOf σ x)) (fun _ _ => False) := by
  refine hl_bodyh (by decide +kernel) (Nat.le_of_ble_eq_true rfl) ?_
  intro p e s m args below meth c B g hg
  refine hl_segh B okL_lastDayOf (fun q => nomatch q) 0 1000 rfl ?_
  simp only [pL_lastDayOf, List.drop_zero, List.drop_succ_cons, hl_wp, hs_ii, hs_i1, hs_ll, hs_l1, hs_ff, hs_g1, hs_dd, hs_d1, hs_r1, hs_rv, hs_rv0, hs_n1, hs_n0, hs_v1i, hs_v1r, hs_a1, hs_d2l, hs_d2i, hs_ri, hs_rl, hs_rg, hs_rd8, hs_rr, hs_rn, hs_ov, hs_gf, hs_po, hs_pfi, hs_pfr, hs_ia, hs_la, hs_da, hs_qa, hs_al, hs_is, hs_ls, hs_ds, hs_iso, hs_lso, hs_dso, hs_rd, hs_f1, hs_f10, hs_f2, hs_f20, hs_in0, hs_in1, hs_lt, hs_le, hs_ge, hs_gt, hs_eq, hs_10, hs_00, hs_01, true_and, and_true, true_imp_iff, false_imp_iff, not_true_eq_false, not_false_eq_true, hs_av, hs_ai, hs_ar, hs_an, hs_aj, hs_ci, hs_cr, hs_cn, hs_cj, hs_cd, hs_cf, hs_q0, hs_q1, reduceIte, Nat.reduceEqDiff, Nat.reduceAdd, Nat.reduceLT, eq_self, List.getElem?_cons_zero, List.getElem?_cons_succ, List.set_cons_zero, List.set_cons_succ, List.length_cons, List.length_nil, Option.toList_some, Option.toList_none, List.cons_append, List.nil_append, Nat.zero_add, Nat.add_zero, List.map_nil, List.sum_nil, List.map_cons, List.sum_cons, Nat.zero_le, hs_set1]
  refine hl_callVh B (As := [.int _]) (cm_lastDayOf hst hI) mtX7_lastDayOf (hl_dec okL_lastDayOf 4 rfl) (kk := 907) (by decide +kernel) rfl rfl (hg.1.f0) rfl (Nat.le_of_ble_eq_true rfl) (by decide) (by decide) (by decide) (by decide) hg (fun r9 h9 hq => ?_) (fun E h9 hx => ?_)
  · obtain ⟨ca2, rfl, w2, hn⟩ := hq
    have hro : h9 ro = some (.inl (1, .inr (.inl f))) := w2.2.2.2.2.2.2 ro _ hr
    obtain ⟨v9, hv⟩ := ov_lastDayOf (σ := σ) (x := x)
    rw [hv]
    refine hl_segh B okL_lastDayOf (fun q => nomatch q) 5 1000 rfl ?_
    simp only [pL_lastDayOf, List.drop_zero, List.drop_succ_cons, hl_wp, hs_ii, hs_i1, hs_ll, hs_l1, hs_ff, hs_g1, hs_dd, hs_d1, hs_r1, hs_rv, hs_rv0, hs_n1, hs_n0, hs_v1i, hs_v1r, hs_a1, hs_d2l, hs_d2i, hs_ri, hs_rl, hs_rg, hs_rd8, hs_rr, hs_rn, hs_ov, hs_gf, hs_po, hs_pfi, hs_pfr, hs_ia, hs_la, hs_da, hs_qa, hs_al, hs_is, hs_ls, hs_ds, hs_iso, hs_lso, hs_dso, hs_rd, hs_f1, hs_f10, hs_f2, hs_f20, hs_in0, hs_in1, hs_lt, hs_le, hs_ge, hs_gt, hs_eq, hs_10, hs_00, hs_01, true_and, and_true, true_imp_iff, false_imp_iff, not_true_eq_false, not_false_eq_true, hs_av, hs_ai, hs_ar, hs_an, hs_aj, hs_ci, hs_cr, hs_cn, hs_cj, hs_cd, hs_cf, hs_q0, hs_q1, reduceIte, Nat.reduceEqDiff, Nat.reduceAdd, Nat.reduceLT, eq_self, List.getElem?_cons_zero, List.getElem?_cons_succ, List.set_cons_zero, List.set_cons_succ, List.length_cons, List.length_nil, Option.toList_some, Option.toList_none, List.cons_append, List.nil_append, Nat.zero_add, Nat.add_zero, List.map_nil, List.sum_nil, List.map_cons, List.sum_cons, Nat.zero_le, hs_set1, hro]
    refine ⟨vp_in_nI (n := 0) (N := 1) (by decide) (by decide), ?_⟩
    refine hl_segh B okL_lastDayOf (fun q => nomatch q) 11 1000 rfl ?_
    simp only [pL_lastDayOf, List.drop_zero, List.drop_succ_cons, hl_wp, hs_ii, hs_i1, hs_ll, hs_l1, hs_ff, hs_g1, hs_dd, hs_d1, hs_r1, hs_rv, hs_rv0, hs_n1, hs_n0, hs_v1i, hs_v1r, hs_a1, hs_d2l, hs_d2i, hs_ri, hs_rl, hs_rg, hs_rd8, hs_rr, hs_rn, hs_ov, hs_gf, hs_po, hs_pfi, hs_pfr, hs_ia, hs_la, hs_da, hs_qa, hs_al, hs_is, hs_ls, hs_ds, hs_iso, hs_lso, hs_dso, hs_rd, hs_f1, hs_f10, hs_f2, hs_f20, hs_in0, hs_in1, hs_lt, hs_le, hs_ge, hs_gt, hs_eq, hs_10, hs_00, hs_01, true_and, and_true, true_imp_iff, false_imp_iff, not_true_eq_false, not_false_eq_true, hs_av, hs_ai, hs_ar, hs_an, hs_aj, hs_ci, hs_cr, hs_cn, hs_cj, hs_cd, hs_cf, hs_q0, hs_q1, reduceIte, Nat.reduceEqDiff, Nat.reduceAdd, Nat.reduceLT, eq_self, List.getElem?_cons_zero, List.getElem?_cons_succ, List.set_cons_zero, List.set_cons_succ, List.length_cons, List.length_nil, Option.toList_some, Option.toList_none, List.cons_append, List.nil_append, Nat.zero_add, Nat.add_zero, List.map_nil, List.sum_nil, List.map_cons, List.sum_cons, Nat.zero_le, hs_set1]
    exact hl_ireth B rfl rfl (hl_dec okL_lastDayOf 12 rfl) (by decide) (by decide) ⟨ca2, _, by rw [hn]; rfl, w2.refr hr _, fun _ => by rw [hv]; rfl⟩
  · obtain ⟨ca2, w2, hE1⟩ := hx
    have hm := oe_lastDayOf _ hE1
    cases List.mem_singleton.mp hm
    refine hl_catch B (pre := []) (s0 := 0) (e0 := 9) (hp := 12) (ct := 20) (suf := []) (by simp [hl_ex]) rfl (by decide) (by decide) (kk := 486) (by decide +kernel) (kc := 521) (by decide +kernel) hl_pa_n (fun q => ?_)
    refine hl_segh B okL_lastDayOf (fun q => nomatch q) 8 1000 rfl ?_
    simp only [pL_lastDayOf, List.drop_zero, List.drop_succ_cons, hl_wp, hs_ii, hs_i1, hs_ll, hs_l1, hs_ff, hs_g1, hs_dd, hs_d1, hs_r1, hs_rv, hs_rv0, hs_n1, hs_n0, hs_v1i, hs_v1r, hs_a1, hs_d2l, hs_d2i, hs_ri, hs_rl, hs_rg, hs_rd8, hs_rr, hs_rn, hs_ov, hs_gf, hs_po, hs_pfi, hs_pfr, hs_ia, hs_la, hs_da, hs_qa, hs_al, hs_is, hs_ls, hs_ds, hs_iso, hs_lso, hs_dso, hs_rd, hs_f1, hs_f10, hs_f2, hs_f20, hs_in0, hs_in1, hs_lt, hs_le, hs_ge, hs_gt, hs_eq, hs_10, hs_00, hs_01, true_and, and_true, true_imp_iff, false_imp_iff, not_true_eq_false, not_false_eq_true, hs_av, hs_ai, hs_ar, hs_an, hs_aj, hs_ci, hs_cr, hs_cn, hs_cj, hs_cd, hs_cf, hs_q0, hs_q1, reduceIte, Nat.reduceEqDiff, Nat.reduceAdd, Nat.reduceLT, eq_self, List.getElem?_cons_zero, List.getElem?_cons_succ, List.set_cons_zero, List.set_cons_succ, List.length_cons, List.length_nil, Option.toList_some, Option.toList_none, List.cons_append, List.nil_append, Nat.zero_add, Nat.add_zero, List.map_nil, List.sum_nil, List.map_cons, List.sum_cons, Nat.zero_le, hs_set1]
    exact hl_ireth B rfl rfl (hl_dec okL_lastDayOf 10 rfl) (by decide) (by decide) ⟨ca2, f, by rw [hE1]; exact congrArg (fun z => some (Value.int z)) (by decide +kernel), by rw [hl_set_same hr]; exact w2, fun z => by rw [hE1] at z; cases z⟩
theorem oe_answerOf {σ : LSt} {x : Int32} : ∀ E : String, (op_answerOf σ x).1 = some E → E ∈ [xNSE] := by
  intro E h
  unfold op_answerOf at h
  rw [ls_res_1] at h
  (repeat' split at h) <;> first | (cases h; done) | (cases h; simp; done) | (cases er_spe_e h; simp)
theorem ov_answerOf {σ : LSt} {x : Int32} : ∃ v9, (op_answerOf σ x).2.2 = .int v9 := by
  unfold op_answerOf
  exact ⟨_, ls_res_v⟩
abbrev mL_answerOf : hl_M := (yL_answerOf, cL_answerOf, 4, (some .int))
theorem mtL_answerOf : hl_mh mL_answerOf [(0, 9, 12, 45)] 3 := ⟨hl_T_of (k := 913) (by decide +kernel) rfl, hl_T_of (k := 48) (by decide +kernel) rfl, ⟨by decide +kernel, by decide +kernel⟩, by decide +kernel, hl_T_of (k := 912) (by decide +kernel) rfl⟩
set_option maxRecDepth 20000 in
set_option maxHeartbeats 2000000 in
theorem cw_answerOf {G : hl_G} {l : Launch} {a ca : Nat → Nat} {σ : LSt} {x : Int32} {h0 : hl_H} {ro : Nat} {f : Nat → Int64} (hst : l.stackTraces = false) (hI : LInv0 σ) (hr : h0 ro = some (.inl (1, .inr (.inl f)))) :
    hl_Ch G l mL_answerOf [(0, 9, 12, 45)] 7 12 90 [.ref (a 0), .int x, .ref ro] (LSw a ca σ h0) (lw_Q a h0 ro [xNSE] (op_answerOf σ x)) (fun _ _ => False) := by
  refine hl_bodyh (by decide +kernel) (Nat.le_of_ble_eq_true rfl) ?_
  intro p e s m args below meth c B g hg
  refine hl_segh B okL_answerOf (fun q => nomatch q) 0 1000 rfl ?_
  simp only [pL_answerOf, List.drop_zero, List.drop_succ_cons, hl_wp, hs_ii, hs_i1, hs_ll, hs_l1, hs_ff, hs_g1, hs_dd, hs_d1, hs_r1, hs_rv, hs_rv0, hs_n1, hs_n0, hs_v1i, hs_v1r, hs_a1, hs_d2l, hs_d2i, hs_ri, hs_rl, hs_rg, hs_rd8, hs_rr, hs_rn, hs_ov, hs_gf, hs_po, hs_pfi, hs_pfr, hs_ia, hs_la, hs_da, hs_qa, hs_al, hs_is, hs_ls, hs_ds, hs_iso, hs_lso, hs_dso, hs_rd, hs_f1, hs_f10, hs_f2, hs_f20, hs_in0, hs_in1, hs_lt, hs_le, hs_ge, hs_gt, hs_eq, hs_10, hs_00, hs_01, true_and, and_true, true_imp_iff, false_imp_iff, not_true_eq_false, not_false_eq_true, hs_av, hs_ai, hs_ar, hs_an, hs_aj, hs_ci, hs_cr, hs_cn, hs_cj, hs_cd, hs_cf, hs_q0, hs_q1, reduceIte, Nat.reduceEqDiff, Nat.reduceAdd, Nat.reduceLT, eq_self, List.getElem?_cons_zero, List.getElem?_cons_succ, List.set_cons_zero, List.set_cons_succ, List.length_cons, List.length_nil, Option.toList_some, Option.toList_none, List.cons_append, List.nil_append, Nat.zero_add, Nat.add_zero, List.map_nil, List.sum_nil, List.map_cons, List.sum_cons, Nat.zero_le, hs_set1]
  refine hl_callVh B (As := [.int _]) (cm_answerOf hst hI) mtX7_answerOf (hl_dec okL_answerOf 4 rfl) (kk := 914) (by decide +kernel) rfl rfl (hg.1.f0) rfl (Nat.le_of_ble_eq_true rfl) (by decide) (by decide) (by decide) (by decide) hg (fun r9 h9 hq => ?_) (fun E h9 hx => ?_)
  · obtain ⟨ca2, rfl, w2, hn⟩ := hq
    have hro : h9 ro = some (.inl (1, .inr (.inl f))) := w2.2.2.2.2.2.2 ro _ hr
    obtain ⟨v9, hv⟩ := ov_answerOf (σ := σ) (x := x)
    rw [hv]
    refine hl_segh B okL_answerOf (fun q => nomatch q) 5 1000 rfl ?_
    simp only [pL_answerOf, List.drop_zero, List.drop_succ_cons, hl_wp, hs_ii, hs_i1, hs_ll, hs_l1, hs_ff, hs_g1, hs_dd, hs_d1, hs_r1, hs_rv, hs_rv0, hs_n1, hs_n0, hs_v1i, hs_v1r, hs_a1, hs_d2l, hs_d2i, hs_ri, hs_rl, hs_rg, hs_rd8, hs_rr, hs_rn, hs_ov, hs_gf, hs_po, hs_pfi, hs_pfr, hs_ia, hs_la, hs_da, hs_qa, hs_al, hs_is, hs_ls, hs_ds, hs_iso, hs_lso, hs_dso, hs_rd, hs_f1, hs_f10, hs_f2, hs_f20, hs_in0, hs_in1, hs_lt, hs_le, hs_ge, hs_gt, hs_eq, hs_10, hs_00, hs_01, true_and, and_true, true_imp_iff, false_imp_iff, not_true_eq_false, not_false_eq_true, hs_av, hs_ai, hs_ar, hs_an, hs_aj, hs_ci, hs_cr, hs_cn, hs_cj, hs_cd, hs_cf, hs_q0, hs_q1, reduceIte, Nat.reduceEqDiff, Nat.reduceAdd, Nat.reduceLT, eq_self, List.getElem?_cons_zero, List.getElem?_cons_succ, List.set_cons_zero, List.set_cons_succ, List.length_cons, List.length_nil, Option.toList_some, Option.toList_none, List.cons_append, List.nil_append, Nat.zero_add, Nat.add_zero, List.map_nil, List.sum_nil, List.map_cons, List.sum_cons, Nat.zero_le, hs_set1, hro]
    refine ⟨vp_in_nI (n := 0) (N := 1) (by decide) (by decide), ?_⟩
    refine hl_segh B okL_answerOf (fun q => nomatch q) 11 1000 rfl ?_
    simp only [pL_answerOf, List.drop_zero, List.drop_succ_cons, hl_wp, hs_ii, hs_i1, hs_ll, hs_l1, hs_ff, hs_g1, hs_dd, hs_d1, hs_r1, hs_rv, hs_rv0, hs_n1, hs_n0, hs_v1i, hs_v1r, hs_a1, hs_d2l, hs_d2i, hs_ri, hs_rl, hs_rg, hs_rd8, hs_rr, hs_rn, hs_ov, hs_gf, hs_po, hs_pfi, hs_pfr, hs_ia, hs_la, hs_da, hs_qa, hs_al, hs_is, hs_ls, hs_ds, hs_iso, hs_lso, hs_dso, hs_rd, hs_f1, hs_f10, hs_f2, hs_f20, hs_in0, hs_in1, hs_lt, hs_le, hs_ge, hs_gt, hs_eq, hs_10, hs_00, hs_01, true_and, and_true, true_imp_iff, false_imp_iff, not_true_eq_false, not_false_eq_true, hs_av, hs_ai, hs_ar, hs_an, hs_aj, hs_ci, hs_cr, hs_cn, hs_cj, hs_cd, hs_cf, hs_q0, hs_q1, reduceIte, Nat.reduceEqDiff, Nat.reduceAdd, Nat.reduceLT, eq_self, List.getElem?_cons_zero, List.getElem?_cons_succ, List.set_cons_zero, List.set_cons_succ, List.length_cons, List.length_nil, Option.toList_some, Option.toList_none, List.cons_append, List.nil_append, Nat.zero_add, Nat.add_zero, List.map_nil, List.sum_nil, List.map_cons, List.sum_cons, Nat.zero_le, hs_set1]
    exact hl_ireth B rfl rfl (hl_dec okL_answerOf 12 rfl) (by decide) (by decide) ⟨ca2, _, by rw [hn]; rfl, w2.refr hr _, fun _ => by rw [hv]; rfl⟩
  · obtain ⟨ca2, w2, hE1⟩ := hx
    have hm := oe_answerOf _ hE1
    cases List.mem_singleton.mp hm
    refine hl_catch B (pre := []) (s0 := 0) (e0 := 9) (hp := 12) (ct := 45) (suf := []) (by simp [hl_ex]) rfl (by decide) (by decide) (kk := 701) (by decide +kernel) (kc := 718) (by decide +kernel) hl_pa_n (fun q => ?_)
    refine hl_segh B okL_answerOf (fun q => nomatch q) 8 1000 rfl ?_
    simp only [pL_answerOf, List.drop_zero, List.drop_succ_cons, hl_wp, hs_ii, hs_i1, hs_ll, hs_l1, hs_ff, hs_g1, hs_dd, hs_d1, hs_r1, hs_rv, hs_rv0, hs_n1, hs_n0, hs_v1i, hs_v1r, hs_a1, hs_d2l, hs_d2i, hs_ri, hs_rl, hs_rg, hs_rd8, hs_rr, hs_rn, hs_ov, hs_gf, hs_po, hs_pfi, hs_pfr, hs_ia, hs_la, hs_da, hs_qa, hs_al, hs_is, hs_ls, hs_ds, hs_iso, hs_lso, hs_dso, hs_rd, hs_f1, hs_f10, hs_f2, hs_f20, hs_in0, hs_in1, hs_lt, hs_le, hs_ge, hs_gt, hs_eq, hs_10, hs_00, hs_01, true_and, and_true, true_imp_iff, false_imp_iff, not_true_eq_false, not_false_eq_true, hs_av, hs_ai, hs_ar, hs_an, hs_aj, hs_ci, hs_cr, hs_cn, hs_cj, hs_cd, hs_cf, hs_q0, hs_q1, reduceIte, Nat.reduceEqDiff, Nat.reduceAdd, Nat.reduceLT, eq_self, List.getElem?_cons_zero, List.getElem?_cons_succ, List.set_cons_zero, List.set_cons_succ, List.length_cons, List.length_nil, Option.toList_some, Option.toList_none, List.cons_append, List.nil_append, Nat.zero_add, Nat.add_zero, List.map_nil, List.sum_nil, List.map_cons, List.sum_cons, Nat.zero_le, hs_set1]
    exact hl_ireth B rfl rfl (hl_dec okL_answerOf 10 rfl) (by decide) (by decide) ⟨ca2, f, by rw [hE1]; exact congrArg (fun z => some (Value.int z)) (by decide +kernel), by rw [hl_set_same hr]; exact w2, fun z => by rw [hE1] at z; cases z⟩
theorem oe_reversedShare {σ : LSt} : ∀ E : String, (op_reversedShare σ).1 = some E → E ∈ [xARE] := by
  intro E h
  unfold op_reversedShare at h
  rw [ls_res_1] at h
  (repeat' split at h) <;> first | (cases h; done) | (cases h; simp; done) | (cases er_spe_e h; simp)
theorem ov_reversedShare {σ : LSt} : ∃ v9, (op_reversedShare σ).2.2 = .float v9 := by
  unfold op_reversedShare
  exact ⟨_, ls_res_v⟩
abbrev mL_reversedShare : hl_M := (yL_reversedShare, cL_reversedShare, 3, (some .int))
theorem mtL_reversedShare : hl_mh mL_reversedShare [(0, 8, 11, 119)] 2 := ⟨hl_T_of (k := 921) (by decide +kernel) rfl, hl_T_of (k := 48) (by decide +kernel) rfl, ⟨by decide +kernel, by decide +kernel⟩, by decide +kernel, hl_T_of (k := 920) (by decide +kernel) rfl⟩
set_option maxRecDepth 20000 in
set_option maxHeartbeats 2000000 in
theorem cw_reversedShare {G : hl_G} {l : Launch} {a ca : Nat → Nat} {σ : LSt} {h0 : hl_H} {ro : Nat} {f : Nat → UInt64} (hst : l.stackTraces = false) (hI : LInv0 σ) (hr : h0 ro = some (.inl (1, .inr (.inr (.inr (.inl f)))))) (hfp : 1 ≤ nI (σ.2.1 1) → vf_n32 (FP.fdiv (FP.i2f (nI (ls_nrev σ))) (FP.i2f (nI (σ.2.1 1))))) (hfd : 1 ≤ nI (σ.2.1 1) → vf_n64 (FP.f2d (FP.fdiv (FP.i2f (nI (ls_nrev σ))) (FP.i2f (nI (σ.2.1 1)))))) :
    hl_Ch G l mL_reversedShare [(0, 8, 11, 119)] 7 12 90 [.ref (a 0), .ref ro] (LSw a ca σ h0) (lw_D a h0 ro [xARE] (op_reversedShare σ)) (fun _ _ => False) := by
  refine hl_bodyh (by decide +kernel) (Nat.le_of_ble_eq_true rfl) ?_
  intro p e s m args below meth c B g hg
  refine hl_segh B okL_reversedShare (fun q => nomatch q) 0 1000 rfl ?_
  simp only [pL_reversedShare, List.drop_zero, List.drop_succ_cons, hl_wp, hs_ii, hs_i1, hs_ll, hs_l1, hs_ff, hs_g1, hs_dd, hs_d1, hs_r1, hs_rv, hs_rv0, hs_n1, hs_n0, hs_v1i, hs_v1r, hs_a1, hs_d2l, hs_d2i, hs_ri, hs_rl, hs_rg, hs_rd8, hs_rr, hs_rn, hs_ov, hs_gf, hs_po, hs_pfi, hs_pfr, hs_ia, hs_la, hs_da, hs_qa, hs_al, hs_is, hs_ls, hs_ds, hs_iso, hs_lso, hs_dso, hs_rd, hs_f1, hs_f10, hs_f2, hs_f20, hs_in0, hs_in1, hs_lt, hs_le, hs_ge, hs_gt, hs_eq, hs_10, hs_00, hs_01, true_and, and_true, true_imp_iff, false_imp_iff, not_true_eq_false, not_false_eq_true, hs_av, hs_ai, hs_ar, hs_an, hs_aj, hs_ci, hs_cr, hs_cn, hs_cj, hs_cd, hs_cf, hs_q0, hs_q1, reduceIte, Nat.reduceEqDiff, Nat.reduceAdd, Nat.reduceLT, eq_self, List.getElem?_cons_zero, List.getElem?_cons_succ, List.set_cons_zero, List.set_cons_succ, List.length_cons, List.length_nil, Option.toList_some, Option.toList_none, List.cons_append, List.nil_append, Nat.zero_add, Nat.add_zero, List.map_nil, List.sum_nil, List.map_cons, List.sum_cons, Nat.zero_le, hs_set1]
  refine hl_callVh B (As := []) (cm_reversedShare hst hI hfp) mtX7_reversedShare (hl_dec okL_reversedShare 3 rfl) (kk := 936) (by decide +kernel) rfl rfl (hg.1.f0) rfl (Nat.le_of_ble_eq_true rfl) (by decide) (by decide) (by decide) (by decide) hg (fun r9 h9 hq => ?_) (fun E h9 hx => ?_)
  · obtain ⟨ca2, rfl, w2, hn⟩ := hq
    have hro : h9 ro = some (.inl (1, .inr (.inr (.inr (.inl f))))) := w2.2.2.2.2.2.2 ro _ hr
    have hc1 : 1 ≤ nI (σ.2.1 1) := by
      unfold op_reversedShare at hn
      rw [ls_res_1] at hn
      split at hn
      · assumption
      · cases hn
    have hv : (op_reversedShare σ).2.2 = .float (FP.fdiv (FP.i2f (nI (ls_nrev σ))) (FP.i2f (nI (σ.2.1 1)))) := ls_res_v
    rw [hv]
    refine hl_segh B okL_reversedShare (fun q => nomatch q) 4 1000 rfl ?_
    simp only [pL_reversedShare, List.drop_zero, List.drop_succ_cons, hl_wp, hs_ii, hs_i1, hs_ll, hs_l1, hs_ff, hs_g1, hs_dd, hs_d1, hs_r1, hs_rv, hs_rv0, hs_n1, hs_n0, hs_v1i, hs_v1r, hs_a1, hs_d2l, hs_d2i, hs_ri, hs_rl, hs_rg, hs_rd8, hs_rr, hs_rn, hs_ov, hs_gf, hs_po, hs_pfi, hs_pfr, hs_ia, hs_la, hs_da, hs_qa, hs_al, hs_is, hs_ls, hs_ds, hs_iso, hs_lso, hs_dso, hs_rd, hs_f1, hs_f10, hs_f2, hs_f20, hs_in0, hs_in1, hs_lt, hs_le, hs_ge, hs_gt, hs_eq, hs_10, hs_00, hs_01, true_and, and_true, true_imp_iff, false_imp_iff, not_true_eq_false, not_false_eq_true, hs_av, hs_ai, hs_ar, hs_an, hs_aj, hs_ci, hs_cr, hs_cn, hs_cj, hs_cd, hs_cf, hs_q0, hs_q1, reduceIte, Nat.reduceEqDiff, Nat.reduceAdd, Nat.reduceLT, eq_self, List.getElem?_cons_zero, List.getElem?_cons_succ, List.set_cons_zero, List.set_cons_succ, List.length_cons, List.length_nil, Option.toList_some, Option.toList_none, List.cons_append, List.nil_append, Nat.zero_add, Nat.add_zero, List.map_nil, List.sum_nil, List.map_cons, List.sum_cons, Nat.zero_le, hs_set1, hro]
    refine ⟨hfd hc1, ?_⟩
    refine ⟨vp_in_nI (n := 0) (N := 1) (by decide) (by decide), ?_⟩
    refine hl_segh B okL_reversedShare (fun q => nomatch q) 10 1000 rfl ?_
    simp only [pL_reversedShare, List.drop_zero, List.drop_succ_cons, hl_wp, hs_ii, hs_i1, hs_ll, hs_l1, hs_ff, hs_g1, hs_dd, hs_d1, hs_r1, hs_rv, hs_rv0, hs_n1, hs_n0, hs_v1i, hs_v1r, hs_a1, hs_d2l, hs_d2i, hs_ri, hs_rl, hs_rg, hs_rd8, hs_rr, hs_rn, hs_ov, hs_gf, hs_po, hs_pfi, hs_pfr, hs_ia, hs_la, hs_da, hs_qa, hs_al, hs_is, hs_ls, hs_ds, hs_iso, hs_lso, hs_dso, hs_rd, hs_f1, hs_f10, hs_f2, hs_f20, hs_in0, hs_in1, hs_lt, hs_le, hs_ge, hs_gt, hs_eq, hs_10, hs_00, hs_01, true_and, and_true, true_imp_iff, false_imp_iff, not_true_eq_false, not_false_eq_true, hs_av, hs_ai, hs_ar, hs_an, hs_aj, hs_ci, hs_cr, hs_cn, hs_cj, hs_cd, hs_cf, hs_q0, hs_q1, reduceIte, Nat.reduceEqDiff, Nat.reduceAdd, Nat.reduceLT, eq_self, List.getElem?_cons_zero, List.getElem?_cons_succ, List.set_cons_zero, List.set_cons_succ, List.length_cons, List.length_nil, Option.toList_some, Option.toList_none, List.cons_append, List.nil_append, Nat.zero_add, Nat.add_zero, List.map_nil, List.sum_nil, List.map_cons, List.sum_cons, Nat.zero_le, hs_set1]
    exact hl_ireth B rfl rfl (hl_dec okL_reversedShare 11 rfl) (by decide) (by decide) ⟨ca2, _, by rw [hn]; rfl, w2.refr hr _, fun _ => by rw [hv]; rfl⟩
  · obtain ⟨ca2, w2, hE1⟩ := hx
    have hm := oe_reversedShare _ hE1
    cases List.mem_singleton.mp hm
    refine hl_catch B (pre := []) (s0 := 0) (e0 := 8) (hp := 11) (ct := 119) (suf := []) (by simp [hl_ex]) rfl (by decide) (by decide) (kk := 922) (by decide +kernel) (kc := 934) (by decide +kernel) hl_pa_n (fun q => ?_)
    refine hl_segh B okL_reversedShare (fun q => nomatch q) 7 1000 rfl ?_
    simp only [pL_reversedShare, List.drop_zero, List.drop_succ_cons, hl_wp, hs_ii, hs_i1, hs_ll, hs_l1, hs_ff, hs_g1, hs_dd, hs_d1, hs_r1, hs_rv, hs_rv0, hs_n1, hs_n0, hs_v1i, hs_v1r, hs_a1, hs_d2l, hs_d2i, hs_ri, hs_rl, hs_rg, hs_rd8, hs_rr, hs_rn, hs_ov, hs_gf, hs_po, hs_pfi, hs_pfr, hs_ia, hs_la, hs_da, hs_qa, hs_al, hs_is, hs_ls, hs_ds, hs_iso, hs_lso, hs_dso, hs_rd, hs_f1, hs_f10, hs_f2, hs_f20, hs_in0, hs_in1, hs_lt, hs_le, hs_ge, hs_gt, hs_eq, hs_10, hs_00, hs_01, true_and, and_true, true_imp_iff, false_imp_iff, not_true_eq_false, not_false_eq_true, hs_av, hs_ai, hs_ar, hs_an, hs_aj, hs_ci, hs_cr, hs_cn, hs_cj, hs_cd, hs_cf, hs_q0, hs_q1, reduceIte, Nat.reduceEqDiff, Nat.reduceAdd, Nat.reduceLT, eq_self, List.getElem?_cons_zero, List.getElem?_cons_succ, List.set_cons_zero, List.set_cons_succ, List.length_cons, List.length_nil, Option.toList_some, Option.toList_none, List.cons_append, List.nil_append, Nat.zero_add, Nat.add_zero, List.map_nil, List.sum_nil, List.map_cons, List.sum_cons, Nat.zero_le, hs_set1]
    exact hl_ireth B rfl rfl (hl_dec okL_reversedShare 9 rfl) (by decide) (by decide) ⟨ca2, f, by rw [hE1]; exact congrArg (fun z => some (Value.int z)) (by decide +kernel), by rw [hl_set_same hr]; exact w2, fun z => by rw [hE1] at z; cases z⟩
theorem oe_meanPaid {σ : LSt} : ∀ E : String, (op_meanPaid σ).1 = some E → E ∈ [xARE] := by
  intro E h
  unfold op_meanPaid at h
  rw [ls_res_1] at h
  (repeat' split at h) <;> first | (cases h; done) | (cases h; simp; done) | (cases er_spe_e h; simp)
theorem ov_meanPaid {σ : LSt} : ∃ v9, (op_meanPaid σ).2.2 = .double v9 := by
  unfold op_meanPaid
  exact ⟨_, ls_res_v⟩
abbrev mL_meanPaid : hl_M := (yL_meanPaid, cL_meanPaid, 3, (some .int))
theorem mtL_meanPaid : hl_mh mL_meanPaid [(0, 7, 10, 119)] 2 := ⟨hl_T_of (k := 950) (by decide +kernel) rfl, hl_T_of (k := 48) (by decide +kernel) rfl, ⟨by decide +kernel, by decide +kernel⟩, by decide +kernel, hl_T_of (k := 949) (by decide +kernel) rfl⟩
set_option maxRecDepth 20000 in
set_option maxHeartbeats 2000000 in
theorem cw_meanPaid {G : hl_G} {l : Launch} {a ca : Nat → Nat} {σ : LSt} {h0 : hl_H} {ro : Nat} {f : Nat → UInt64} (hst : l.stackTraces = false) (hI : LInv0 σ) (hr : h0 ro = some (.inl (1, .inr (.inr (.inr (.inl f)))))) (hfp : 1 ≤ nI (σ.2.1 1) → vf_n64 (FP.ddiv (FP.l2d (ls_paid σ)) (FP.i2d (nI (σ.2.1 1))))) :
    hl_Ch G l mL_meanPaid [(0, 7, 10, 119)] 7 12 90 [.ref (a 0), .ref ro] (LSw a ca σ h0) (lw_D a h0 ro [xARE] (op_meanPaid σ)) (fun _ _ => False) := by
  refine hl_bodyh (by decide +kernel) (Nat.le_of_ble_eq_true rfl) ?_
  intro p e s m args below meth c B g hg
  refine hl_segh B okL_meanPaid (fun q => nomatch q) 0 1000 rfl ?_
  simp only [pL_meanPaid, List.drop_zero, List.drop_succ_cons, hl_wp, hs_ii, hs_i1, hs_ll, hs_l1, hs_ff, hs_g1, hs_dd, hs_d1, hs_r1, hs_rv, hs_rv0, hs_n1, hs_n0, hs_v1i, hs_v1r, hs_a1, hs_d2l, hs_d2i, hs_ri, hs_rl, hs_rg, hs_rd8, hs_rr, hs_rn, hs_ov, hs_gf, hs_po, hs_pfi, hs_pfr, hs_ia, hs_la, hs_da, hs_qa, hs_al, hs_is, hs_ls, hs_ds, hs_iso, hs_lso, hs_dso, hs_rd, hs_f1, hs_f10, hs_f2, hs_f20, hs_in0, hs_in1, hs_lt, hs_le, hs_ge, hs_gt, hs_eq, hs_10, hs_00, hs_01, true_and, and_true, true_imp_iff, false_imp_iff, not_true_eq_false, not_false_eq_true, hs_av, hs_ai, hs_ar, hs_an, hs_aj, hs_ci, hs_cr, hs_cn, hs_cj, hs_cd, hs_cf, hs_q0, hs_q1, reduceIte, Nat.reduceEqDiff, Nat.reduceAdd, Nat.reduceLT, eq_self, List.getElem?_cons_zero, List.getElem?_cons_succ, List.set_cons_zero, List.set_cons_succ, List.length_cons, List.length_nil, Option.toList_some, Option.toList_none, List.cons_append, List.nil_append, Nat.zero_add, Nat.add_zero, List.map_nil, List.sum_nil, List.map_cons, List.sum_cons, Nat.zero_le, hs_set1]
  refine hl_callVh B (As := []) (cm_meanPaid hst hI hfp) mtX7_meanPaid (hl_dec okL_meanPaid 3 rfl) (kk := 951) (by decide +kernel) rfl rfl (hg.1.f0) rfl (Nat.le_of_ble_eq_true rfl) (by decide) (by decide) (by decide) (by decide) hg (fun r9 h9 hq => ?_) (fun E h9 hx => ?_)
  · obtain ⟨ca2, rfl, w2, hn⟩ := hq
    have hro : h9 ro = some (.inl (1, .inr (.inr (.inr (.inl f))))) := w2.2.2.2.2.2.2 ro _ hr
    obtain ⟨v9, hv⟩ := ov_meanPaid (σ := σ)
    rw [hv]
    refine hl_segh B okL_meanPaid (fun q => nomatch q) 4 1000 rfl ?_
    simp only [pL_meanPaid, List.drop_zero, List.drop_succ_cons, hl_wp, hs_ii, hs_i1, hs_ll, hs_l1, hs_ff, hs_g1, hs_dd, hs_d1, hs_r1, hs_rv, hs_rv0, hs_n1, hs_n0, hs_v1i, hs_v1r, hs_a1, hs_d2l, hs_d2i, hs_ri, hs_rl, hs_rg, hs_rd8, hs_rr, hs_rn, hs_ov, hs_gf, hs_po, hs_pfi, hs_pfr, hs_ia, hs_la, hs_da, hs_qa, hs_al, hs_is, hs_ls, hs_ds, hs_iso, hs_lso, hs_dso, hs_rd, hs_f1, hs_f10, hs_f2, hs_f20, hs_in0, hs_in1, hs_lt, hs_le, hs_ge, hs_gt, hs_eq, hs_10, hs_00, hs_01, true_and, and_true, true_imp_iff, false_imp_iff, not_true_eq_false, not_false_eq_true, hs_av, hs_ai, hs_ar, hs_an, hs_aj, hs_ci, hs_cr, hs_cn, hs_cj, hs_cd, hs_cf, hs_q0, hs_q1, reduceIte, Nat.reduceEqDiff, Nat.reduceAdd, Nat.reduceLT, eq_self, List.getElem?_cons_zero, List.getElem?_cons_succ, List.set_cons_zero, List.set_cons_succ, List.length_cons, List.length_nil, Option.toList_some, Option.toList_none, List.cons_append, List.nil_append, Nat.zero_add, Nat.add_zero, List.map_nil, List.sum_nil, List.map_cons, List.sum_cons, Nat.zero_le, hs_set1, hro]
    refine ⟨vp_in_nI (n := 0) (N := 1) (by decide) (by decide), ?_⟩
    refine hl_segh B okL_meanPaid (fun q => nomatch q) 9 1000 rfl ?_
    simp only [pL_meanPaid, List.drop_zero, List.drop_succ_cons, hl_wp, hs_ii, hs_i1, hs_ll, hs_l1, hs_ff, hs_g1, hs_dd, hs_d1, hs_r1, hs_rv, hs_rv0, hs_n1, hs_n0, hs_v1i, hs_v1r, hs_a1, hs_d2l, hs_d2i, hs_ri, hs_rl, hs_rg, hs_rd8, hs_rr, hs_rn, hs_ov, hs_gf, hs_po, hs_pfi, hs_pfr, hs_ia, hs_la, hs_da, hs_qa, hs_al, hs_is, hs_ls, hs_ds, hs_iso, hs_lso, hs_dso, hs_rd, hs_f1, hs_f10, hs_f2, hs_f20, hs_in0, hs_in1, hs_lt, hs_le, hs_ge, hs_gt, hs_eq, hs_10, hs_00, hs_01, true_and, and_true, true_imp_iff, false_imp_iff, not_true_eq_false, not_false_eq_true, hs_av, hs_ai, hs_ar, hs_an, hs_aj, hs_ci, hs_cr, hs_cn, hs_cj, hs_cd, hs_cf, hs_q0, hs_q1, reduceIte, Nat.reduceEqDiff, Nat.reduceAdd, Nat.reduceLT, eq_self, List.getElem?_cons_zero, List.getElem?_cons_succ, List.set_cons_zero, List.set_cons_succ, List.length_cons, List.length_nil, Option.toList_some, Option.toList_none, List.cons_append, List.nil_append, Nat.zero_add, Nat.add_zero, List.map_nil, List.sum_nil, List.map_cons, List.sum_cons, Nat.zero_le, hs_set1]
    exact hl_ireth B rfl rfl (hl_dec okL_meanPaid 10 rfl) (by decide) (by decide) ⟨ca2, _, by rw [hn]; rfl, w2.refr hr _, fun _ => by rw [hv]; rfl⟩
  · obtain ⟨ca2, w2, hE1⟩ := hx
    have hm := oe_meanPaid _ hE1
    cases List.mem_singleton.mp hm
    refine hl_catch B (pre := []) (s0 := 0) (e0 := 7) (hp := 10) (ct := 119) (suf := []) (by simp [hl_ex]) rfl (by decide) (by decide) (kk := 922) (by decide +kernel) (kc := 934) (by decide +kernel) hl_pa_n (fun q => ?_)
    refine hl_segh B okL_meanPaid (fun q => nomatch q) 6 1000 rfl ?_
    simp only [pL_meanPaid, List.drop_zero, List.drop_succ_cons, hl_wp, hs_ii, hs_i1, hs_ll, hs_l1, hs_ff, hs_g1, hs_dd, hs_d1, hs_r1, hs_rv, hs_rv0, hs_n1, hs_n0, hs_v1i, hs_v1r, hs_a1, hs_d2l, hs_d2i, hs_ri, hs_rl, hs_rg, hs_rd8, hs_rr, hs_rn, hs_ov, hs_gf, hs_po, hs_pfi, hs_pfr, hs_ia, hs_la, hs_da, hs_qa, hs_al, hs_is, hs_ls, hs_ds, hs_iso, hs_lso, hs_dso, hs_rd, hs_f1, hs_f10, hs_f2, hs_f20, hs_in0, hs_in1, hs_lt, hs_le, hs_ge, hs_gt, hs_eq, hs_10, hs_00, hs_01, true_and, and_true, true_imp_iff, false_imp_iff, not_true_eq_false, not_false_eq_true, hs_av, hs_ai, hs_ar, hs_an, hs_aj, hs_ci, hs_cr, hs_cn, hs_cj, hs_cd, hs_cf, hs_q0, hs_q1, reduceIte, Nat.reduceEqDiff, Nat.reduceAdd, Nat.reduceLT, eq_self, List.getElem?_cons_zero, List.getElem?_cons_succ, List.set_cons_zero, List.set_cons_succ, List.length_cons, List.length_nil, Option.toList_some, Option.toList_none, List.cons_append, List.nil_append, Nat.zero_add, Nat.add_zero, List.map_nil, List.sum_nil, List.map_cons, List.sum_cons, Nat.zero_le, hs_set1]
    exact hl_ireth B rfl rfl (hl_dec okL_meanPaid 8 rfl) (by decide) (by decide) ⟨ca2, f, by rw [hE1]; exact congrArg (fun z => some (Value.int z)) (by decide +kernel), by rw [hl_set_same hr]; exact w2, fun z => by rw [hE1] at z; cases z⟩
