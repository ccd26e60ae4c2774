/-! PART 32: both worlds in one heap, and what the law's own body needs -/
/-- the object, the reference and the two rows for answers, apart from each other -/
def ww_W (a ca b : Nat → Nat) (ro rd : Nat) (σ : LSt) (μ : LMt) (f : Nat → Int64) (fd : Nat → UInt64) (h : hl_H) : Prop :=
  LSr a ca σ h ∧ LMr b μ h ∧ h ro = some (.inl (1, .inr (.inl f))) ∧ h rd = some (.inl (1, .inr (.inr (.inr (.inl fd))))) ∧
  (∀ i j : Nat, i < 51 → j < 51 → a i = a j → i = j) ∧ (∀ i j : Nat, i < σ.2.1 4 → j < σ.2.1 4 → ca i = ca j → i = j) ∧ (∀ i j : Nat, i < 51 → j < σ.2.1 4 → a i ≠ ca j) ∧
  (∀ i j : Nat, i < 27 → j < 27 → b i = b j → i = j) ∧ (∀ i j : Nat, i < 51 → j < 27 → a i ≠ b j) ∧ (∀ i j : Nat, i < σ.2.1 4 → j < 27 → ca i ≠ b j) ∧
  (∀ i : Nat, i < 51 → a i ≠ ro ∧ a i ≠ rd) ∧ (∀ i : Nat, i < σ.2.1 4 → ca i ≠ ro ∧ ca i ≠ rd) ∧ (∀ i : Nat, i < 27 → b i ≠ ro ∧ b i ≠ rd) ∧ ro ≠ rd
/-- a heap without some cells -/
noncomputable def ww_no (P : Nat → Prop) (h : hl_H) : hl_H := fun q => @ite _ (P q) (Classical.propDecidable _) none (h q)
theorem ww_no1 {P : Nat → Prop} {h : hl_H} {q : Nat} (hp : P q) : ww_no P h q = none := if_pos hp
theorem ww_no2 {P : Nat → Prop} {h : hl_H} {q : Nat} (hp : ¬ P q) : ww_no P h q = h q := if_neg hp
theorem ww_no3 {P : Nat → Prop} {h : hl_H} {q : Nat} {x : hl_C} (hq : ww_no P h q = some x) : h q = some x := by
  rcases Classical.em (P q) with hp | hp
  · rw [ww_no1 hp] at hq; cases hq
  · rw [ww_no2 hp] at hq; exact hq
theorem ww_ne {h : hl_H} {q r : Nat} {x : hl_C} (h1 : h q = none) (h2 : h r = some x) : q ≠ r := fun e => by rw [e, h2] at h1; cases h1
section WW
variable {a ca b : Nat → Nat} {ro rd : Nat} {σ : LSt} {μ : LMt} {f : Nat → Int64} {fd : Nat → UInt64} {h : hl_H}
theorem ww_W.bk (w : ww_W a ca b ro rd σ μ f fd h) {h0 g : hl_H} {ca' : Nat → Nat} {σ' : LSt} {f' : Nat → Int64} {fd' : Nat → UInt64} (hb : ∀ j : Nat, j < 27 → h0 (b j) = some (lm_cell b μ j)) (ho : h0 ro = some (.inl (1, .inr (.inl f')))) (hd : h0 rd = some (.inl (1, .inr (.inr (.inr (.inl fd')))))) (w' : LSw a ca' σ' h0 g) : ww_W a ca' b ro rd σ' μ f' fd' g := by
  obtain ⟨-, -, -, -, d1, d2, d3, d4, d5, d6, d7, d8, d9, d10⟩ := w
  obtain ⟨q, e1, e2, e3, e4, e5, e6⟩ := w'
  exact ⟨q, fun j hj => e6 _ _ (hb j hj), e6 _ _ ho, e6 _ _ hd, e1, e2, e3, d4, d5, fun i j hi hj => ww_ne (e5 i hi) (hb j hj), d7, fun i hi => ⟨ww_ne (e5 i hi) ho, ww_ne (e5 i hi) hd⟩, d9, d10⟩
theorem ww_W.ls (w : ww_W a ca b ro rd σ μ f fd h) : ∃ h0 : hl_H, LSw a ca σ h0 h ∧ h0 ro = some (.inl (1, .inr (.inl f))) ∧ h0 rd = some (.inl (1, .inr (.inr (.inr (.inl fd))))) ∧
    (∀ (ca' : Nat → Nat) (σ' : LSt) (g : hl_H), LSw a ca' σ' h0 g → ww_W a ca' b ro rd σ' μ f fd g) ∧
    (∀ (ca' : Nat → Nat) (σ' : LSt) (f' : Nat → Int64) (g : hl_H), LSw a ca' σ' (hl_set h0 ro (.inl (1, .inr (.inl f')))) g → ww_W a ca' b ro rd σ' μ f' fd g) ∧
    (∀ (ca' : Nat → Nat) (σ' : LSt) (fd' : Nat → UInt64) (g : hl_H), LSw a ca' σ' (hl_set h0 rd (.inl (1, .inr (.inr (.inr (.inl fd')))))) g → ww_W a ca' b ro rd σ' μ f fd' g) := by
  obtain ⟨q, qb, qo, qd, d1, d2, d3, d4, d5, d6, d7, d8, d9, d10⟩ := id w
  have hP : ∀ r : Nat, (∀ i, i < 51 → a i ≠ r) → (∀ i, i < σ.2.1 4 → ca i ≠ r) → ¬ ((∃ i, i < 51 ∧ a i = r) ∨ ∃ i, i < σ.2.1 4 ∧ ca i = r) := by
    intro r h1 h2 z
    rcases z with ⟨i, z1, z2⟩ | ⟨i, z1, z2⟩
    · exact h1 i z1 z2
    · exact h2 i z1 z2
  have ho : ww_no (fun r => (∃ i, i < 51 ∧ a i = r) ∨ ∃ i, i < σ.2.1 4 ∧ ca i = r) h ro = some (.inl (1, .inr (.inl f))) := by
    rw [ww_no2 (hP ro (fun i hi => (d7 i hi).1) (fun i hi => (d8 i hi).1))]; exact qo
  have hd : ww_no (fun r => (∃ i, i < 51 ∧ a i = r) ∨ ∃ i, i < σ.2.1 4 ∧ ca i = r) h rd = some (.inl (1, .inr (.inr (.inr (.inl fd))))) := by
    rw [ww_no2 (hP rd (fun i hi => (d7 i hi).2) (fun i hi => (d8 i hi).2))]; exact qd
  have hb : ∀ j : Nat, j < 27 → ww_no (fun r => (∃ i, i < 51 ∧ a i = r) ∨ ∃ i, i < σ.2.1 4 ∧ ca i = r) h (b j) = some (lm_cell b μ j) := by
    intro j hj
    rw [ww_no2 (hP (b j) (fun i hi => d5 i j hi hj) (fun i hi => d6 i j hi hj))]; exact qb j hj
  refine ⟨ww_no (fun r => (∃ i, i < 51 ∧ a i = r) ∨ ∃ i, i < σ.2.1 4 ∧ ca i = r) h, ⟨q, d1, d2, d3, fun i hi => ww_no1 (Or.inl ⟨i, hi, rfl⟩), fun i hi => ww_no1 (Or.inr ⟨i, hi, rfl⟩), fun q x hq => ww_no3 hq⟩, ho, hd, fun ca' σ' g w' => w.bk hb ho hd w', fun ca' σ' f' g w' => w.bk (h0 := hl_set _ ro _) (fun j hj => ?_) hs_set1 ?_ w', fun ca' σ' fd' g w' => w.bk (h0 := hl_set _ rd _) (fun j hj => ?_) ?_ hs_set1 w'⟩
  · rw [hs_set2 (d9 j hj).1]; exact hb j hj
  · rw [hs_set2 (fun e => d10 e.symm)]; exact hd
  · rw [hs_set2 (d9 j hj).2]; exact hb j hj
  · rw [hs_set2 d10]; exact ho
theorem ww_W.lm (w : ww_W a ca b ro rd σ μ f fd h) : ∃ h0 : hl_H, LMw b μ h0 h ∧ ∀ (μ' : LMt) (g : hl_H), LMw b μ' h0 g → ww_W a ca b ro rd σ μ' f fd g := by
  obtain ⟨⟨sm, q1, q2⟩, qb, qo, qd, d1, d2, d3, d4, d5, d6, d7, d8, d9, d10⟩ := w
  have hP : ∀ r : Nat, (∀ i, i < 27 → b i ≠ r) → ¬ (∃ i, i < 27 ∧ b i = r) := fun r h1 z => z.elim (fun i y => h1 i y.1 y.2)
  refine ⟨ww_no (fun r => ∃ i, i < 27 ∧ b i = r) h, ⟨qb, d4, fun i hi => ww_no1 ⟨i, hi, rfl⟩, fun q x hq => ww_no3 hq⟩, fun μ' g w' => ?_⟩
  obtain ⟨qb', e1, e2, e3⟩ := w'
  refine ⟨⟨sm, fun k hk => e3 _ _ ?_, fun i hi => e3 _ _ ?_⟩, qb', e3 _ _ ?_, e3 _ _ ?_, d1, d2, d3, d4, d5, d6, d7, d8, d9, d10⟩
  · rw [ww_no2 (hP _ (fun i hi e => d5 k i hk hi e.symm))]; exact q1 k hk
  · rw [ww_no2 (hP _ (fun j hj e => d6 i j hi hj e.symm))]; exact q2 i hi
  · rw [ww_no2 (hP _ (fun i hi => (d9 i hi).1))]; exact qo
  · rw [ww_no2 (hP _ (fun i hi => (d9 i hi).2))]; exact qd
/-- at the start -/
theorem ww_0 {h1 h2 : hl_H} (hs : LSw a (fun _ => 0) ls_0 (fun _ => none) h1) (hm : LMw b lm_0 h1 h2) (ho : h2 ro = none) (hd : hl_set h2 ro (.inl (1, .inr (.inl (fun _ => 0)))) rd = none) : ww_W a (fun _ => 0) b ro rd ls_0 lm_0 (fun _ => 0) (fun _ => 0) (hl_set (hl_set h2 ro (.inl (1, .inr (.inl (fun _ => 0))))) rd (.inl (1, .inr (.inr (.inr (.inl (fun _ => 0))))))) := by
  obtain ⟨⟨sm, q1, q2⟩, d1, d2, d3, -⟩ := hs
  obtain ⟨qb, e1, e2, e3⟩ := hm
  have hro : rd ≠ ro := fun e => by rw [e, hs_set1] at hd; cases hd
  rw [hs_set2 hro] at hd
  have ha : ∀ k, k < 51 → h2 (a k) = some (ls_cell a (fun _ => 0) ls_0 sm k) := fun k hk => e3 _ _ (q1 k hk)
  have ne1 : ∀ {q : Nat} {x : hl_C}, h2 q = some x → q ≠ ro ∧ q ≠ rd := fun hq => ⟨(ww_ne ho hq).symm, (ww_ne hd hq).symm⟩
  refine ⟨⟨sm, fun k hk => ?_, fun i hi => absurd hi (Nat.not_lt_zero i)⟩, fun k hk => ?_, ?_, hs_set1, d1, fun i j hi => absurd hi (Nat.not_lt_zero i), fun i j _ hj => absurd hj (Nat.not_lt_zero j), e1, fun i j hi hj e => ?_, fun i j hi => absurd hi (Nat.not_lt_zero i), fun i hi => ne1 (ha i hi), fun i hi => absurd hi (Nat.not_lt_zero i), fun i hi => ne1 (qb i hi), hro.symm⟩
  · rw [hs_set2 (ne1 (ha k hk)).2, hs_set2 (ne1 (ha k hk)).1]; exact ha k hk
  · rw [hs_set2 (ne1 (qb k hk)).2, hs_set2 (ne1 (qb k hk)).1]; exact qb k hk
  · rw [hs_set2 hro.symm, hs_set1]
  · have z := e2 j hj
    rw [← e, q1 i hi] at z
    cases z
end WW
section LC
variable {G : hl_G} {l : Launch} {M : hl_M} {hh : List (Nat × Nat × Nat × Nat)} {d k n : Nat} {av : List Value} {P : hl_H → Prop} {Q : Option Value → hl_H → Prop} {X : String → hl_H → Prop}
theorem hl_Ch.met (h : hl_Ch G l M hh d k n av P Q (fun _ _ => False)) : Met l M.1 (Jvm.Cond.codeWith M.1 M.2.1 M.2.2.1 M.2.2.2 hh :: hl_T) (hl_rm d k n) (hl_Pc G av P) (hl_Qc G Q) k n (hl_A G) := by
  intro p e h1 h2 h3 s m args below h4 h5 h6 h7
  obtain ⟨nn, o, q1, q2, q3, q4⟩ := h p e h1 h2 h3 s m args below h4 h5 h6 h7
  refine ⟨nn, o, q1, q2, q3, ?_⟩
  rcases q4 with q4 | ⟨q, e1, E, ce, L, ⟨g, e2, e3, e4⟩, e5⟩
  · exact q4
  · exact e3.elim
variable {p : Program} {e : Env} {s : State} {m : MethodId} {args : Array Value} {below : List Frame} {meth : Method} {c : Code} {lv : List (Nat × Value)} {h : hl_H} {ce sl pc : Nat}
/-- a static call of a method that catches -/
theorem hl_callSW (B : hl_B G M d k n p s m args meth c) {N : hl_M} {d1 k1 n1 na idx kk : Nat} {av1 rest : List Value} {P1 : hl_H → Prop} {Q1 : Option Value → hl_H → Prop} (hct : hl_Ch G l N hh d1 k1 n1 av1 P1 Q1 (fun _ _ => False)) (hm : hl_mh N hh na) (hd : decode M.2.1 pc = .ok (.invokestatic idx, 3)) (hk : hl_w kk (Jvm.Cond.methodLink M.1.cls idx N.1) = true)
    (hna : av1.length = na) (hrest : (rest.map fun v => v.category).sum ≤ 8) (hfr : d1 + 1 ≤ d) (hlo : N.2.2.1 ≤ 21) (hce : ce + k1 ≤ k) (hsl : sl + n1 ≤ n) (hP : P1 h)
    (hQ : ∀ (r : Option Value) (h' : hl_H), Q1 r h' → hl_GM G M d k n Q X p l e s m args below meth c (pc + 3) lv (r.toList ++ rest) h' (ce + k1) (sl + n1)) : hl_GM G M d k n Q X p l e s m args below meth c pc lv (av1.reverse ++ rest) h ce sl := by
  intro H locs ls hPh hS hl
  obtain ⟨⟨hx, hb, hml, hown, hts, hE, hS0, hRf, hRl⟩, hlk, hrt, hnm, hno⟩ := id B
  have cw : vx_CSW (hl_rm d k n) s args M.1.cls idx N.1 N.2.1 N.2.2.1 N.2.2.2 hh (Jvm.Cond.codeWith N.1 N.2.1 N.2.2.1 N.2.2.2 hh :: hl_T) (hl_rm d1 k1 n1) k1 n1 na := by
    refine ⟨⟨rfl, rfl, by show d1 + 6 + 1 ≤ d + 6; omega, by show 8 + (N.2.2.1 + 11) + (40 * d1 + 140) ≤ 40 * d + 140; omega, fun w hw => ?_, List.mem_cons_self⟩, hts _ hm.1, hts _ hm.2.1, hm.2.2.1, fun sig h9 => ?_, hts _ (hl_w_T hk), hts _ hm.2.2.2.2⟩
    · rcases List.mem_cons.mp hw with e9 | hw
      · rw [e9]; exact hl_T_warm hts _ hm.1
      · exact hl_T_warm hts w hw
    · have h2 := hm.2.2.2.1
      rw [h9] at h2
      exact (Option.some.inj h2).symm
  exact hl_back hS (vx_runSW (l := l) (e := e) (below := below) (meth := meth) (H := H) (locs := locs) (cells := ce) (slots := sl) (g := F0 m pc ls (av1.reverse ++ rest)) (rest := rest) ⟨hx, hb, hml, hown, hts⟩ hct.met cw ⟨hl_blind, fun U hU hW => ⟨rfl, hE.warm hW, by rw [hU]; exact hl_S0 hS0 hS, h, by rw [hU]; exact hPh, hP⟩⟩ rfl hna hl.1 rfl (lv_room hrest) hd ⟨hce, hsl⟩) (fun r h' H1 locs1 hq hP1 hS1 => hQ r h' hq H1 locs1 ls hP1 hS1 hl)
/-- a number of the script -/
theorem hl_sld (B : hl_B G M d k n p s m args meth c) {b L : Nat} {xs : Nat → Int32} (hX : va_X b L xs s s.heap) (hb : b < s.heap.size) (hA : ¬ hl_A G b) {j : Nat} {rest : List Value} (hj : j < L) (hL : L < 2 ^ 31) (hd : decode M.2.1 pc = .ok (.iaload, 1))
    (hw : hl_GM G M d k n Q X p l e s m args below meth c (pc + 1) lv (.int (xs j) :: rest) h ce sl) : hl_GM G M d k n Q X p l e s m args below meth c pc lv (.int (nI j) :: .ref b :: rest) h ce sl := by
  intro H locs ls hP hS hl
  obtain ⟨⟨hx, hb9, hml, hown, hts, hE, hS0, hRf, hRl⟩, -⟩ := id B
  have e : (nI j).toNatClampNeg = j := nI_clamp (by omega)
  exact va_sld hx hb9 hX hb hA hS (vp_in_nI hj hL) hd (by rw [e]; exact hw H locs ls hP hS hl)
theorem hl_slen (B : hl_B G M d k n p s m args meth c) {b L : Nat} {xs : Nat → Int32} (hX : va_X b L xs s s.heap) (hb : b < s.heap.size) (hA : ¬ hl_A G b) {rest : List Value} (hd : decode M.2.1 pc = .ok (.arraylength, 1))
    (hw : hl_GM G M d k n Q X p l e s m args below meth c (pc + 1) lv (.int (nI L) :: rest) h ce sl) : hl_GM G M d k n Q X p l e s m args below meth c pc lv (.ref b :: rest) h ce sl := by
  intro H locs ls hP hS hl
  obtain ⟨⟨hx, hb9, hml, hown, hts, hE, hS0, hRf, hRl⟩, -⟩ := id B
  exact va_slen hx hb9 hX hb hA hS hd (hw H locs ls hP hS hl)
end LC
