/-! PART 12: the memory: what is asked, what is kept -/
def ls_ans (σ : LSt) (k dy : Int32) : Int32 := match ls_find σ k dy with | none => 0 | some i => σ.2.2 i 7
def ls_like (σ : LSt) (f : Nat → Int32) (dy : Int32) : Bool := match ls_find σ (f 1) dy with | none => false | some i => decide (f 0 = σ.2.2 i 0 ∧ f 1 = σ.2.2 i 1 ∧ f 2 = σ.2.2 i 2 ∧ f 3 = σ.2.2 i 3 ∧ f 4 = σ.2.2 i 4 ∧ f 5 = σ.2.2 i 5)
/-- a call is kept -/
def ls_keep (σ : LSt) (f : Nat → Int32) (dy v : Int32) : LSt := (σ.1, va_up σ.2.1 4 (σ.2.1 4 + 1), va_up σ.2.2 (σ.2.1 4) (fun j => if j = 6 then dy else if j = 7 then v else f j))
theorem hs_qs {h : hl_H} {s : List Value} {b a n : Nat} {i : Int32} {f : Nat → Option Nat} {k : List Value → hl_H → Prop} (q : h a = some (.inl (n, .inr (.inr (.inr (.inr f)))))) : hl_qs (.ref b :: .int i :: .ref a :: s) h k = (vp_in i n ∧ (∃ vs, h b = some (.inr (4, vs))) ∧ k s (hl_set h a (.inl (n, .inr (.inr (.inr (.inr (va_up f i.toNatClampNeg (some b))))))))) := by
  simp only [hl_qs, q]
def cl_of (f : Nat → Int32) : hl_C := .inr (4, [.int (f 0), .int (f 1), .int (f 2), .int (f 3), .int (f 4), .int (f 5), .int (f 6), .int (f 7)])
section ASN
variable {G : hl_G} {l : Launch} {M : hl_M} {d k n : Nat} {Q : Option Value → hl_H → Prop} {X : String → hl_H → Prop}
variable {p : Program} {e : Env} {s : State} {m : MethodId} {args : Array Value} {below : List Frame} {meth : Method} {c : Code} {lv : List (Nat × Value)} {rest : List Value} {h : hl_H} {ce sl pc : Nat}
theorem hl_astN (B : hl_B G M d k n p s m args meth c) {kf : Fin 4} {i : Nat} (hd : decode M.2.1 pc = .ok (.astore_n kf, 1)) (hi : (kf : Nat) = i) (hn : i < M.2.2.1) (hw : hl_GM G M d k n Q X p l e s m args below meth c (pc + 1) (hl_ins i .null (hl_f1 i lv)) rest h ce sl) : hl_GM G M d k n Q X p l e s m args below meth c pc lv (.null :: rest) h ce sl := by
  intro H locs ls hP hS hl
  exact lv_astore_nN (lv' := (i, .null) :: hl_f1 i lv) B.1.1 B.1.2.1 hd hi hl hn (by rw [hl_f1_eq]) (fun ls' hl' => hw H locs ls' hP hS (hl_ins_has hl'))
end ASN
section KEEP
variable {a ca : Nat → Nat} {σ : LSt} {h h0 : hl_H} {r : Nat} {x : hl_C}
theorem LSw.rne (w : LSw a ca σ (hl_set h0 r x) h) {i : Nat} (hi : i < 51) : a i ≠ r := fun e => by
  have := w.2.2.2.2.1 i hi
  rw [e, hs_set1] at this
  cases this
theorem LSw.rnc (w : LSw a ca σ (hl_set h0 r x) h) {i : Nat} (hi : i < σ.2.1 4) : ca i ≠ r := fun e => by
  have := w.2.2.2.2.2.1 i hi
  rw [e, hs_set1] at this
  cases this
theorem LSw.rat (w : LSw a ca σ (hl_set h0 r x) h) : h r = some x := w.2.2.2.2.2.2 r x hs_set1
theorem LSw.ane (w : LSw a ca σ h0 h) {i j : Nat} (hi : i < 51) (hj : j < 51) (n : i ≠ j) : a i ≠ a j := fun e => n (w.2.1 i j hi hj e)
/-- a new thing joins the frame -/
theorem LSw.frame (w : LSw a ca σ h0 h) (hr : h r = none) (x : hl_C) : LSw a ca σ (hl_set h0 r x) (hl_set h r x) := by
  obtain ⟨⟨sm, q1, q2⟩, d1, d2, d3, d4, d5, d6⟩ := w
  have n1 : ∀ k, k < 51 → a k ≠ r := fun k hk e => by rw [← e, q1 k hk] at hr; cases hr
  have n2 : ∀ k, k < σ.2.1 4 → ca k ≠ r := fun k hk e => by rw [← e, q2 k hk] at hr; cases hr
  refine ⟨⟨sm, fun k hk => by rw [hs_set2 (n1 k hk)]; exact q1 k hk, fun k hk => by rw [hs_set2 (n2 k hk)]; exact q2 k hk⟩, d1, d2, d3, fun k hk => by rw [hs_set2 (n1 k hk)]; exact d4 k hk, fun k hk => by rw [hs_set2 (n2 k hk)]; exact d5 k hk, fun q y hq => ?_⟩
  by_cases e : q = r
  · subst e; rw [hs_set1] at hq ⊢; exact hq
  · rw [hs_set2 e] at hq ⊢; exact d6 q y hq
/-- .. changes in it -/
theorem LSw.reframe (w : LSw a ca σ (hl_set h0 r x) h) (y : hl_C) : LSw a ca σ (hl_set h0 r y) (hl_set h r y) := by
  have n1 : ∀ k, k < 51 → a k ≠ r := fun k hk => w.rne hk
  have n2 : ∀ k, k < σ.2.1 4 → ca k ≠ r := fun k hk => w.rnc hk
  obtain ⟨⟨sm, q1, q2⟩, d1, d2, d3, d4, d5, d6⟩ := w
  refine ⟨⟨sm, fun k hk => by rw [hs_set2 (n1 k hk)]; exact q1 k hk, fun k hk => by rw [hs_set2 (n2 k hk)]; exact q2 k hk⟩, d1, d2, d3, fun k hk => by rw [hs_set2 (n1 k hk)]; have := d4 k hk; rw [hs_set2 (n1 k hk)] at this; exact this, fun k hk => by rw [hs_set2 (n2 k hk)]; have := d5 k hk; rw [hs_set2 (n2 k hk)] at this; exact this, fun q z hq => ?_⟩
  by_cases e : q = r
  · subst e; rw [hs_set1] at hq ⊢; exact hq
  · rw [hs_set2 e] at hq ⊢; exact d6 q z (by rw [hs_set2 e]; exact hq)
/-- .. and is forgotten -/
theorem LSw.unframe (w : LSw a ca σ (hl_set h0 r x) h) (hr : h0 r = none) : LSw a ca σ h0 h := by
  have n1 : ∀ k, k < 51 → a k ≠ r := fun k hk => w.rne hk
  have n2 : ∀ k, k < σ.2.1 4 → ca k ≠ r := fun k hk => w.rnc hk
  obtain ⟨q, d1, d2, d3, d4, d5, d6⟩ := w
  refine ⟨q, d1, d2, d3, fun k hk => by have := d4 k hk; rw [hs_set2 (n1 k hk)] at this; exact this, fun k hk => by have := d5 k hk; rw [hs_set2 (n2 k hk)] at this; exact this, fun q z hq => ?_⟩
  have e : q ≠ r := fun e => by rw [e, hr] at hq; cases hq
  exact d6 q z (by rw [hs_set2 e]; exact hq)
theorem LSw.no (w : LSw a ca σ h0 h) (hr : h r = none) : h0 r = none := by
  cases e : h0 r with
  | none => rfl
  | some y => rw [w.2.2.2.2.2.2 r y e] at hr; cases hr
theorem LSw.keep (w : LSw a ca σ (hl_set h0 r x) h) (hr : h0 r = none) (f : Nat → Int32) (dy v : Int32) (y : hl_C) (hy : y = cl_of (fun j => if j = 6 then dy else if j = 7 then v else f j)) :
    LSw a (va_up ca (σ.2.1 4) r) (ls_keep σ f dy v) h0 (hl_set (hl_set (hl_set h r y) (a 6) (.inl (180, .inr (.inr (.inr (.inr (va_up (fun i => if i < σ.2.1 4 then some (ca i) else none) (σ.2.1 4) (some r)))))))) (a 5) (.inr (7, [.int (nI (σ.2.1 4) + 1), .ref (a 6)]))) := by
  have n1 : ∀ k, k < 51 → a k ≠ r := fun k hk => w.rne hk
  have n2 : ∀ k, k < σ.2.1 4 → ca k ≠ r := fun k hk => w.rnc hk
  obtain ⟨⟨sm, q1, q2⟩, d1, d2, d3, d4, d5, d6⟩ := w
  have s5 : (ls_keep σ f dy v).2.1 4 = σ.2.1 4 + 1 := by simp [ls_keep, va_up]
  have e1 : ∀ i, i < σ.2.1 4 → va_up ca (σ.2.1 4) r i = ca i := fun i hi => by simp [va_up, show i ≠ σ.2.1 4 by omega]
  have e2 : va_up ca (σ.2.1 4) r (σ.2.1 4) = r := by simp [va_up]
  have e3 : ∀ i, i < σ.2.1 4 + 1 → (i < σ.2.1 4 ∧ va_up ca (σ.2.1 4) r i = ca i) ∨ (i = σ.2.1 4 ∧ va_up ca (σ.2.1 4) r i = r) := fun i hi => by
    rcases Nat.lt_or_ge i (σ.2.1 4) with z | z
    · exact Or.inl ⟨z, e1 i z⟩
    · have : i = σ.2.1 4 := by omega
      subst this
      exact Or.inr ⟨rfl, e2⟩
  refine ⟨⟨sm, fun k hk => ?_, fun i hi => ?_⟩, d1, fun i j hi hj hij => ?_, fun i j hi hj => ?_, fun k hk => ?_, fun i hi => ?_, fun q z hq => ?_⟩
  · by_cases k5 : k = 5
    · subst k5
      rw [hs_set1]
      simp [ls_cell, ls_keep, va_up, nI_1]
    · rw [hs_set2 (fun z => k5 (d1 k 5 hk (by decide) z))]
      by_cases k6 : k = 6
      · subst k6
        rw [hs_set1]
        simp only [ls_cell, ls_keep]
        have e9 : va_up (fun i => if i < σ.2.1 4 then some (ca i) else none) (σ.2.1 4) (some r) = (fun i => if i < σ.2.1 4 + 1 then some (va_up ca (σ.2.1 4) r i) else none) := by
          funext i
          by_cases z : i = σ.2.1 4
          · subst z; simp [va_up]
          · by_cases z2 : i < σ.2.1 4
            · simp [va_up, z, z2, show i < σ.2.1 4 + 1 by omega]
            · simp [va_up, z, z2, show ¬ i < σ.2.1 4 + 1 by omega]
        rw [e9]
        simp [va_up]
      · rw [hs_set2 (fun z => k6 (d1 k 6 hk (by decide) z)), hs_set2 (n1 k hk), q1 k hk]
        simp [ls_cell, ls_keep, va_up, k5, k6]
  · rw [s5] at hi
    rcases e3 i hi with ⟨z, e⟩ | ⟨z, e⟩
    · rw [e, hs_set2 (fun y9 => d3 5 i (by decide) z y9.symm), hs_set2 (fun y9 => d3 6 i (by decide) z y9.symm), hs_set2 (n2 i z), q2 i z]
      simp [ls_call, ls_keep, va_up, show i ≠ σ.2.1 4 by omega]
    · rw [e, hs_set2 (fun y9 => n1 5 (by decide) y9.symm), hs_set2 (fun y9 => n1 6 (by decide) y9.symm), hs_set1, hy]
      subst z
      simp [ls_call, cl_of, ls_keep, va_up]
  · rw [s5] at hi hj
    rcases e3 i hi with ⟨z, e⟩ | ⟨z, e⟩ <;> rcases e3 j hj with ⟨z2, e9⟩ | ⟨z2, e9⟩
    · rw [e, e9] at hij; exact d2 i j z z2 hij
    · rw [e, e9] at hij; exact absurd hij (n2 i z)
    · rw [e, e9] at hij; exact absurd hij.symm (n2 j z2)
    · omega
  · rw [s5] at hj
    rcases e3 j hj with ⟨z2, e9⟩ | ⟨z2, e9⟩
    · rw [e9]; exact d3 i j hi z2
    · rw [e9]; exact n1 i hi
  · have := d4 k hk; rw [hs_set2 (n1 k hk)] at this; exact this
  · rw [s5] at hi
    rcases e3 i hi with ⟨z, e⟩ | ⟨z, e⟩
    · rw [e]; have := d5 i z; rw [hs_set2 (n2 i z)] at this; exact this
    · rw [e]; exact hr
  · have e : q ≠ r := fun e => by rw [e, hr] at hq; cases hq
    have z5 : q ≠ a 5 := fun z9 => by have := d4 5 (by decide); rw [hs_set2 (n1 5 (by decide)), ← z9, hq] at this; cases this
    have z6 : q ≠ a 6 := fun z9 => by have := d4 6 (by decide); rw [hs_set2 (n1 6 (by decide)), ← z9, hq] at this; cases this
    rw [hs_set2 z5, hs_set2 z6, hs_set2 e]
    exact d6 q z (by rw [hs_set2 e]; exact hq)
end KEEP
set_option maxRecDepth 20000 in
set_option maxHeartbeats 2000000 in
theorem ct_X5_hasKey {G : hl_G} {l : Launch} {a ca : Nat → Nat} {σ : LSt} {h : hl_H} {k1 dy : Int32} (q : LSr a ca σ h) (hm : σ.2.1 4 ≤ 180) :
    hl_Ct G l mX5_hasKey 1 0 0 [.ref (a 5), .int k1, .int dy] (fun g => g = h) (fun r g => r = some (.int (if (ls_find σ k1 dy).isSome = true then 1 else 0)) ∧ g = h) (fun _ _ => False) := by
  refine hl_body (by decide +kernel) (Nat.le_of_ble_eq_true rfl) ?_
  intro p e s m args below meth c B g hg
  rw [hg]
  refine hl_seg B okX5_hasKey (fun q => nomatch q) 0 1000 rfl ?_
  simp only [pX5_hasKey, List.drop_zero, List.drop_succ_cons, hl_wp, hs_ii, hs_i1, hs_ll, hs_l1, hs_ff, hs_g1, hs_dd, hs_d1, hs_r1, hs_rv, hs_rv0, hs_n1, hs_n0, hs_v1i, hs_v1r, hs_a1, hs_d2l, hs_d2i, hs_ri, hs_rl, hs_rg, hs_rd8, hs_rr, hs_rn, hs_ov, hs_gf, hs_po, hs_pfi, hs_pfr, hs_ia, hs_la, hs_da, hs_qa, hs_al, hs_is, hs_ls, hs_ds, hs_iso, hs_lso, hs_dso, hs_rd, hs_f1, hs_f10, hs_f2, hs_f20, hs_in0, hs_in1, hs_lt, hs_le, hs_ge, hs_gt, hs_eq, hs_10, hs_00, hs_01, true_and, and_true, true_imp_iff, false_imp_iff, not_true_eq_false, not_false_eq_true, hs_av, hs_ai, hs_ar, hs_an, hs_aj, hs_ci, hs_cr, hs_cn, hs_cj, hs_cd, hs_cf, hs_q0, hs_q1, reduceIte, Nat.reduceEqDiff, Nat.reduceAdd, Nat.reduceLT, eq_self, List.getElem?_cons_zero, List.getElem?_cons_succ, List.set_cons_zero, List.set_cons_succ, List.length_cons, List.length_nil, Option.toList_some, Option.toList_none, List.cons_append, List.nil_append, Nat.zero_add, Nat.add_zero, List.map_nil, List.sum_nil, List.map_cons, List.sum_cons, Nat.zero_le, hs_set1, q.f5]
  refine hl_callR B (As := [.int _, .int _]) (ct_X5_find q hm) mtX5_find (hl_dec okX5_hasKey 3 rfl) (kk := 601) (by decide +kernel) rfl (q.f5) rfl (Nat.le_of_ble_eq_true rfl) (by decide) (by decide) (by decide) (by decide) ?_
  cases hf1 : ls_find σ k1 dy with
  | none =>
    refine hl_seg B okX5_hasKey (fun q => nomatch q) 4 1000 rfl ?_
    simp only [pX5_hasKey, List.drop_zero, List.drop_succ_cons, hl_wp, hs_ii, hs_i1, hs_ll, hs_l1, hs_ff, hs_g1, hs_dd, hs_d1, hs_r1, hs_rv, hs_rv0, hs_n1, hs_n0, hs_v1i, hs_v1r, hs_a1, hs_d2l, hs_d2i, hs_ri, hs_rl, hs_rg, hs_rd8, hs_rr, hs_rn, hs_ov, hs_gf, hs_po, hs_pfi, hs_pfr, hs_ia, hs_la, hs_da, hs_qa, hs_al, hs_is, hs_ls, hs_ds, hs_iso, hs_lso, hs_dso, hs_rd, hs_f1, hs_f10, hs_f2, hs_f20, hs_in0, hs_in1, hs_lt, hs_le, hs_ge, hs_gt, hs_eq, hs_10, hs_00, hs_01, true_and, and_true, true_imp_iff, false_imp_iff, not_true_eq_false, not_false_eq_true, hs_av, hs_ai, hs_ar, hs_an, hs_aj, hs_ci, hs_cr, hs_cn, hs_cj, hs_cd, hs_cf, hs_q0, hs_q1, reduceIte, Nat.reduceEqDiff, Nat.reduceAdd, Nat.reduceLT, eq_self, List.getElem?_cons_zero, List.getElem?_cons_succ, List.set_cons_zero, List.set_cons_succ, List.length_cons, List.length_nil, Option.toList_some, Option.toList_none, List.cons_append, List.nil_append, Nat.zero_add, Nat.add_zero, List.map_nil, List.sum_nil, List.map_cons, List.sum_cons, Nat.zero_le, hs_set1, q.f5, Option.map_none]
    refine hl_seg B okX5_hasKey (fun q => nomatch q) 7 1000 rfl ?_
    simp only [pX5_hasKey, List.drop_zero, List.drop_succ_cons, hl_wp, hs_ii, hs_i1, hs_ll, hs_l1, hs_ff, hs_g1, hs_dd, hs_d1, hs_r1, hs_rv, hs_rv0, hs_n1, hs_n0, hs_v1i, hs_v1r, hs_a1, hs_d2l, hs_d2i, hs_ri, hs_rl, hs_rg, hs_rd8, hs_rr, hs_rn, hs_ov, hs_gf, hs_po, hs_pfi, hs_pfr, hs_ia, hs_la, hs_da, hs_qa, hs_al, hs_is, hs_ls, hs_ds, hs_iso, hs_lso, hs_dso, hs_rd, hs_f1, hs_f10, hs_f2, hs_f20, hs_in0, hs_in1, hs_lt, hs_le, hs_ge, hs_gt, hs_eq, hs_10, hs_00, hs_01, true_and, and_true, true_imp_iff, false_imp_iff, not_true_eq_false, not_false_eq_true, hs_av, hs_ai, hs_ar, hs_an, hs_aj, hs_ci, hs_cr, hs_cn, hs_cj, hs_cd, hs_cf, hs_q0, hs_q1, reduceIte, Nat.reduceEqDiff, Nat.reduceAdd, Nat.reduceLT, eq_self, List.getElem?_cons_zero, List.getElem?_cons_succ, List.set_cons_zero, List.set_cons_succ, List.length_cons, List.length_nil, Option.toList_some, Option.toList_none, List.cons_append, List.nil_append, Nat.zero_add, Nat.add_zero, List.map_nil, List.sum_nil, List.map_cons, List.sum_cons, Nat.zero_le, hs_set1, q.f5, Option.map_none]
    exact hl_iret B rfl (by first | rfl | decide | (split <;> rfl)) (hl_dec okX5_hasKey 8 rfl) (by decide) (by decide) ⟨by simp [hf1], rfl⟩
  | some i9 =>
    have hi9 := ls_find_lt hf1
    have hk9 := q.fk hi9
    refine hl_seg B okX5_hasKey (fun q => nomatch q) 4 1000 rfl ?_
    simp only [pX5_hasKey, List.drop_zero, List.drop_succ_cons, hl_wp, hs_ii, hs_i1, hs_ll, hs_l1, hs_ff, hs_g1, hs_dd, hs_d1, hs_r1, hs_rv, hs_rv0, hs_n1, hs_n0, hs_v1i, hs_v1r, hs_a1, hs_d2l, hs_d2i, hs_ri, hs_rl, hs_rg, hs_rd8, hs_rr, hs_rn, hs_ov, hs_gf, hs_po, hs_pfi, hs_pfr, hs_ia, hs_la, hs_da, hs_qa, hs_al, hs_is, hs_ls, hs_ds, hs_iso, hs_lso, hs_dso, hs_rd, hs_f1, hs_f10, hs_f2, hs_f20, hs_in0, hs_in1, hs_lt, hs_le, hs_ge, hs_gt, hs_eq, hs_10, hs_00, hs_01, true_and, and_true, true_imp_iff, false_imp_iff, not_true_eq_false, not_false_eq_true, hs_av, hs_ai, hs_ar, hs_an, hs_aj, hs_ci, hs_cr, hs_cn, hs_cj, hs_cd, hs_cf, hs_q0, hs_q1, reduceIte, Nat.reduceEqDiff, Nat.reduceAdd, Nat.reduceLT, eq_self, List.getElem?_cons_zero, List.getElem?_cons_succ, List.set_cons_zero, List.set_cons_succ, List.length_cons, List.length_nil, Option.toList_some, Option.toList_none, List.cons_append, List.nil_append, Nat.zero_add, Nat.add_zero, List.map_nil, List.sum_nil, List.map_cons, List.sum_cons, Nat.zero_le, hs_set1, q.f5, Option.map_some, hk9]
    exact hl_iret B rfl (by first | rfl | decide | (split <;> rfl)) (hl_dec okX5_hasKey 8 rfl) (by decide) (by decide) ⟨by simp [hf1], rfl⟩
set_option maxRecDepth 20000 in
set_option maxHeartbeats 2000000 in
theorem ct_X5_answerTo {G : hl_G} {l : Launch} {a ca : Nat → Nat} {σ : LSt} {h : hl_H} {k1 dy : Int32} (q : LSr a ca σ h) (hm : σ.2.1 4 ≤ 180) :
    hl_Ct G l mX5_answerTo 1 0 0 [.ref (a 5), .int k1, .int dy] (fun g => g = h) (fun r g => r = some (.int (ls_ans σ k1 dy)) ∧ g = h) (fun _ _ => False) := by
  refine hl_body (by decide +kernel) (Nat.le_of_ble_eq_true rfl) ?_
  intro p e s m args below meth c B g hg
  rw [hg]
  refine hl_seg B okX5_answerTo (fun q => nomatch q) 0 1000 rfl ?_
  simp only [pX5_answerTo, List.drop_zero, List.drop_succ_cons, hl_wp, hs_ii, hs_i1, hs_ll, hs_l1, hs_ff, hs_g1, hs_dd, hs_d1, hs_r1, hs_rv, hs_rv0, hs_n1, hs_n0, hs_v1i, hs_v1r, hs_a1, hs_d2l, hs_d2i, hs_ri, hs_rl, hs_rg, hs_rd8, hs_rr, hs_rn, hs_ov, hs_gf, hs_po, hs_pfi, hs_pfr, hs_ia, hs_la, hs_da, hs_qa, hs_al, hs_is, hs_ls, hs_ds, hs_iso, hs_lso, hs_dso, hs_rd, hs_f1, hs_f10, hs_f2, hs_f20, hs_in0, hs_in1, hs_lt, hs_le, hs_ge, hs_gt, hs_eq, hs_10, hs_00, hs_01, true_and, and_true, true_imp_iff, false_imp_iff, not_true_eq_false, not_false_eq_true, hs_av, hs_ai, hs_ar, hs_an, hs_aj, hs_ci, hs_cr, hs_cn, hs_cj, hs_cd, hs_cf, hs_q0, hs_q1, reduceIte, Nat.reduceEqDiff, Nat.reduceAdd, Nat.reduceLT, eq_self, List.getElem?_cons_zero, List.getElem?_cons_succ, List.set_cons_zero, List.set_cons_succ, List.length_cons, List.length_nil, Option.toList_some, Option.toList_none, List.cons_append, List.nil_append, Nat.zero_add, Nat.add_zero, List.map_nil, List.sum_nil, List.map_cons, List.sum_cons, Nat.zero_le, hs_set1, q.f5]
  refine hl_callR B (As := [.int _, .int _]) (ct_X5_find q hm) mtX5_find (hl_dec okX5_answerTo 3 rfl) (kk := 601) (by decide +kernel) rfl (q.f5) rfl (Nat.le_of_ble_eq_true rfl) (by decide) (by decide) (by decide) (by decide) ?_
  cases hf1 : ls_find σ k1 dy with
  | none =>
    refine hl_astN B (hl_dec okX5_answerTo 4 rfl) (i := 3) rfl (by decide) ?_
    simp only [List.drop_zero, List.drop_succ_cons, hl_wp, hs_ii, hs_i1, hs_ll, hs_l1, hs_ff, hs_g1, hs_dd, hs_d1, hs_r1, hs_rv, hs_rv0, hs_n1, hs_n0, hs_v1i, hs_v1r, hs_a1, hs_d2l, hs_d2i, hs_ri, hs_rl, hs_rg, hs_rd8, hs_rr, hs_rn, hs_ov, hs_gf, hs_po, hs_pfi, hs_pfr, hs_ia, hs_la, hs_da, hs_qa, hs_al, hs_is, hs_ls, hs_ds, hs_iso, hs_lso, hs_dso, hs_rd, hs_f1, hs_f10, hs_f2, hs_f20, hs_in0, hs_in1, hs_lt, hs_le, hs_ge, hs_gt, hs_eq, hs_10, hs_00, hs_01, true_and, and_true, true_imp_iff, false_imp_iff, not_true_eq_false, not_false_eq_true, hs_av, hs_ai, hs_ar, hs_an, hs_aj, hs_ci, hs_cr, hs_cn, hs_cj, hs_cd, hs_cf, hs_q0, hs_q1, reduceIte, Nat.reduceEqDiff, Nat.reduceAdd, Nat.reduceLT, eq_self, List.getElem?_cons_zero, List.getElem?_cons_succ, List.set_cons_zero, List.set_cons_succ, List.length_cons, List.length_nil, Option.toList_some, Option.toList_none, List.cons_append, List.nil_append, Nat.zero_add, Nat.add_zero, List.map_nil, List.sum_nil, List.map_cons, List.sum_cons, Nat.zero_le, hs_set1]
    refine hl_seg B okX5_answerTo (fun q => nomatch q) 5 1000 rfl ?_
    simp only [pX5_answerTo, List.drop_zero, List.drop_succ_cons, hl_wp, hs_ii, hs_i1, hs_ll, hs_l1, hs_ff, hs_g1, hs_dd, hs_d1, hs_r1, hs_rv, hs_rv0, hs_n1, hs_n0, hs_v1i, hs_v1r, hs_a1, hs_d2l, hs_d2i, hs_ri, hs_rl, hs_rg, hs_rd8, hs_rr, hs_rn, hs_ov, hs_gf, hs_po, hs_pfi, hs_pfr, hs_ia, hs_la, hs_da, hs_qa, hs_al, hs_is, hs_ls, hs_ds, hs_iso, hs_lso, hs_dso, hs_rd, hs_f1, hs_f10, hs_f2, hs_f20, hs_in0, hs_in1, hs_lt, hs_le, hs_ge, hs_gt, hs_eq, hs_10, hs_00, hs_01, true_and, and_true, true_imp_iff, false_imp_iff, not_true_eq_false, not_false_eq_true, hs_av, hs_ai, hs_ar, hs_an, hs_aj, hs_ci, hs_cr, hs_cn, hs_cj, hs_cd, hs_cf, hs_q0, hs_q1, reduceIte, Nat.reduceEqDiff, Nat.reduceAdd, Nat.reduceLT, eq_self, List.getElem?_cons_zero, List.getElem?_cons_succ, List.set_cons_zero, List.set_cons_succ, List.length_cons, List.length_nil, Option.toList_some, Option.toList_none, List.cons_append, List.nil_append, Nat.zero_add, Nat.add_zero, List.map_nil, List.sum_nil, List.map_cons, List.sum_cons, Nat.zero_le, hs_set1, q.f5, Option.map_none]
    exact hl_iret B rfl rfl (hl_dec okX5_answerTo 11 rfl) (by decide) (by decide) ⟨by simp [ls_ans, hf1], rfl⟩
  | some i9 =>
    have hi9 := ls_find_lt hf1
    have hk9 := q.fk hi9
    refine hl_seg B okX5_answerTo (fun q => nomatch q) 4 1000 rfl ?_
    simp only [pX5_answerTo, List.drop_zero, List.drop_succ_cons, hl_wp, hs_ii, hs_i1, hs_ll, hs_l1, hs_ff, hs_g1, hs_dd, hs_d1, hs_r1, hs_rv, hs_rv0, hs_n1, hs_n0, hs_v1i, hs_v1r, hs_a1, hs_d2l, hs_d2i, hs_ri, hs_rl, hs_rg, hs_rd8, hs_rr, hs_rn, hs_ov, hs_gf, hs_po, hs_pfi, hs_pfr, hs_ia, hs_la, hs_da, hs_qa, hs_al, hs_is, hs_ls, hs_ds, hs_iso, hs_lso, hs_dso, hs_rd, hs_f1, hs_f10, hs_f2, hs_f20, hs_in0, hs_in1, hs_lt, hs_le, hs_ge, hs_gt, hs_eq, hs_10, hs_00, hs_01, true_and, and_true, true_imp_iff, false_imp_iff, not_true_eq_false, not_false_eq_true, hs_av, hs_ai, hs_ar, hs_an, hs_aj, hs_ci, hs_cr, hs_cn, hs_cj, hs_cd, hs_cf, hs_q0, hs_q1, reduceIte, Nat.reduceEqDiff, Nat.reduceAdd, Nat.reduceLT, eq_self, List.getElem?_cons_zero, List.getElem?_cons_succ, List.set_cons_zero, List.set_cons_succ, List.length_cons, List.length_nil, Option.toList_some, Option.toList_none, List.cons_append, List.nil_append, Nat.zero_add, Nat.add_zero, List.map_nil, List.sum_nil, List.map_cons, List.sum_cons, Nat.zero_le, hs_set1, q.f5, Option.map_some, hk9]
    refine hl_seg B okX5_answerTo (fun q => nomatch q) 9 1000 rfl ?_
    simp only [pX5_answerTo, List.drop_zero, List.drop_succ_cons, hl_wp, hs_ii, hs_i1, hs_ll, hs_l1, hs_ff, hs_g1, hs_dd, hs_d1, hs_r1, hs_rv, hs_rv0, hs_n1, hs_n0, hs_v1i, hs_v1r, hs_a1, hs_d2l, hs_d2i, hs_ri, hs_rl, hs_rg, hs_rd8, hs_rr, hs_rn, hs_ov, hs_gf, hs_po, hs_pfi, hs_pfr, hs_ia, hs_la, hs_da, hs_qa, hs_al, hs_is, hs_ls, hs_ds, hs_iso, hs_lso, hs_dso, hs_rd, hs_f1, hs_f10, hs_f2, hs_f20, hs_in0, hs_in1, hs_lt, hs_le, hs_ge, hs_gt, hs_eq, hs_10, hs_00, hs_01, true_and, and_true, true_imp_iff, false_imp_iff, not_true_eq_false, not_false_eq_true, hs_av, hs_ai, hs_ar, hs_an, hs_aj, hs_ci, hs_cr, hs_cn, hs_cj, hs_cd, hs_cf, hs_q0, hs_q1, reduceIte, Nat.reduceEqDiff, Nat.reduceAdd, Nat.reduceLT, eq_self, List.getElem?_cons_zero, List.getElem?_cons_succ, List.set_cons_zero, List.set_cons_succ, List.length_cons, List.length_nil, Option.toList_some, Option.toList_none, List.cons_append, List.nil_append, Nat.zero_add, Nat.add_zero, List.map_nil, List.sum_nil, List.map_cons, List.sum_cons, Nat.zero_le, hs_set1, q.f5, Option.map_some, hk9]
    exact hl_iret B rfl rfl (hl_dec okX5_answerTo 11 rfl) (by decide) (by decide) ⟨by simp [ls_ans, hf1], rfl⟩
set_option maxRecDepth 20000 in
set_option maxHeartbeats 2000000 in
theorem ct_X5_hasCallLike {G : hl_G} {l : Launch} {a ca : Nat → Nat} {σ : LSt} {h : hl_H} {r : Nat} {f : Nat → Int32} {dy : Int32} (q : LSr a ca σ h) (hm : σ.2.1 4 ≤ 180) (hr : h r = some (.inr (4, [.int (f 0), .int (f 1), .int (f 2), .int (f 3), .int (f 4), .int (f 5), .int (f 6), .int (f 7)]))) :
    hl_Ct G l mX5_hasCallLike 1 0 0 [.ref (a 5), .ref r, .int dy] (fun g => g = h) (fun r g => r = some (.int (if ls_like σ f dy = true then 1 else 0)) ∧ g = h) (fun _ _ => False) := by
  refine hl_body (by decide +kernel) (Nat.le_of_ble_eq_true rfl) ?_
  intro p e s m args below meth c B g hg
  rw [hg]
  refine hl_seg B okX5_hasCallLike (fun q => nomatch q) 0 1000 rfl ?_
  simp only [pX5_hasCallLike, List.drop_zero, List.drop_succ_cons, hl_wp, hs_ii, hs_i1, hs_ll, hs_l1, hs_ff, hs_g1, hs_dd, hs_d1, hs_r1, hs_rv, hs_rv0, hs_n1, hs_n0, hs_v1i, hs_v1r, hs_a1, hs_d2l, hs_d2i, hs_ri, hs_rl, hs_rg, hs_rd8, hs_rr, hs_rn, hs_ov, hs_gf, hs_po, hs_pfi, hs_pfr, hs_ia, hs_la, hs_da, hs_qa, hs_al, hs_is, hs_ls, hs_ds, hs_iso, hs_lso, hs_dso, hs_rd, hs_f1, hs_f10, hs_f2, hs_f20, hs_in0, hs_in1, hs_lt, hs_le, hs_ge, hs_gt, hs_eq, hs_10, hs_00, hs_01, true_and, and_true, true_imp_iff, false_imp_iff, not_true_eq_false, not_false_eq_true, hs_av, hs_ai, hs_ar, hs_an, hs_aj, hs_ci, hs_cr, hs_cn, hs_cj, hs_cd, hs_cf, hs_q0, hs_q1, reduceIte, Nat.reduceEqDiff, Nat.reduceAdd, Nat.reduceLT, eq_self, List.getElem?_cons_zero, List.getElem?_cons_succ, List.set_cons_zero, List.set_cons_succ, List.length_cons, List.length_nil, Option.toList_some, Option.toList_none, List.cons_append, List.nil_append, Nat.zero_add, Nat.add_zero, List.map_nil, List.sum_nil, List.map_cons, List.sum_cons, Nat.zero_le, hs_set1, q.f5, hr]
  refine hl_callR B (As := [.int _, .int _]) (ct_X5_find q hm) mtX5_find (hl_dec okX5_hasCallLike 7 rfl) (kk := 601) (by decide +kernel) rfl (q.f5) rfl (Nat.le_of_ble_eq_true rfl) (by decide) (by decide) (by decide) (by decide) ?_
  cases hf1 : ls_find σ (f 1) dy with
  | none =>
    refine hl_seg B okX5_hasCallLike (fun q => nomatch q) 8 1000 rfl ?_
    simp only [pX5_hasCallLike, List.drop_zero, List.drop_succ_cons, hl_wp, hs_ii, hs_i1, hs_ll, hs_l1, hs_ff, hs_g1, hs_dd, hs_d1, hs_r1, hs_rv, hs_rv0, hs_n1, hs_n0, hs_v1i, hs_v1r, hs_a1, hs_d2l, hs_d2i, hs_ri, hs_rl, hs_rg, hs_rd8, hs_rr, hs_rn, hs_ov, hs_gf, hs_po, hs_pfi, hs_pfr, hs_ia, hs_la, hs_da, hs_qa, hs_al, hs_is, hs_ls, hs_ds, hs_iso, hs_lso, hs_dso, hs_rd, hs_f1, hs_f10, hs_f2, hs_f20, hs_in0, hs_in1, hs_lt, hs_le, hs_ge, hs_gt, hs_eq, hs_10, hs_00, hs_01, true_and, and_true, true_imp_iff, false_imp_iff, not_true_eq_false, not_false_eq_true, hs_av, hs_ai, hs_ar, hs_an, hs_aj, hs_ci, hs_cr, hs_cn, hs_cj, hs_cd, hs_cf, hs_q0, hs_q1, reduceIte, Nat.reduceEqDiff, Nat.reduceAdd, Nat.reduceLT, eq_self, List.getElem?_cons_zero, List.getElem?_cons_succ, List.set_cons_zero, List.set_cons_succ, List.length_cons, List.length_nil, Option.toList_some, Option.toList_none, List.cons_append, List.nil_append, Nat.zero_add, Nat.add_zero, List.map_nil, List.sum_nil, List.map_cons, List.sum_cons, Nat.zero_le, hs_set1, q.f5, hr, Option.map_none]
    refine hl_callR B (As := [.null]) (ct_X2_isLikeN hr) mtX2_isLike (hl_dec okX5_hasCallLike 8 rfl) (kk := 605) (by decide +kernel) rfl (hr) rfl (Nat.le_of_ble_eq_true rfl) (by decide) (by decide) (by decide) (by decide) ?_
    refine hl_seg B okX5_hasCallLike (fun q => nomatch q) 9 1000 rfl ?_
    simp only [pX5_hasCallLike, List.drop_zero, List.drop_succ_cons, hl_wp, hs_ii, hs_i1, hs_ll, hs_l1, hs_ff, hs_g1, hs_dd, hs_d1, hs_r1, hs_rv, hs_rv0, hs_n1, hs_n0, hs_v1i, hs_v1r, hs_a1, hs_d2l, hs_d2i, hs_ri, hs_rl, hs_rg, hs_rd8, hs_rr, hs_rn, hs_ov, hs_gf, hs_po, hs_pfi, hs_pfr, hs_ia, hs_la, hs_da, hs_qa, hs_al, hs_is, hs_ls, hs_ds, hs_iso, hs_lso, hs_dso, hs_rd, hs_f1, hs_f10, hs_f2, hs_f20, hs_in0, hs_in1, hs_lt, hs_le, hs_ge, hs_gt, hs_eq, hs_10, hs_00, hs_01, true_and, and_true, true_imp_iff, false_imp_iff, not_true_eq_false, not_false_eq_true, hs_av, hs_ai, hs_ar, hs_an, hs_aj, hs_ci, hs_cr, hs_cn, hs_cj, hs_cd, hs_cf, hs_q0, hs_q1, reduceIte, Nat.reduceEqDiff, Nat.reduceAdd, Nat.reduceLT, eq_self, List.getElem?_cons_zero, List.getElem?_cons_succ, List.set_cons_zero, List.set_cons_succ, List.length_cons, List.length_nil, Option.toList_some, Option.toList_none, List.cons_append, List.nil_append, Nat.zero_add, Nat.add_zero, List.map_nil, List.sum_nil, List.map_cons, List.sum_cons, Nat.zero_le, hs_set1, q.f5, hr, Option.map_none]
    refine hl_seg B okX5_hasCallLike (fun q => nomatch q) 12 1000 rfl ?_
    simp only [pX5_hasCallLike, List.drop_zero, List.drop_succ_cons, hl_wp, hs_ii, hs_i1, hs_ll, hs_l1, hs_ff, hs_g1, hs_dd, hs_d1, hs_r1, hs_rv, hs_rv0, hs_n1, hs_n0, hs_v1i, hs_v1r, hs_a1, hs_d2l, hs_d2i, hs_ri, hs_rl, hs_rg, hs_rd8, hs_rr, hs_rn, hs_ov, hs_gf, hs_po, hs_pfi, hs_pfr, hs_ia, hs_la, hs_da, hs_qa, hs_al, hs_is, hs_ls, hs_ds, hs_iso, hs_lso, hs_dso, hs_rd, hs_f1, hs_f10, hs_f2, hs_f20, hs_in0, hs_in1, hs_lt, hs_le, hs_ge, hs_gt, hs_eq, hs_10, hs_00, hs_01, true_and, and_true, true_imp_iff, false_imp_iff, not_true_eq_false, not_false_eq_true, hs_av, hs_ai, hs_ar, hs_an, hs_aj, hs_ci, hs_cr, hs_cn, hs_cj, hs_cd, hs_cf, hs_q0, hs_q1, reduceIte, Nat.reduceEqDiff, Nat.reduceAdd, Nat.reduceLT, eq_self, List.getElem?_cons_zero, List.getElem?_cons_succ, List.set_cons_zero, List.set_cons_succ, List.length_cons, List.length_nil, Option.toList_some, Option.toList_none, List.cons_append, List.nil_append, Nat.zero_add, Nat.add_zero, List.map_nil, List.sum_nil, List.map_cons, List.sum_cons, Nat.zero_le, hs_set1, q.f5, hr, Option.map_none]
    exact hl_iret B rfl (by first | rfl | decide | (split <;> rfl)) (hl_dec okX5_hasCallLike 13 rfl) (by decide) (by decide) ⟨by simp only [ls_like, hf1, decide_eq_true_eq, Bool.false_eq_true, if_false], rfl⟩
  | some i9 =>
    have hi9 := ls_find_lt hf1
    have hk9 := q.fk hi9
    refine hl_seg B okX5_hasCallLike (fun q => nomatch q) 8 1000 rfl ?_
    simp only [pX5_hasCallLike, List.drop_zero, List.drop_succ_cons, hl_wp, hs_ii, hs_i1, hs_ll, hs_l1, hs_ff, hs_g1, hs_dd, hs_d1, hs_r1, hs_rv, hs_rv0, hs_n1, hs_n0, hs_v1i, hs_v1r, hs_a1, hs_d2l, hs_d2i, hs_ri, hs_rl, hs_rg, hs_rd8, hs_rr, hs_rn, hs_ov, hs_gf, hs_po, hs_pfi, hs_pfr, hs_ia, hs_la, hs_da, hs_qa, hs_al, hs_is, hs_ls, hs_ds, hs_iso, hs_lso, hs_dso, hs_rd, hs_f1, hs_f10, hs_f2, hs_f20, hs_in0, hs_in1, hs_lt, hs_le, hs_ge, hs_gt, hs_eq, hs_10, hs_00, hs_01, true_and, and_true, true_imp_iff, false_imp_iff, not_true_eq_false, not_false_eq_true, hs_av, hs_ai, hs_ar, hs_an, hs_aj, hs_ci, hs_cr, hs_cn, hs_cj, hs_cd, hs_cf, hs_q0, hs_q1, reduceIte, Nat.reduceEqDiff, Nat.reduceAdd, Nat.reduceLT, eq_self, List.getElem?_cons_zero, List.getElem?_cons_succ, List.set_cons_zero, List.set_cons_succ, List.length_cons, List.length_nil, Option.toList_some, Option.toList_none, List.cons_append, List.nil_append, Nat.zero_add, Nat.add_zero, List.map_nil, List.sum_nil, List.map_cons, List.sum_cons, Nat.zero_le, hs_set1, q.f5, hr, Option.map_some, hk9]
    refine hl_callR B (As := [.ref _]) (ct_X2_isLike (u := σ.2.2 i9) hr hk9) mtX2_isLike (hl_dec okX5_hasCallLike 8 rfl) (kk := 605) (by decide +kernel) rfl (hr) rfl (Nat.le_of_ble_eq_true rfl) (by decide) (by decide) (by decide) (by decide) ?_
    by_cases c2 : (f 0 = σ.2.2 i9 0 ∧ f 1 = σ.2.2 i9 1 ∧ f 2 = σ.2.2 i9 2 ∧ f 3 = σ.2.2 i9 3 ∧ f 4 = σ.2.2 i9 4 ∧ f 5 = σ.2.2 i9 5)
    · skip
      refine hl_seg B okX5_hasCallLike (fun q => nomatch q) 9 1000 rfl ?_
      simp only [pX5_hasCallLike, List.drop_zero, List.drop_succ_cons, hl_wp, hs_ii, hs_i1, hs_ll, hs_l1, hs_ff, hs_g1, hs_dd, hs_d1, hs_r1, hs_rv, hs_rv0, hs_n1, hs_n0, hs_v1i, hs_v1r, hs_a1, hs_d2l, hs_d2i, hs_ri, hs_rl, hs_rg, hs_rd8, hs_rr, hs_rn, hs_ov, hs_gf, hs_po, hs_pfi, hs_pfr, hs_ia, hs_la, hs_da, hs_qa, hs_al, hs_is, hs_ls, hs_ds, hs_iso, hs_lso, hs_dso, hs_rd, hs_f1, hs_f10, hs_f2, hs_f20, hs_in0, hs_in1, hs_lt, hs_le, hs_ge, hs_gt, hs_eq, hs_10, hs_00, hs_01, true_and, and_true, true_imp_iff, false_imp_iff, not_true_eq_false, not_false_eq_true, hs_av, hs_ai, hs_ar, hs_an, hs_aj, hs_ci, hs_cr, hs_cn, hs_cj, hs_cd, hs_cf, hs_q0, hs_q1, reduceIte, Nat.reduceEqDiff, Nat.reduceAdd, Nat.reduceLT, eq_self, List.getElem?_cons_zero, List.getElem?_cons_succ, List.set_cons_zero, List.set_cons_succ, List.length_cons, List.length_nil, Option.toList_some, Option.toList_none, List.cons_append, List.nil_append, Nat.zero_add, Nat.add_zero, List.map_nil, List.sum_nil, List.map_cons, List.sum_cons, Nat.zero_le, hs_set1, if_pos c2, q.f5, hr, Option.map_some, hk9]
      exact hl_iret B rfl (by first | rfl | decide | (split <;> rfl)) (hl_dec okX5_hasCallLike 13 rfl) (by decide) (by decide) ⟨by simp only [ls_like, hf1, decide_eq_true_eq, Bool.false_eq_true, if_false, if_pos c2], rfl⟩
    · skip
      refine hl_seg B okX5_hasCallLike (fun q => nomatch q) 9 1000 rfl ?_
      simp only [pX5_hasCallLike, List.drop_zero, List.drop_succ_cons, hl_wp, hs_ii, hs_i1, hs_ll, hs_l1, hs_ff, hs_g1, hs_dd, hs_d1, hs_r1, hs_rv, hs_rv0, hs_n1, hs_n0, hs_v1i, hs_v1r, hs_a1, hs_d2l, hs_d2i, hs_ri, hs_rl, hs_rg, hs_rd8, hs_rr, hs_rn, hs_ov, hs_gf, hs_po, hs_pfi, hs_pfr, hs_ia, hs_la, hs_da, hs_qa, hs_al, hs_is, hs_ls, hs_ds, hs_iso, hs_lso, hs_dso, hs_rd, hs_f1, hs_f10, hs_f2, hs_f20, hs_in0, hs_in1, hs_lt, hs_le, hs_ge, hs_gt, hs_eq, hs_10, hs_00, hs_01, true_and, and_true, true_imp_iff, false_imp_iff, not_true_eq_false, not_false_eq_true, hs_av, hs_ai, hs_ar, hs_an, hs_aj, hs_ci, hs_cr, hs_cn, hs_cj, hs_cd, hs_cf, hs_q0, hs_q1, reduceIte, Nat.reduceEqDiff, Nat.reduceAdd, Nat.reduceLT, eq_self, List.getElem?_cons_zero, List.getElem?_cons_succ, List.set_cons_zero, List.set_cons_succ, List.length_cons, List.length_nil, Option.toList_some, Option.toList_none, List.cons_append, List.nil_append, Nat.zero_add, Nat.add_zero, List.map_nil, List.sum_nil, List.map_cons, List.sum_cons, Nat.zero_le, hs_set1, if_neg c2, q.f5, hr, Option.map_some, hk9]
      refine hl_seg B okX5_hasCallLike (fun q => nomatch q) 12 1000 rfl ?_
      simp only [pX5_hasCallLike, List.drop_zero, List.drop_succ_cons, hl_wp, hs_ii, hs_i1, hs_ll, hs_l1, hs_ff, hs_g1, hs_dd, hs_d1, hs_r1, hs_rv, hs_rv0, hs_n1, hs_n0, hs_v1i, hs_v1r, hs_a1, hs_d2l, hs_d2i, hs_ri, hs_rl, hs_rg, hs_rd8, hs_rr, hs_rn, hs_ov, hs_gf, hs_po, hs_pfi, hs_pfr, hs_ia, hs_la, hs_da, hs_qa, hs_al, hs_is, hs_ls, hs_ds, hs_iso, hs_lso, hs_dso, hs_rd, hs_f1, hs_f10, hs_f2, hs_f20, hs_in0, hs_in1, hs_lt, hs_le, hs_ge, hs_gt, hs_eq, hs_10, hs_00, hs_01, true_and, and_true, true_imp_iff, false_imp_iff, not_true_eq_false, not_false_eq_true, hs_av, hs_ai, hs_ar, hs_an, hs_aj, hs_ci, hs_cr, hs_cn, hs_cj, hs_cd, hs_cf, hs_q0, hs_q1, reduceIte, Nat.reduceEqDiff, Nat.reduceAdd, Nat.reduceLT, eq_self, List.getElem?_cons_zero, List.getElem?_cons_succ, List.set_cons_zero, List.set_cons_succ, List.length_cons, List.length_nil, Option.toList_some, Option.toList_none, List.cons_append, List.nil_append, Nat.zero_add, Nat.add_zero, List.map_nil, List.sum_nil, List.map_cons, List.sum_cons, Nat.zero_le, hs_set1, q.f5, hr, Option.map_some, hk9]
      exact hl_iret B rfl (by first | rfl | decide | (split <;> rfl)) (hl_dec okX5_hasCallLike 13 rfl) (by decide) (by decide) ⟨by simp only [ls_like, hf1, decide_eq_true_eq, Bool.false_eq_true, if_false, if_neg c2], rfl⟩
set_option maxRecDepth 20000 in
set_option maxHeartbeats 2000000 in
theorem ct_X5_keep {G : hl_G} {l : Launch} {a ca : Nat → Nat} {σ : LSt} {h0 : hl_H} {r : Nat} {f : Nat → Int32} {dy v : Int32} (hn : σ.2.1 4 < 180) (hr0 : h0 r = none) :
    hl_Ct G l mX5_keep 0 0 0 [.ref (a 5), .ref r, .int dy, .int v] (LSw a ca σ (hl_set h0 r (cl_of f))) (fun r9 g => r9 = some (.int v) ∧ LSw a (va_up ca (σ.2.1 4) r) (ls_keep σ f dy v) h0 g) (fun _ _ => False) := by
  refine hl_body (by decide +kernel) (Nat.le_of_ble_eq_true rfl) ?_
  intro p e s m args below meth c B g hg
  have w := hg
  have q := w.1
  have hr : g r = some (.inr (4, [.int (f 0), .int (f 1), .int (f 2), .int (f 3), .int (f 4), .int (f 5), .int (f 6), .int (f 7)])) := w.rat
  have n5 := w.rne (i := 5) (by decide)
  have n6 := w.rne (i := 6) (by decide)
  have n56 := w.ane (i := 5) (j := 6) (by decide) (by decide) (by decide)
  have h19 := h180 hn
  have hcl : (nI (σ.2.1 4)).toNatClampNeg = σ.2.1 4 := nI_clamp (by omega)
  have hn0 : ¬ nI (σ.2.1 4) < 0 := nI_pos (by omega)
  have q6 : ∀ x : hl_C, hl_set g r x (a 6) = some (.inl (180, .inr (.inr (.inr (.inr (fun i => if i < σ.2.1 4 then some (ca i) else none)))))) := fun x => by rw [hs_set2 n6]; exact q.f6
  refine hl_seg B okX5_keep (fun q => nomatch q) 0 1000 rfl ?_
  simp only [pX5_keep, List.drop_zero, List.drop_succ_cons, hl_wp, hs_ii, hs_i1, hs_ll, hs_l1, hs_ff, hs_g1, hs_dd, hs_d1, hs_r1, hs_rv, hs_rv0, hs_n1, hs_n0, hs_v1i, hs_v1r, hs_a1, hs_d2l, hs_d2i, hs_ri, hs_rl, hs_rg, hs_rd8, hs_rr, hs_rn, hs_ov, hs_gf, hs_po, hs_pfi, hs_pfr, hs_ia, hs_la, hs_da, hs_qa, hs_al, hs_is, hs_ls, hs_ds, hs_iso, hs_lso, hs_dso, hs_rd, hs_f1, hs_f10, hs_f2, hs_f20, hs_in0, hs_in1, hs_lt, hs_le, hs_ge, hs_gt, hs_eq, hs_10, hs_00, hs_01, true_and, and_true, true_imp_iff, false_imp_iff, not_true_eq_false, not_false_eq_true, hs_av, hs_ai, hs_ar, hs_an, hs_aj, hs_ci, hs_cr, hs_cn, hs_cj, hs_cd, hs_cf, hs_q0, hs_q1, reduceIte, Nat.reduceEqDiff, Nat.reduceAdd, Nat.reduceLT, eq_self, List.getElem?_cons_zero, List.getElem?_cons_succ, List.set_cons_zero, List.set_cons_succ, List.length_cons, List.length_nil, Option.toList_some, Option.toList_none, List.cons_append, List.nil_append, Nat.zero_add, Nat.add_zero, List.map_nil, List.sum_nil, List.map_cons, List.sum_cons, Nat.zero_le, hs_set1, q.f5, q.f6, hr, hs_set2 n5, hs_set2 n6, hs_set2 n56, hs_set3, h19, hcl, hn0, hs_qs (q6 _)]
  refine ⟨vp_in_nI hn (by decide), ⟨_, rfl⟩, ?_⟩
  exact hl_iret B rfl rfl (hl_dec okX5_keep 30 rfl) (by decide) (by decide) ⟨rfl, w.keep hr0 f dy v _ rfl⟩
