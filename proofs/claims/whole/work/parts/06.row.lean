/-! PART 06: the class Row -/
section RET
variable {G : hl_G} {l : Launch} {M : hl_M} {d k n : Nat} {Q : Option Value → hl_H → Prop} {X : String → hl_H → Prop}
variable {p : Program} {e : Env} {s : State} {m : MethodId} {args : Array Value} {below : List Frame} {meth : Method} {c : Code} {lv : List (Nat × Value)} {st : List Value} {h : hl_H} {ce sl pc : Nat}
/-- a call that reads alone -/
theorem hl_callR (B : hl_B G M d k n p s m args meth c) {N : hl_M} {d1 na idx kk : Nat} {As rest : List Value} {b ci : Nat} {v : Value} (hct : hl_Ct G l N d1 0 0 (.ref b :: As) (fun g => g = h) (fun r g => r = some v ∧ g = h) (fun _ _ => False)) (hm : hl_mv N na) (hd : decode M.2.1 pc = .ok (.invokevirtual idx, 3)) (hk : hl_w kk (Jvm.Cond.methodLink M.1.cls idx N.1) = true)
    (hna : As.length = na) {fs : List Value} (hrec : h b = some (.inr (ci, fs))) (hcl : vwCl[ci]?.map (fun q => q.1) = some N.1.cls) (hrest : (rest.map fun v => v.category).sum ≤ 8) (hfr : d1 + 1 ≤ d) (hlo : N.2.2.1 ≤ 21) (hce : ce ≤ k) (hsl : sl ≤ n)
    (hw : hl_GM G M d k n Q X p l e s m args below meth c (pc + 3) lv (v :: rest) h ce sl) : hl_GM G M d k n Q X p l e s m args below meth c pc lv (As.reverse ++ .ref b :: rest) h ce sl :=
  hl_callV B hct hm hd hk rfl hna hrec hcl hrest hfr hlo hce hsl rfl (fun r h' q => by
    obtain ⟨rfl, rfl⟩ := q
    exact hw) (fun E h' q => q.elim)
end RET
/-- an index within, from the two tests of the code -/
theorem hl_vin {i : Int32} {N : Nat} (hN : N < 2 ^ 31) (h1 : ¬ i < 0) (h2 : ¬ Int32.ofNat N ≤ i) : vp_in i N := by
  obtain ⟨j, hj, rfl⟩ := nI_of h1
  refine vp_in_nI ?_ hN
  rcases Nat.lt_or_ge j N with q | q
  · exact q
  · exact absurd (nI_le q hj) h2
def row_at (N : Nat) (f : Nat → Int64) (i : Int32) : Int64 := if i < 0 then 0 else if Int32.ofNat N ≤ i then 0 else f i.toNatClampNeg
def row_intAt (N : Nat) (f : Nat → Int64) (i : Int32) : Int32 := if i < 0 then 0 else if Int32.ofNat N ≤ i then 0 else (f i.toNatClampNeg).toInt32
def row_put (N : Nat) (f : Nat → Int64) (i : Int32) (v : Int64) : Nat → Int64 := if i < 0 then f else if Int32.ofNat N ≤ i then f else vp_updL f i.toNatClampNeg v
def row_add (N : Nat) (f : Nat → Int64) (i : Int32) (v : Int64) : Nat → Int64 := if i < 0 then f else if Int32.ofNat N ≤ i then f else vp_updL f i.toNatClampNeg (f i.toNatClampNeg + v)
set_option maxRecDepth 20000 in
theorem ct_X6_at {G : hl_G} {l : Launch} {h : hl_H} {r ar N : Nat} {f : Nat → Int64} {i : Int32} (h1 : h r = some (.inr (8, [.ref ar]))) (h2 : h ar = some (.inl (N, .inr (.inl f)))) (hN : N < 2 ^ 31) :
    hl_Ct G l mX6_at 0 0 0 [.ref r, .int i] (fun g => g = h) (fun v g => v = some (.long (row_at N f i)) ∧ g = h) (fun _ _ => False) := by
  refine hl_body (by decide +kernel) (Nat.le_of_ble_eq_true rfl) ?_
  intro p e s m args below meth c B g hg
  subst hg
  refine hl_seg B okX6_at (fun q => nomatch q) 0 1000 rfl ?_
  simp only [pX6_at, List.drop_zero, List.drop_succ_cons, hl_wp, hs_ii, hs_i1, hs_ll, hs_l1, hs_ff, hs_g1, hs_dd, hs_d1, hs_r1, hs_n1, hs_n0, hs_v1i, hs_v1r, hs_a1, hs_d2l, hs_d2i, hs_ri, hs_rl, hs_rg, hs_rd8, hs_rr, hs_rn, hs_ov, hs_gf, hs_po, hs_pfi, hs_pfr, hs_ia, hs_la, hs_da, hs_qa, hs_al, hs_is, hs_ls, hs_ds, hs_iso, hs_lso, hs_dso, hs_rd, hs_f1, hs_f10, hs_f2, hs_f20, hs_av, hs_ai, hs_ar, hs_an, hs_aj, hs_ci, hs_cr, hs_cn, hs_cj, hs_cd, hs_cf, hs_q0, hs_q1, reduceIte, Nat.reduceEqDiff, Nat.reduceAdd, Nat.reduceLT, eq_self, List.getElem?_cons_zero, List.getElem?_cons_succ, List.set_cons_zero, List.set_cons_succ, List.length_cons, List.length_nil, Option.toList_some, Option.toList_none, List.cons_append, List.nil_append, Nat.zero_add, Nat.add_zero, h1, h2]
  refine ⟨fun c1 => ?_, fun c1 => ⟨fun c2 => ?_, fun c2 => ⟨hl_vin hN c1 c2, ?_⟩⟩⟩
  · refine hl_seg B okX6_at (fun q => nomatch q) 12 1000 rfl ?_
    simp only [pX6_at, List.drop_zero, List.drop_succ_cons, hl_wp, hs_ii, hs_i1, hs_ll, hs_l1, hs_ff, hs_g1, hs_dd, hs_d1, hs_r1, hs_n1, hs_n0, hs_v1i, hs_v1r, hs_a1, hs_d2l, hs_d2i, hs_ri, hs_rl, hs_rg, hs_rd8, hs_rr, hs_rn, hs_ov, hs_gf, hs_po, hs_pfi, hs_pfr, hs_ia, hs_la, hs_da, hs_qa, hs_al, hs_is, hs_ls, hs_ds, hs_iso, hs_lso, hs_dso, hs_rd, hs_f1, hs_f10, hs_f2, hs_f20, hs_av, hs_ai, hs_ar, hs_an, hs_aj, hs_ci, hs_cr, hs_cn, hs_cj, hs_cd, hs_cf, hs_q0, hs_q1, reduceIte, Nat.reduceEqDiff, Nat.reduceAdd, Nat.reduceLT, eq_self, List.getElem?_cons_zero, List.getElem?_cons_succ, List.set_cons_zero, List.set_cons_succ, List.length_cons, List.length_nil, Option.toList_some, Option.toList_none, List.cons_append, List.nil_append, Nat.zero_add, Nat.add_zero]
    exact hl_lret B rfl (hl_dec okX6_at 13 rfl) (Nat.le_refl _) (Nat.le_refl _) ⟨by simp only [row_at, if_pos c1], rfl⟩
  · refine hl_seg B okX6_at (fun q => nomatch q) 12 1000 rfl ?_
    simp only [pX6_at, List.drop_zero, List.drop_succ_cons, hl_wp, hs_ii, hs_i1, hs_ll, hs_l1, hs_ff, hs_g1, hs_dd, hs_d1, hs_r1, hs_n1, hs_n0, hs_v1i, hs_v1r, hs_a1, hs_d2l, hs_d2i, hs_ri, hs_rl, hs_rg, hs_rd8, hs_rr, hs_rn, hs_ov, hs_gf, hs_po, hs_pfi, hs_pfr, hs_ia, hs_la, hs_da, hs_qa, hs_al, hs_is, hs_ls, hs_ds, hs_iso, hs_lso, hs_dso, hs_rd, hs_f1, hs_f10, hs_f2, hs_f20, hs_av, hs_ai, hs_ar, hs_an, hs_aj, hs_ci, hs_cr, hs_cn, hs_cj, hs_cd, hs_cf, hs_q0, hs_q1, reduceIte, Nat.reduceEqDiff, Nat.reduceAdd, Nat.reduceLT, eq_self, List.getElem?_cons_zero, List.getElem?_cons_succ, List.set_cons_zero, List.set_cons_succ, List.length_cons, List.length_nil, Option.toList_some, Option.toList_none, List.cons_append, List.nil_append, Nat.zero_add, Nat.add_zero]
    exact hl_lret B rfl (hl_dec okX6_at 13 rfl) (Nat.le_refl _) (Nat.le_refl _) ⟨by simp only [row_at, if_neg c1, if_pos c2], rfl⟩
  · exact hl_lret B rfl (hl_dec okX6_at 13 rfl) (Nat.le_refl _) (Nat.le_refl _) ⟨by simp only [row_at, if_neg c1, if_neg c2], rfl⟩
set_option maxRecDepth 20000 in
theorem ct_X6_intAt {G : hl_G} {l : Launch} {h : hl_H} {r ar N : Nat} {f : Nat → Int64} {i : Int32} (h1 : h r = some (.inr (8, [.ref ar]))) (h2 : h ar = some (.inl (N, .inr (.inl f)))) (hN : N < 2 ^ 31) :
    hl_Ct G l mX6_intAt 0 0 0 [.ref r, .int i] (fun g => g = h) (fun v g => v = some (.int (row_intAt N f i)) ∧ g = h) (fun _ _ => False) := by
  refine hl_body (by decide +kernel) (Nat.le_of_ble_eq_true rfl) ?_
  intro p e s m args below meth c B g hg
  subst hg
  refine hl_seg B okX6_intAt (fun q => nomatch q) 0 1000 rfl ?_
  simp only [pX6_intAt, List.drop_zero, List.drop_succ_cons, hl_wp, hs_ii, hs_i1, hs_ll, hs_l1, hs_ff, hs_g1, hs_dd, hs_d1, hs_r1, hs_n1, hs_n0, hs_v1i, hs_v1r, hs_a1, hs_d2l, hs_d2i, hs_ri, hs_rl, hs_rg, hs_rd8, hs_rr, hs_rn, hs_ov, hs_gf, hs_po, hs_pfi, hs_pfr, hs_ia, hs_la, hs_da, hs_qa, hs_al, hs_is, hs_ls, hs_ds, hs_iso, hs_lso, hs_dso, hs_rd, hs_f1, hs_f10, hs_f2, hs_f20, hs_av, hs_ai, hs_ar, hs_an, hs_aj, hs_ci, hs_cr, hs_cn, hs_cj, hs_cd, hs_cf, hs_q0, hs_q1, reduceIte, Nat.reduceEqDiff, Nat.reduceAdd, Nat.reduceLT, eq_self, List.getElem?_cons_zero, List.getElem?_cons_succ, List.set_cons_zero, List.set_cons_succ, List.length_cons, List.length_nil, Option.toList_some, Option.toList_none, List.cons_append, List.nil_append, Nat.zero_add, Nat.add_zero, h1, h2]
  refine ⟨fun c1 => ?_, fun c1 => ⟨fun c2 => ?_, fun c2 => ⟨hl_vin hN c1 c2, ?_⟩⟩⟩
  · refine hl_seg B okX6_intAt (fun q => nomatch q) 13 1000 rfl ?_
    simp only [pX6_intAt, List.drop_zero, List.drop_succ_cons, hl_wp, hs_ii, hs_i1, hs_ll, hs_l1, hs_ff, hs_g1, hs_dd, hs_d1, hs_r1, hs_n1, hs_n0, hs_v1i, hs_v1r, hs_a1, hs_d2l, hs_d2i, hs_ri, hs_rl, hs_rg, hs_rd8, hs_rr, hs_rn, hs_ov, hs_gf, hs_po, hs_pfi, hs_pfr, hs_ia, hs_la, hs_da, hs_qa, hs_al, hs_is, hs_ls, hs_ds, hs_iso, hs_lso, hs_dso, hs_rd, hs_f1, hs_f10, hs_f2, hs_f20, hs_av, hs_ai, hs_ar, hs_an, hs_aj, hs_ci, hs_cr, hs_cn, hs_cj, hs_cd, hs_cf, hs_q0, hs_q1, reduceIte, Nat.reduceEqDiff, Nat.reduceAdd, Nat.reduceLT, eq_self, List.getElem?_cons_zero, List.getElem?_cons_succ, List.set_cons_zero, List.set_cons_succ, List.length_cons, List.length_nil, Option.toList_some, Option.toList_none, List.cons_append, List.nil_append, Nat.zero_add, Nat.add_zero]
    exact hl_iret B rfl rfl (hl_dec okX6_intAt 14 rfl) (Nat.le_refl _) (Nat.le_refl _) ⟨by simp only [row_intAt, if_pos c1], rfl⟩
  · refine hl_seg B okX6_intAt (fun q => nomatch q) 13 1000 rfl ?_
    simp only [pX6_intAt, List.drop_zero, List.drop_succ_cons, hl_wp, hs_ii, hs_i1, hs_ll, hs_l1, hs_ff, hs_g1, hs_dd, hs_d1, hs_r1, hs_n1, hs_n0, hs_v1i, hs_v1r, hs_a1, hs_d2l, hs_d2i, hs_ri, hs_rl, hs_rg, hs_rd8, hs_rr, hs_rn, hs_ov, hs_gf, hs_po, hs_pfi, hs_pfr, hs_ia, hs_la, hs_da, hs_qa, hs_al, hs_is, hs_ls, hs_ds, hs_iso, hs_lso, hs_dso, hs_rd, hs_f1, hs_f10, hs_f2, hs_f20, hs_av, hs_ai, hs_ar, hs_an, hs_aj, hs_ci, hs_cr, hs_cn, hs_cj, hs_cd, hs_cf, hs_q0, hs_q1, reduceIte, Nat.reduceEqDiff, Nat.reduceAdd, Nat.reduceLT, eq_self, List.getElem?_cons_zero, List.getElem?_cons_succ, List.set_cons_zero, List.set_cons_succ, List.length_cons, List.length_nil, Option.toList_some, Option.toList_none, List.cons_append, List.nil_append, Nat.zero_add, Nat.add_zero]
    exact hl_iret B rfl rfl (hl_dec okX6_intAt 14 rfl) (Nat.le_refl _) (Nat.le_refl _) ⟨by simp only [row_intAt, if_neg c1, if_pos c2], rfl⟩
  · exact hl_iret B rfl rfl (hl_dec okX6_intAt 14 rfl) (Nat.le_refl _) (Nat.le_refl _) ⟨by simp only [row_intAt, if_neg c1, if_neg c2], rfl⟩
set_option maxRecDepth 20000 in
theorem ct_X6_put {G : hl_G} {l : Launch} {h : hl_H} {r ar N : Nat} {f : Nat → Int64} {i : Int32} {v : Int64} (h1 : h r = some (.inr (8, [.ref ar]))) (h2 : h ar = some (.inl (N, .inr (.inl f)))) (hN : N < 2 ^ 31) :
    hl_Ct G l mX6_put 0 0 0 [.ref r, .int i, .long v] (fun g => g = h) (fun v1 g => v1 = none ∧ g = hl_set h ar (.inl (N, .inr (.inl (row_put N f i v))))) (fun _ _ => False) := by
  refine hl_body (by decide +kernel) (Nat.le_of_ble_eq_true rfl) ?_
  intro p e s m args below meth c B g hg
  subst hg
  have hself : hl_set g ar (.inl (N, .inr (.inl f))) = g := by
    funext q
    by_cases hq : q = ar
    · subst hq; rw [hs_set1, h2]
    · rw [hs_set2 hq]
  refine hl_seg B okX6_put (fun q => nomatch q) 0 1000 rfl ?_
  simp only [pX6_put, List.drop_zero, List.drop_succ_cons, hl_wp, hs_ii, hs_i1, hs_ll, hs_l1, hs_ff, hs_g1, hs_dd, hs_d1, hs_r1, hs_n1, hs_n0, hs_v1i, hs_v1r, hs_a1, hs_d2l, hs_d2i, hs_ri, hs_rl, hs_rg, hs_rd8, hs_rr, hs_rn, hs_ov, hs_gf, hs_po, hs_pfi, hs_pfr, hs_ia, hs_la, hs_da, hs_qa, hs_al, hs_is, hs_ls, hs_ds, hs_iso, hs_lso, hs_dso, hs_rd, hs_f1, hs_f10, hs_f2, hs_f20, hs_av, hs_ai, hs_ar, hs_an, hs_aj, hs_ci, hs_cr, hs_cn, hs_cj, hs_cd, hs_cf, hs_q0, hs_q1, reduceIte, Nat.reduceEqDiff, Nat.reduceAdd, Nat.reduceLT, eq_self, List.getElem?_cons_zero, List.getElem?_cons_succ, List.set_cons_zero, List.set_cons_succ, List.length_cons, List.length_nil, Option.toList_some, Option.toList_none, List.cons_append, List.nil_append, Nat.zero_add, Nat.add_zero, h1, h2]
  refine ⟨fun c1 => ?_, fun c1 => ⟨fun c2 => ?_, fun c2 => ?_⟩⟩
  · exact hl_vret B rfl (hl_dec okX6_put 12 rfl) (Nat.le_refl _) (Nat.le_refl _) ⟨rfl, by simp only [row_put, if_pos c1, hself]⟩
  · exact hl_vret B rfl (hl_dec okX6_put 12 rfl) (Nat.le_refl _) (Nat.le_refl _) ⟨rfl, by simp only [row_put, if_neg c1, if_pos c2, hself]⟩
  · refine ⟨hl_vin hN c1 c2, ?_⟩
    exact hl_vret B rfl (hl_dec okX6_put 12 rfl) (Nat.le_refl _) (Nat.le_refl _) ⟨rfl, by simp only [row_put, if_neg c1, if_neg c2]⟩
set_option maxRecDepth 20000 in
theorem ct_X6_add {G : hl_G} {l : Launch} {h : hl_H} {r ar N : Nat} {f : Nat → Int64} {i : Int32} {v : Int64} (h1 : h r = some (.inr (8, [.ref ar]))) (h2 : h ar = some (.inl (N, .inr (.inl f)))) (hN : N < 2 ^ 31) :
    hl_Ct G l mX6_add 0 0 0 [.ref r, .int i, .long v] (fun g => g = h) (fun v1 g => v1 = none ∧ g = hl_set h ar (.inl (N, .inr (.inl (row_add N f i v))))) (fun _ _ => False) := by
  refine hl_body (by decide +kernel) (Nat.le_of_ble_eq_true rfl) ?_
  intro p e s m args below meth c B g hg
  subst hg
  have hself : hl_set g ar (.inl (N, .inr (.inl f))) = g := by
    funext q
    by_cases hq : q = ar
    · subst hq; rw [hs_set1, h2]
    · rw [hs_set2 hq]
  refine hl_seg B okX6_add (fun q => nomatch q) 0 1000 rfl ?_
  simp only [pX6_add, List.drop_zero, List.drop_succ_cons, hl_wp, hs_ii, hs_i1, hs_ll, hs_l1, hs_ff, hs_g1, hs_dd, hs_d1, hs_r1, hs_n1, hs_n0, hs_v1i, hs_v1r, hs_a1, hs_d2l, hs_d2i, hs_ri, hs_rl, hs_rg, hs_rd8, hs_rr, hs_rn, hs_ov, hs_gf, hs_po, hs_pfi, hs_pfr, hs_ia, hs_la, hs_da, hs_qa, hs_al, hs_is, hs_ls, hs_ds, hs_iso, hs_lso, hs_dso, hs_rd, hs_f1, hs_f10, hs_f2, hs_f20, hs_av, hs_ai, hs_ar, hs_an, hs_aj, hs_ci, hs_cr, hs_cn, hs_cj, hs_cd, hs_cf, hs_q0, hs_q1, reduceIte, Nat.reduceEqDiff, Nat.reduceAdd, Nat.reduceLT, eq_self, List.getElem?_cons_zero, List.getElem?_cons_succ, List.set_cons_zero, List.set_cons_succ, List.length_cons, List.length_nil, Option.toList_some, Option.toList_none, List.cons_append, List.nil_append, Nat.zero_add, Nat.add_zero, h1, h2]
  refine ⟨fun c1 => ?_, fun c1 => ⟨fun c2 => ?_, fun c2 => ?_⟩⟩
  · exact hl_vret B rfl (hl_dec okX6_add 15 rfl) (Nat.le_refl _) (Nat.le_refl _) ⟨rfl, by simp only [row_add, if_pos c1, hself]⟩
  · exact hl_vret B rfl (hl_dec okX6_add 15 rfl) (Nat.le_refl _) (Nat.le_refl _) ⟨rfl, by simp only [row_add, if_neg c1, if_pos c2, hself]⟩
  · refine ⟨hl_vin hN c1 c2, hl_vin hN c1 c2, ?_⟩
    exact hl_vret B rfl (hl_dec okX6_add 15 rfl) (Nat.le_refl _) (Nat.le_refl _) ⟨rfl, by simp only [row_add, if_neg c1, if_neg c2]⟩
