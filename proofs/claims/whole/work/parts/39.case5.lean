/-! PART 39: cases of the law -/
def pW_lastDayOf : List hl_I := [(2084, 0, 1, 0, 0, 0, .aload_n 1), (2085, 0, 0, 0, 0, 0, .aload_n 0), (2086, 0, 5, 0, 0, 0, .iload 5), (2088, 0, 0, 0, 1, 0, .iconst 1), (2089, 0, 0, 0, 0, 0, .iadd), (2090, 0, 0, 0, 0, 0, .iaload), (2091, 0, 3, 0, 0, 0, .aload_n 3), (2092, 0, 0, 904, 0, 0, .invokestatic 250), (2095, 0, 6, 0, 0, 0, .istore 6), (2097, 0, 2, 0, 0, 0, .aload_n 2), (2098, 0, 0, 0, 0, 0, .aload_n 0), (2099, 0, 5, 0, 0, 0, .iload 5), (2101, 0, 0, 0, 1, 0, .iconst 1), (2102, 0, 0, 0, 0, 0, .iadd), (2103, 0, 0, 0, 0, 0, .iaload), (2104, 0, 0, 1310, 0, 0, .invokevirtual 252), (2107, 0, 7, 0, 0, 0, .istore 7), (2109, 0, 2, 0, 0, 0, .aload_n 2), (2110, 0, 0, 1063, 0, 0, .invokevirtual 135), (2113, 0, 6, 0, 0, 0, .iload 6), (2115, 2120, 0, 0, 0, 0, .if_icmp .eq 5), (2118, 0, 0, 0, 0, 0, .iconst 0), (2119, 0, 0, 0, 0, 0, .ireturn), (2120, 0, 6, 0, 0, 0, .iload 6), (2122, 2137, 0, 0, 0, 0, .ifCond .ne 15), (2125, 0, 3, 0, 0, 0, .aload_n 3), (2126, 0, 0, 0, 0, 0, .iconst 0), (2127, 0, 0, 0, 0, 0, .laload), (2128, 0, 7, 0, 0, 0, .iload 7), (2130, 0, 0, 0, 0, 0, .i2l), (2131, 0, 0, 0, 0, 0, .lcmp), (2132, 2137, 0, 0, 0, 0, .ifCond .eq 5), (2135, 0, 0, 0, 0, 0, .iconst 0), (2136, 0, 0, 0, 0, 0, .ireturn), (2137, 2353, 0, 0, 0, 0, .goto 216)]
set_option maxRecDepth 100000 in
theorem okW_lastDayOf : hl_ok cL_law RL 9 false pW_lastDayOf = true := by decide +kernel
set_option maxRecDepth 20000 in
set_option maxHeartbeats 4000000 in
theorem lc_lastDayOf {G : hl_G} {l : Launch} {p : Program} {e : Env} {s : State} {m : MethodId} {args : Array Value} {below : List Frame} {meth : Method} {c : Code} (B : hl_B G mL_law 14 603072 7207018 p s m args meth c) (hst : l.stackTraces = false) {b L : Nat} {xs : Nat → Int32} (hX : va_X b L xs s s.heap) (hb : b < s.heap.size) (hA : ¬ hl_A G b) (hL : L < 2 ^ 31)
    {t i : Nat} (hi : i + 6 ≤ L) {a ca bb : Nat → Nat} {ro rd : Nat} {σ : LSt} {μ : LMt} {f : Nat → Int64} {fd : Nat → UInt64} {h : hl_H} (w : ww_W a ca bb ro rd σ μ f fd h) (hR : rl_R t σ μ) (ht : t + 1 < 2 ^ 29) {ce sl : Nat} (hce : ce + 12 ≤ 603072) (hsl : sl + 90 ≤ 7207018)
    (K : ∀ (ca' : Nat → Nat) (σ' : LSt) (μ' : LMt) (f' : Nat → Int64) (fd' : Nat → UInt64) (h' : hl_H) (ce' sl' : Nat), ww_W a ca' bb ro rd σ' μ' f' fd' h' → rl_R (t + 1) σ' μ' → ce' ≤ ce + 12 → sl' ≤ sl + 90 → hl_GM G mL_law 14 603072 7207018 lk_Q (fun _ _ => False) p l e s m args below meth c 2353 [(0, .ref b), (1, .ref (a 0)), (2, .ref (bb 0)), (3, .ref ro), (4, .ref rd), (5, .int (nI i))] [] h' ce' sl') : hl_GM G mL_law 14 603072 7207018 lk_Q (fun _ _ => False) p l e s m args below meth c 2084 [(0, .ref b), (1, .ref (a 0)), (2, .ref (bb 0)), (3, .ref ro), (4, .ref rd), (5, .int (nI i))] [] h ce sl := by
  have e1 : nI i + 1 = nI (i + 1) := nI_1 i
  have e2 : nI i + 2 = nI (i + 2) := nI_add i 2
  have e3 : nI i + 3 = nI (i + 3) := nI_add i 3
  have e4 : nI i + 4 = nI (i + 4) := nI_add i 4
  have e5 : nI i + 5 = nI (i + 5) := nI_add i 5
  refine hl_seg B okW_lastDayOf (fun q => nomatch q) 0 5 rfl ?_
  simp only [pW_lastDayOf, List.drop_zero, List.drop_succ_cons, hl_wp, hs_ii, hs_i1, hs_ll, hs_l1, hs_ff, hs_g1, hs_dd, hs_d1, hs_r1, hs_rv, hs_rv0, hs_n1, hs_n0, hs_v1i, hs_v1r, hs_a1, hs_d2l, hs_d2i, hs_ri, hs_rl, hs_rg, hs_rd8, hs_rr, hs_rn, hs_ov, hs_gf, hs_po, hs_pfi, hs_pfr, hs_ia, hs_la, hs_da, hs_qa, hs_al, hs_is, hs_ls, hs_ds, hs_iso, hs_lso, hs_dso, hs_rd, hs_f1, hs_f10, hs_f2, hs_f20, hs_in0, hs_in1, hs_lt, hs_le, hs_ge, hs_gt, hs_eq, hs_10, hs_00, hs_01, true_and, and_true, true_imp_iff, false_imp_iff, not_true_eq_false, not_false_eq_true, hs_av, hs_ai, hs_ar, hs_an, hs_aj, hs_ci, hs_cr, hs_cn, hs_cj, hs_cd, hs_cf, hs_q0, hs_q1, reduceIte, Nat.reduceEqDiff, Nat.reduceAdd, Nat.reduceLT, eq_self, List.getElem?_cons_zero, List.getElem?_cons_succ, List.set_cons_zero, List.set_cons_succ, List.length_cons, List.length_nil, Option.toList_some, Option.toList_none, List.cons_append, List.nil_append, Nat.zero_add, Nat.add_zero, List.map_nil, List.sum_nil, List.map_cons, List.sum_cons, Nat.zero_le, hs_set1, e1, e2, e3, e4, e5]
  refine hl_sld B hX hb hA (by omega) hL (hl_dec okW_lastDayOf 5 rfl) ?_
  refine hl_seg B okW_lastDayOf (fun q => nomatch q) 6 1 rfl ?_
  simp only [pW_lastDayOf, List.drop_zero, List.drop_succ_cons, hl_wp, hs_ii, hs_i1, hs_ll, hs_l1, hs_ff, hs_g1, hs_dd, hs_d1, hs_r1, hs_rv, hs_rv0, hs_n1, hs_n0, hs_v1i, hs_v1r, hs_a1, hs_d2l, hs_d2i, hs_ri, hs_rl, hs_rg, hs_rd8, hs_rr, hs_rn, hs_ov, hs_gf, hs_po, hs_pfi, hs_pfr, hs_ia, hs_la, hs_da, hs_qa, hs_al, hs_is, hs_ls, hs_ds, hs_iso, hs_lso, hs_dso, hs_rd, hs_f1, hs_f10, hs_f2, hs_f20, hs_in0, hs_in1, hs_lt, hs_le, hs_ge, hs_gt, hs_eq, hs_10, hs_00, hs_01, true_and, and_true, true_imp_iff, false_imp_iff, not_true_eq_false, not_false_eq_true, hs_av, hs_ai, hs_ar, hs_an, hs_aj, hs_ci, hs_cr, hs_cn, hs_cj, hs_cd, hs_cf, hs_q0, hs_q1, reduceIte, Nat.reduceEqDiff, Nat.reduceAdd, Nat.reduceLT, eq_self, List.getElem?_cons_zero, List.getElem?_cons_succ, List.set_cons_zero, List.set_cons_succ, List.length_cons, List.length_nil, Option.toList_some, Option.toList_none, List.cons_append, List.nil_append, Nat.zero_add, Nat.add_zero, List.map_nil, List.sum_nil, List.map_cons, List.sum_cons, Nat.zero_le, hs_set1, e1, e2, e3, e4, e5]
  obtain ⟨h0, wl, ho, hd, bk1, bk2, bk3⟩ := w.ls
  refine hl_callSW B (av1 := [.ref _, .int _, .ref _]) (rest := []) (cw_lastDayOf hst hR.inv ho) mtL_lastDayOf (hl_dec okW_lastDayOf 7 rfl) (kk := 904) (by decide +kernel) rfl (by decide) (Nat.le_of_ble_eq_true rfl) (Nat.le_of_ble_eq_true rfl) hce hsl wl (fun r9 h9 hq => ?_)
  obtain ⟨ca9, f9, rfl, w1, hv⟩ := hq
  have w2 := bk2 _ _ _ _ w1
  obtain ⟨he1, he2, he3⟩ := re_lastDayOf (x := (xs (i + 1))) hR
  rw [he1]
  have hN9 : lw_cd [xIOB] (op_lastDayOf σ (xs (i + 1))).1 = 0 → (op_lastDayOf σ (xs (i + 1))).1 = none := fun z => lk_cd z (by decide)
  rw [he1] at hN9
  generalize op_lastDayOf σ (xs (i + 1)) = R9 at *
  refine hl_seg B okW_lastDayOf (fun q => nomatch q) 8 6 rfl ?_
  simp only [pW_lastDayOf, List.drop_zero, List.drop_succ_cons, hl_wp, hs_ii, hs_i1, hs_ll, hs_l1, hs_ff, hs_g1, hs_dd, hs_d1, hs_r1, hs_rv, hs_rv0, hs_n1, hs_n0, hs_v1i, hs_v1r, hs_a1, hs_d2l, hs_d2i, hs_ri, hs_rl, hs_rg, hs_rd8, hs_rr, hs_rn, hs_ov, hs_gf, hs_po, hs_pfi, hs_pfr, hs_ia, hs_la, hs_da, hs_qa, hs_al, hs_is, hs_ls, hs_ds, hs_iso, hs_lso, hs_dso, hs_rd, hs_f1, hs_f10, hs_f2, hs_f20, hs_in0, hs_in1, hs_lt, hs_le, hs_ge, hs_gt, hs_eq, hs_10, hs_00, hs_01, true_and, and_true, true_imp_iff, false_imp_iff, not_true_eq_false, not_false_eq_true, hs_av, hs_ai, hs_ar, hs_an, hs_aj, hs_ci, hs_cr, hs_cn, hs_cj, hs_cd, hs_cf, hs_q0, hs_q1, reduceIte, Nat.reduceEqDiff, Nat.reduceAdd, Nat.reduceLT, eq_self, List.getElem?_cons_zero, List.getElem?_cons_succ, List.set_cons_zero, List.set_cons_succ, List.length_cons, List.length_nil, Option.toList_some, Option.toList_none, List.cons_append, List.nil_append, Nat.zero_add, Nat.add_zero, List.map_nil, List.sum_nil, List.map_cons, List.sum_cons, Nat.zero_le, hs_set1, e1, e2, e3, e4, e5]
  refine hl_sld B hX hb hA (by omega) hL (hl_dec okW_lastDayOf 14 rfl) ?_
  obtain ⟨h1, wm, bkm⟩ := w2.lm
  refine hl_callV B (As := [.int _]) (cr_lastDayOf hR.mi) mtX8_lastDayOf (hl_dec okW_lastDayOf 15 rfl) (kk := 1310) (by decide +kernel) rfl rfl (wm.1.f0) rfl (Nat.le_of_ble_eq_true rfl) (by decide) (by decide) hce hsl wm (fun r9 h9 hq => ?_) (fun _ _ hx => hx.elim)
  obtain ⟨rfl, fn, w3⟩ := hq
  have w4 := bkm _ _ w3
  have hv9 := mv_lastDayOf (μ := μ) (x := (xs (i + 1)))
  generalize md_lastDayOf μ (xs (i + 1)) = S9 at *
  obtain ⟨v9, hv9⟩ := hv9
  rw [hv9]
  refine hl_seg B okW_lastDayOf (fun q => nomatch q) 16 2 rfl ?_
  simp only [pW_lastDayOf, List.drop_zero, List.drop_succ_cons, hl_wp, hs_ii, hs_i1, hs_ll, hs_l1, hs_ff, hs_g1, hs_dd, hs_d1, hs_r1, hs_rv, hs_rv0, hs_n1, hs_n0, hs_v1i, hs_v1r, hs_a1, hs_d2l, hs_d2i, hs_ri, hs_rl, hs_rg, hs_rd8, hs_rr, hs_rn, hs_ov, hs_gf, hs_po, hs_pfi, hs_pfr, hs_ia, hs_la, hs_da, hs_qa, hs_al, hs_is, hs_ls, hs_ds, hs_iso, hs_lso, hs_dso, hs_rd, hs_f1, hs_f10, hs_f2, hs_f20, hs_in0, hs_in1, hs_lt, hs_le, hs_ge, hs_gt, hs_eq, hs_10, hs_00, hs_01, true_and, and_true, true_imp_iff, false_imp_iff, not_true_eq_false, not_false_eq_true, hs_av, hs_ai, hs_ar, hs_an, hs_aj, hs_ci, hs_cr, hs_cn, hs_cj, hs_cd, hs_cf, hs_q0, hs_q1, reduceIte, Nat.reduceEqDiff, Nat.reduceAdd, Nat.reduceLT, eq_self, List.getElem?_cons_zero, List.getElem?_cons_succ, List.set_cons_zero, List.set_cons_succ, List.length_cons, List.length_nil, Option.toList_some, Option.toList_none, List.cons_append, List.nil_append, Nat.zero_add, Nat.add_zero, List.map_nil, List.sum_nil, List.map_cons, List.sum_cons, Nat.zero_le, hs_set1, e1, e2, e3, e4, e5]
  obtain ⟨h2, wt, bkt⟩ := w4.lm
  refine hl_callV B (As := []) (cr_thrown (μ := lm_J S9.1 6 fn)) mtX8_thrown (hl_dec okW_lastDayOf 18 rfl) (kk := 1063) (by decide +kernel) rfl rfl (wt.1.f0) rfl (Nat.le_of_ble_eq_true rfl) (by decide) (by decide) hce hsl wt (fun r9 h9 hq => ?_) (fun _ _ hx => hx.elim)
  obtain ⟨rfl, w5⟩ := hq
  have w6 := bkt _ _ w5
  rw [lm_J4]
  refine hl_seg B okW_lastDayOf (fun q => nomatch q) 19 1000 rfl ?_
  simp only [pW_lastDayOf, List.drop_zero, List.drop_succ_cons, hl_wp, hs_ii, hs_i1, hs_ll, hs_l1, hs_ff, hs_g1, hs_dd, hs_d1, hs_r1, hs_rv, hs_rv0, hs_n1, hs_n0, hs_v1i, hs_v1r, hs_a1, hs_d2l, hs_d2i, hs_ri, hs_rl, hs_rg, hs_rd8, hs_rr, hs_rn, hs_ov, hs_gf, hs_po, hs_pfi, hs_pfr, hs_ia, hs_la, hs_da, hs_qa, hs_al, hs_is, hs_ls, hs_ds, hs_iso, hs_lso, hs_dso, hs_rd, hs_f1, hs_f10, hs_f2, hs_f20, hs_in0, hs_in1, hs_lt, hs_le, hs_ge, hs_gt, hs_eq, hs_10, hs_00, hs_01, true_and, and_true, true_imp_iff, false_imp_iff, not_true_eq_false, not_false_eq_true, hs_av, hs_ai, hs_ar, hs_an, hs_aj, hs_ci, hs_cr, hs_cn, hs_cj, hs_cd, hs_cf, hs_q0, hs_q1, reduceIte, Nat.reduceEqDiff, Nat.reduceAdd, Nat.reduceLT, eq_self, List.getElem?_cons_zero, List.getElem?_cons_succ, List.set_cons_zero, List.set_cons_succ, List.length_cons, List.length_nil, Option.toList_some, Option.toList_none, List.cons_append, List.nil_append, Nat.zero_add, Nat.add_zero, List.map_nil, List.sum_nil, List.map_cons, List.sum_cons, Nat.zero_le, hs_set1, e1, e2, e3, e4, e5, lk_eq]
  have hR6 := (he3.up (Nat.le_succ t)).sj fn
  by_cases c6 : S9.1.2.2.2 = 0
  · skip
    have hn9 := hN9 c6
    have hq9 := (he2 hn9)
    rw [hv9] at hq9
    have hf9 := hv hn9
    rw [hq9] at hf9
    have hf9 : f9 0 = v9.toInt64 := hf9
    have ho9 := w6.2.2.1
    have hc9 : lg_cmp (f9 0) v9.toInt64 = 0 := lk_cmp hf9
    refine hl_seg B okW_lastDayOf (fun q => nomatch q) 23 1000 rfl ?_
    simp only [pW_lastDayOf, List.drop_zero, List.drop_succ_cons, hl_wp, hs_ii, hs_i1, hs_ll, hs_l1, hs_ff, hs_g1, hs_dd, hs_d1, hs_r1, hs_rv, hs_rv0, hs_n1, hs_n0, hs_v1i, hs_v1r, hs_a1, hs_d2l, hs_d2i, hs_ri, hs_rl, hs_rg, hs_rd8, hs_rr, hs_rn, hs_ov, hs_gf, hs_po, hs_pfi, hs_pfr, hs_ia, hs_la, hs_da, hs_qa, hs_al, hs_is, hs_ls, hs_ds, hs_iso, hs_lso, hs_dso, hs_rd, hs_f1, hs_f10, hs_f2, hs_f20, hs_in0, hs_in1, hs_lt, hs_le, hs_ge, hs_gt, hs_eq, hs_10, hs_00, hs_01, true_and, and_true, true_imp_iff, false_imp_iff, not_true_eq_false, not_false_eq_true, hs_av, hs_ai, hs_ar, hs_an, hs_aj, hs_ci, hs_cr, hs_cn, hs_cj, hs_cd, hs_cf, hs_q0, hs_q1, reduceIte, Nat.reduceEqDiff, Nat.reduceAdd, Nat.reduceLT, eq_self, List.getElem?_cons_zero, List.getElem?_cons_succ, List.set_cons_zero, List.set_cons_succ, List.length_cons, List.length_nil, Option.toList_some, Option.toList_none, List.cons_append, List.nil_append, Nat.zero_add, Nat.add_zero, List.map_nil, List.sum_nil, List.map_cons, List.sum_cons, Nat.zero_le, hs_set1, e1, e2, e3, e4, e5, c6, ho9, lk_c0, hf9, lk_eq]
    refine ⟨lk_in0, ?_⟩
    refine hl_seg B okW_lastDayOf (fun q => nomatch q) 34 1000 rfl ?_
    simp only [pW_lastDayOf, List.drop_zero, List.drop_succ_cons, hl_wp, hs_ii, hs_i1, hs_ll, hs_l1, hs_ff, hs_g1, hs_dd, hs_d1, hs_r1, hs_rv, hs_rv0, hs_n1, hs_n0, hs_v1i, hs_v1r, hs_a1, hs_d2l, hs_d2i, hs_ri, hs_rl, hs_rg, hs_rd8, hs_rr, hs_rn, hs_ov, hs_gf, hs_po, hs_pfi, hs_pfr, hs_ia, hs_la, hs_da, hs_qa, hs_al, hs_is, hs_ls, hs_ds, hs_iso, hs_lso, hs_dso, hs_rd, hs_f1, hs_f10, hs_f2, hs_f20, hs_in0, hs_in1, hs_lt, hs_le, hs_ge, hs_gt, hs_eq, hs_10, hs_00, hs_01, true_and, and_true, true_imp_iff, false_imp_iff, not_true_eq_false, not_false_eq_true, hs_av, hs_ai, hs_ar, hs_an, hs_aj, hs_ci, hs_cr, hs_cn, hs_cj, hs_cd, hs_cf, hs_q0, hs_q1, reduceIte, Nat.reduceEqDiff, Nat.reduceAdd, Nat.reduceLT, eq_self, List.getElem?_cons_zero, List.getElem?_cons_succ, List.set_cons_zero, List.set_cons_succ, List.length_cons, List.length_nil, Option.toList_some, Option.toList_none, List.cons_append, List.nil_append, Nat.zero_add, Nat.add_zero, List.map_nil, List.sum_nil, List.map_cons, List.sum_cons, Nat.zero_le, hs_set1]
    refine hl_drop B [(0, .ref b), (1, .ref (a 0)), (2, .ref (bb 0)), (3, .ref ro), (4, .ref rd), (5, .int (nI i))] (by simp) ?_
    exact K _ _ _ _ _ _ _ _ w6 hR6 (by omega) (by omega)
  · skip
    refine hl_seg B okW_lastDayOf (fun q => nomatch q) 23 1000 rfl ?_
    simp only [pW_lastDayOf, List.drop_zero, List.drop_succ_cons, hl_wp, hs_ii, hs_i1, hs_ll, hs_l1, hs_ff, hs_g1, hs_dd, hs_d1, hs_r1, hs_rv, hs_rv0, hs_n1, hs_n0, hs_v1i, hs_v1r, hs_a1, hs_d2l, hs_d2i, hs_ri, hs_rl, hs_rg, hs_rd8, hs_rr, hs_rn, hs_ov, hs_gf, hs_po, hs_pfi, hs_pfr, hs_ia, hs_la, hs_da, hs_qa, hs_al, hs_is, hs_ls, hs_ds, hs_iso, hs_lso, hs_dso, hs_rd, hs_f1, hs_f10, hs_f2, hs_f20, hs_in0, hs_in1, hs_lt, hs_le, hs_ge, hs_gt, hs_eq, hs_10, hs_00, hs_01, true_and, and_true, true_imp_iff, false_imp_iff, not_true_eq_false, not_false_eq_true, hs_av, hs_ai, hs_ar, hs_an, hs_aj, hs_ci, hs_cr, hs_cn, hs_cj, hs_cd, hs_cf, hs_q0, hs_q1, reduceIte, Nat.reduceEqDiff, Nat.reduceAdd, Nat.reduceLT, eq_self, List.getElem?_cons_zero, List.getElem?_cons_succ, List.set_cons_zero, List.set_cons_succ, List.length_cons, List.length_nil, Option.toList_some, Option.toList_none, List.cons_append, List.nil_append, Nat.zero_add, Nat.add_zero, List.map_nil, List.sum_nil, List.map_cons, List.sum_cons, Nat.zero_le, hs_set1, e1, e2, e3, e4, e5, c6]
    refine hl_seg B okW_lastDayOf (fun q => nomatch q) 34 1000 rfl ?_
    simp only [pW_lastDayOf, List.drop_zero, List.drop_succ_cons, hl_wp, hs_ii, hs_i1, hs_ll, hs_l1, hs_ff, hs_g1, hs_dd, hs_d1, hs_r1, hs_rv, hs_rv0, hs_n1, hs_n0, hs_v1i, hs_v1r, hs_a1, hs_d2l, hs_d2i, hs_ri, hs_rl, hs_rg, hs_rd8, hs_rr, hs_rn, hs_ov, hs_gf, hs_po, hs_pfi, hs_pfr, hs_ia, hs_la, hs_da, hs_qa, hs_al, hs_is, hs_ls, hs_ds, hs_iso, hs_lso, hs_dso, hs_rd, hs_f1, hs_f10, hs_f2, hs_f20, hs_in0, hs_in1, hs_lt, hs_le, hs_ge, hs_gt, hs_eq, hs_10, hs_00, hs_01, true_and, and_true, true_imp_iff, false_imp_iff, not_true_eq_false, not_false_eq_true, hs_av, hs_ai, hs_ar, hs_an, hs_aj, hs_ci, hs_cr, hs_cn, hs_cj, hs_cd, hs_cf, hs_q0, hs_q1, reduceIte, Nat.reduceEqDiff, Nat.reduceAdd, Nat.reduceLT, eq_self, List.getElem?_cons_zero, List.getElem?_cons_succ, List.set_cons_zero, List.set_cons_succ, List.length_cons, List.length_nil, Option.toList_some, Option.toList_none, List.cons_append, List.nil_append, Nat.zero_add, Nat.add_zero, List.map_nil, List.sum_nil, List.map_cons, List.sum_cons, Nat.zero_le, hs_set1]
    refine hl_drop B [(0, .ref b), (1, .ref (a 0)), (2, .ref (bb 0)), (3, .ref ro), (4, .ref rd), (5, .int (nI i))] (by simp) ?_
    exact K _ _ _ _ _ _ _ _ w6 hR6 (by omega) (by omega)
def pW_keys : List hl_I := [(2140, 0, 1, 0, 0, 0, .aload_n 1), (2141, 0, 0, 356, 0, 0, .invokevirtual 253), (2144, 0, 2, 0, 0, 0, .aload_n 2), (2145, 0, 0, 1314, 0, 0, .invokevirtual 256), (2148, 2353, 0, 0, 0, 0, .if_icmp .eq 205), (2151, 0, 0, 0, 0, 0, .iconst 0), (2152, 0, 0, 0, 0, 0, .ireturn)]
set_option maxRecDepth 100000 in
theorem okW_keys : hl_ok cL_law RL 9 false pW_keys = true := by decide +kernel
set_option maxRecDepth 20000 in
set_option maxHeartbeats 4000000 in
theorem lc_keys {G : hl_G} {l : Launch} {p : Program} {e : Env} {s : State} {m : MethodId} {args : Array Value} {below : List Frame} {meth : Method} {c : Code} (B : hl_B G mL_law 14 603072 7207018 p s m args meth c) (hst : l.stackTraces = false) {b L : Nat} {xs : Nat → Int32} (hX : va_X b L xs s s.heap) (hb : b < s.heap.size) (hA : ¬ hl_A G b) (hL : L < 2 ^ 31)
    {t i : Nat} (hi : i + 6 ≤ L) {a ca bb : Nat → Nat} {ro rd : Nat} {σ : LSt} {μ : LMt} {f : Nat → Int64} {fd : Nat → UInt64} {h : hl_H} (w : ww_W a ca bb ro rd σ μ f fd h) (hR : rl_R t σ μ) (ht : t + 1 < 2 ^ 29) {ce sl : Nat} (hce : ce + 12 ≤ 603072) (hsl : sl + 90 ≤ 7207018)
    (K : ∀ (ca' : Nat → Nat) (σ' : LSt) (μ' : LMt) (f' : Nat → Int64) (fd' : Nat → UInt64) (h' : hl_H) (ce' sl' : Nat), ww_W a ca' bb ro rd σ' μ' f' fd' h' → rl_R (t + 1) σ' μ' → ce' ≤ ce + 12 → sl' ≤ sl + 90 → hl_GM G mL_law 14 603072 7207018 lk_Q (fun _ _ => False) p l e s m args below meth c 2353 [(0, .ref b), (1, .ref (a 0)), (2, .ref (bb 0)), (3, .ref ro), (4, .ref rd), (5, .int (nI i))] [] h' ce' sl') : hl_GM G mL_law 14 603072 7207018 lk_Q (fun _ _ => False) p l e s m args below meth c 2140 [(0, .ref b), (1, .ref (a 0)), (2, .ref (bb 0)), (3, .ref ro), (4, .ref rd), (5, .int (nI i))] [] h ce sl := by
  have e1 : nI i + 1 = nI (i + 1) := nI_1 i
  have e2 : nI i + 2 = nI (i + 2) := nI_add i 2
  have e3 : nI i + 3 = nI (i + 3) := nI_add i 3
  have e4 : nI i + 4 = nI (i + 4) := nI_add i 4
  have e5 : nI i + 5 = nI (i + 5) := nI_add i 5
  refine hl_seg B okW_keys (fun q => nomatch q) 0 1 rfl ?_
  simp only [pW_keys, List.drop_zero, List.drop_succ_cons, hl_wp, hs_ii, hs_i1, hs_ll, hs_l1, hs_ff, hs_g1, hs_dd, hs_d1, hs_r1, hs_rv, hs_rv0, hs_n1, hs_n0, hs_v1i, hs_v1r, hs_a1, hs_d2l, hs_d2i, hs_ri, hs_rl, hs_rg, hs_rd8, hs_rr, hs_rn, hs_ov, hs_gf, hs_po, hs_pfi, hs_pfr, hs_ia, hs_la, hs_da, hs_qa, hs_al, hs_is, hs_ls, hs_ds, hs_iso, hs_lso, hs_dso, hs_rd, hs_f1, hs_f10, hs_f2, hs_f20, hs_in0, hs_in1, hs_lt, hs_le, hs_ge, hs_gt, hs_eq, hs_10, hs_00, hs_01, true_and, and_true, true_imp_iff, false_imp_iff, not_true_eq_false, not_false_eq_true, hs_av, hs_ai, hs_ar, hs_an, hs_aj, hs_ci, hs_cr, hs_cn, hs_cj, hs_cd, hs_cf, hs_q0, hs_q1, reduceIte, Nat.reduceEqDiff, Nat.reduceAdd, Nat.reduceLT, eq_self, List.getElem?_cons_zero, List.getElem?_cons_succ, List.set_cons_zero, List.set_cons_succ, List.length_cons, List.length_nil, Option.toList_some, Option.toList_none, List.cons_append, List.nil_append, Nat.zero_add, Nat.add_zero, List.map_nil, List.sum_nil, List.map_cons, List.sum_cons, Nat.zero_le, hs_set1, e1, e2, e3, e4, e5]
  obtain ⟨h0, wl, ho, hd, bk1, bk2, bk3⟩ := w.ls
  refine hl_callV B (As := []) (cm_keys hst hR.inv) mtX7_keys (hl_dec okW_keys 1 rfl) (kk := 356) (by decide +kernel) rfl rfl (wl.1.f0) rfl (Nat.le_of_ble_eq_true rfl) (by decide) (by decide) hce hsl wl (fun r9 h9 hq => ?_) (fun _ _ hx => ?_)
  · skip
    obtain ⟨ca9, rfl, w1, -⟩ := hq
    have w2 := bk1 _ _ _ w1
    obtain ⟨he1, he2, he3⟩ := re_keys hR
    rw [he2 rfl]
    have hv9 := mv_keys (μ := μ)
    obtain ⟨v9, hv9⟩ := hv9
    rw [hv9]
    refine hl_seg B okW_keys (fun q => nomatch q) 2 1 rfl ?_
    simp only [pW_keys, List.drop_zero, List.drop_succ_cons, hl_wp, hs_ii, hs_i1, hs_ll, hs_l1, hs_ff, hs_g1, hs_dd, hs_d1, hs_r1, hs_rv, hs_rv0, hs_n1, hs_n0, hs_v1i, hs_v1r, hs_a1, hs_d2l, hs_d2i, hs_ri, hs_rl, hs_rg, hs_rd8, hs_rr, hs_rn, hs_ov, hs_gf, hs_po, hs_pfi, hs_pfr, hs_ia, hs_la, hs_da, hs_qa, hs_al, hs_is, hs_ls, hs_ds, hs_iso, hs_lso, hs_dso, hs_rd, hs_f1, hs_f10, hs_f2, hs_f20, hs_in0, hs_in1, hs_lt, hs_le, hs_ge, hs_gt, hs_eq, hs_10, hs_00, hs_01, true_and, and_true, true_imp_iff, false_imp_iff, not_true_eq_false, not_false_eq_true, hs_av, hs_ai, hs_ar, hs_an, hs_aj, hs_ci, hs_cr, hs_cn, hs_cj, hs_cd, hs_cf, hs_q0, hs_q1, reduceIte, Nat.reduceEqDiff, Nat.reduceAdd, Nat.reduceLT, eq_self, List.getElem?_cons_zero, List.getElem?_cons_succ, List.set_cons_zero, List.set_cons_succ, List.length_cons, List.length_nil, Option.toList_some, Option.toList_none, List.cons_append, List.nil_append, Nat.zero_add, Nat.add_zero, List.map_nil, List.sum_nil, List.map_cons, List.sum_cons, Nat.zero_le, hs_set1, e1, e2, e3, e4, e5]
    obtain ⟨h1, wm, bkm⟩ := w2.lm
    refine hl_callV B (As := []) (cr_keys hR.mi) mtX8_keys (hl_dec okW_keys 3 rfl) (kk := 1314) (by decide +kernel) rfl rfl (wm.1.f0) rfl (Nat.le_of_ble_eq_true rfl) (by decide) (by decide) (by omega) (by omega) wm (fun r9 h9 hq => ?_) (fun _ _ hx => hx.elim)
    obtain ⟨rfl, fn, w3⟩ := hq
    have w4 := bkm _ _ w3
    rw [hv9]
    refine hl_seg B okW_keys (fun q => nomatch q) 4 1000 rfl ?_
    simp only [pW_keys, List.drop_zero, List.drop_succ_cons, hl_wp, hs_ii, hs_i1, hs_ll, hs_l1, hs_ff, hs_g1, hs_dd, hs_d1, hs_r1, hs_rv, hs_rv0, hs_n1, hs_n0, hs_v1i, hs_v1r, hs_a1, hs_d2l, hs_d2i, hs_ri, hs_rl, hs_rg, hs_rd8, hs_rr, hs_rn, hs_ov, hs_gf, hs_po, hs_pfi, hs_pfr, hs_ia, hs_la, hs_da, hs_qa, hs_al, hs_is, hs_ls, hs_ds, hs_iso, hs_lso, hs_dso, hs_rd, hs_f1, hs_f10, hs_f2, hs_f20, hs_in0, hs_in1, hs_lt, hs_le, hs_ge, hs_gt, hs_eq, hs_10, hs_00, hs_01, true_and, and_true, true_imp_iff, false_imp_iff, not_true_eq_false, not_false_eq_true, hs_av, hs_ai, hs_ar, hs_an, hs_aj, hs_ci, hs_cr, hs_cn, hs_cj, hs_cd, hs_cf, hs_q0, hs_q1, reduceIte, Nat.reduceEqDiff, Nat.reduceAdd, Nat.reduceLT, eq_self, List.getElem?_cons_zero, List.getElem?_cons_succ, List.set_cons_zero, List.set_cons_succ, List.length_cons, List.length_nil, Option.toList_some, Option.toList_none, List.cons_append, List.nil_append, Nat.zero_add, Nat.add_zero, List.map_nil, List.sum_nil, List.map_cons, List.sum_cons, Nat.zero_le, hs_set1, e1, e2, e3, e4, e5, lk_eq]
    exact K _ _ _ _ _ _ _ _ w4 ((he3.up (Nat.le_succ t)).sj fn) (by omega) (by omega)
  · obtain ⟨_, _, hx⟩ := hx
    cases hx
def pW_answerOf : List hl_I := [(2153, 0, 1, 0, 0, 0, .aload_n 1), (2154, 0, 0, 0, 0, 0, .aload_n 0), (2155, 0, 5, 0, 0, 0, .iload 5), (2157, 0, 0, 0, 1, 0, .iconst 1), (2158, 0, 0, 0, 0, 0, .iadd), (2159, 0, 0, 0, 0, 0, .iaload), (2160, 0, 3, 0, 0, 0, .aload_n 3), (2161, 0, 0, 911, 0, 0, .invokestatic 257), (2164, 0, 6, 0, 0, 0, .istore 6), (2166, 0, 2, 0, 0, 0, .aload_n 2), (2167, 0, 0, 0, 0, 0, .aload_n 0), (2168, 0, 5, 0, 0, 0, .iload 5), (2170, 0, 0, 0, 1, 0, .iconst 1), (2171, 0, 0, 0, 0, 0, .iadd), (2172, 0, 0, 0, 0, 0, .iaload), (2173, 0, 0, 1318, 0, 0, .invokevirtual 259), (2176, 0, 7, 0, 0, 0, .istore 7), (2178, 0, 2, 0, 0, 0, .aload_n 2), (2179, 0, 0, 1063, 0, 0, .invokevirtual 135), (2182, 0, 6, 0, 0, 0, .iload 6), (2184, 2189, 0, 0, 0, 0, .if_icmp .eq 5), (2187, 0, 0, 0, 0, 0, .iconst 0), (2188, 0, 0, 0, 0, 0, .ireturn), (2189, 0, 6, 0, 0, 0, .iload 6), (2191, 2206, 0, 0, 0, 0, .ifCond .ne 15), (2194, 0, 3, 0, 0, 0, .aload_n 3), (2195, 0, 0, 0, 0, 0, .iconst 0), (2196, 0, 0, 0, 0, 0, .laload), (2197, 0, 7, 0, 0, 0, .iload 7), (2199, 0, 0, 0, 0, 0, .i2l), (2200, 0, 0, 0, 0, 0, .lcmp), (2201, 2206, 0, 0, 0, 0, .ifCond .eq 5), (2204, 0, 0, 0, 0, 0, .iconst 0), (2205, 0, 0, 0, 0, 0, .ireturn), (2206, 2353, 0, 0, 0, 0, .goto 147)]
set_option maxRecDepth 100000 in
theorem okW_answerOf : hl_ok cL_law RL 9 false pW_answerOf = true := by decide +kernel
set_option maxRecDepth 20000 in
set_option maxHeartbeats 4000000 in
theorem lc_answerOf {G : hl_G} {l : Launch} {p : Program} {e : Env} {s : State} {m : MethodId} {args : Array Value} {below : List Frame} {meth : Method} {c : Code} (B : hl_B G mL_law 14 603072 7207018 p s m args meth c) (hst : l.stackTraces = false) {b L : Nat} {xs : Nat → Int32} (hX : va_X b L xs s s.heap) (hb : b < s.heap.size) (hA : ¬ hl_A G b) (hL : L < 2 ^ 31)
    {t i : Nat} (hi : i + 6 ≤ L) {a ca bb : Nat → Nat} {ro rd : Nat} {σ : LSt} {μ : LMt} {f : Nat → Int64} {fd : Nat → UInt64} {h : hl_H} (w : ww_W a ca bb ro rd σ μ f fd h) (hR : rl_R t σ μ) (ht : t + 1 < 2 ^ 29) {ce sl : Nat} (hce : ce + 12 ≤ 603072) (hsl : sl + 90 ≤ 7207018)
    (K : ∀ (ca' : Nat → Nat) (σ' : LSt) (μ' : LMt) (f' : Nat → Int64) (fd' : Nat → UInt64) (h' : hl_H) (ce' sl' : Nat), ww_W a ca' bb ro rd σ' μ' f' fd' h' → rl_R (t + 1) σ' μ' → ce' ≤ ce + 12 → sl' ≤ sl + 90 → hl_GM G mL_law 14 603072 7207018 lk_Q (fun _ _ => False) p l e s m args below meth c 2353 [(0, .ref b), (1, .ref (a 0)), (2, .ref (bb 0)), (3, .ref ro), (4, .ref rd), (5, .int (nI i))] [] h' ce' sl') : hl_GM G mL_law 14 603072 7207018 lk_Q (fun _ _ => False) p l e s m args below meth c 2153 [(0, .ref b), (1, .ref (a 0)), (2, .ref (bb 0)), (3, .ref ro), (4, .ref rd), (5, .int (nI i))] [] h ce sl := by
  have e1 : nI i + 1 = nI (i + 1) := nI_1 i
  have e2 : nI i + 2 = nI (i + 2) := nI_add i 2
  have e3 : nI i + 3 = nI (i + 3) := nI_add i 3
  have e4 : nI i + 4 = nI (i + 4) := nI_add i 4
  have e5 : nI i + 5 = nI (i + 5) := nI_add i 5
  refine hl_seg B okW_answerOf (fun q => nomatch q) 0 5 rfl ?_
  simp only [pW_answerOf, List.drop_zero, List.drop_succ_cons, hl_wp, hs_ii, hs_i1, hs_ll, hs_l1, hs_ff, hs_g1, hs_dd, hs_d1, hs_r1, hs_rv, hs_rv0, hs_n1, hs_n0, hs_v1i, hs_v1r, hs_a1, hs_d2l, hs_d2i, hs_ri, hs_rl, hs_rg, hs_rd8, hs_rr, hs_rn, hs_ov, hs_gf, hs_po, hs_pfi, hs_pfr, hs_ia, hs_la, hs_da, hs_qa, hs_al, hs_is, hs_ls, hs_ds, hs_iso, hs_lso, hs_dso, hs_rd, hs_f1, hs_f10, hs_f2, hs_f20, hs_in0, hs_in1, hs_lt, hs_le, hs_ge, hs_gt, hs_eq, hs_10, hs_00, hs_01, true_and, and_true, true_imp_iff, false_imp_iff, not_true_eq_false, not_false_eq_true, hs_av, hs_ai, hs_ar, hs_an, hs_aj, hs_ci, hs_cr, hs_cn, hs_cj, hs_cd, hs_cf, hs_q0, hs_q1, reduceIte, Nat.reduceEqDiff, Nat.reduceAdd, Nat.reduceLT, eq_self, List.getElem?_cons_zero, List.getElem?_cons_succ, List.set_cons_zero, List.set_cons_succ, List.length_cons, List.length_nil, Option.toList_some, Option.toList_none, List.cons_append, List.nil_append, Nat.zero_add, Nat.add_zero, List.map_nil, List.sum_nil, List.map_cons, List.sum_cons, Nat.zero_le, hs_set1, e1, e2, e3, e4, e5]
  refine hl_sld B hX hb hA (by omega) hL (hl_dec okW_answerOf 5 rfl) ?_
  refine hl_seg B okW_answerOf (fun q => nomatch q) 6 1 rfl ?_
  simp only [pW_answerOf, List.drop_zero, List.drop_succ_cons, hl_wp, hs_ii, hs_i1, hs_ll, hs_l1, hs_ff, hs_g1, hs_dd, hs_d1, hs_r1, hs_rv, hs_rv0, hs_n1, hs_n0, hs_v1i, hs_v1r, hs_a1, hs_d2l, hs_d2i, hs_ri, hs_rl, hs_rg, hs_rd8, hs_rr, hs_rn, hs_ov, hs_gf, hs_po, hs_pfi, hs_pfr, hs_ia, hs_la, hs_da, hs_qa, hs_al, hs_is, hs_ls, hs_ds, hs_iso, hs_lso, hs_dso, hs_rd, hs_f1, hs_f10, hs_f2, hs_f20, hs_in0, hs_in1, hs_lt, hs_le, hs_ge, hs_gt, hs_eq, hs_10, hs_00, hs_01, true_and, and_true, true_imp_iff, false_imp_iff, not_true_eq_false, not_false_eq_true, hs_av, hs_ai, hs_ar, hs_an, hs_aj, hs_ci, hs_cr, hs_cn, hs_cj, hs_cd, hs_cf, hs_q0, hs_q1, reduceIte, Nat.reduceEqDiff, Nat.reduceAdd, Nat.reduceLT, eq_self, List.getElem?_cons_zero, List.getElem?_cons_succ, List.set_cons_zero, List.set_cons_succ, List.length_cons, List.length_nil, Option.toList_some, Option.toList_none, List.cons_append, List.nil_append, Nat.zero_add, Nat.add_zero, List.map_nil, List.sum_nil, List.map_cons, List.sum_cons, Nat.zero_le, hs_set1, e1, e2, e3, e4, e5]
  obtain ⟨h0, wl, ho, hd, bk1, bk2, bk3⟩ := w.ls
  refine hl_callSW B (av1 := [.ref _, .int _, .ref _]) (rest := []) (cw_answerOf hst hR.inv ho) mtL_answerOf (hl_dec okW_answerOf 7 rfl) (kk := 911) (by decide +kernel) rfl (by decide) (Nat.le_of_ble_eq_true rfl) (Nat.le_of_ble_eq_true rfl) hce hsl wl (fun r9 h9 hq => ?_)
  obtain ⟨ca9, f9, rfl, w1, hv⟩ := hq
  have w2 := bk2 _ _ _ _ w1
  obtain ⟨he1, he2, he3⟩ := re_answerOf (x := (xs (i + 1))) hR
  rw [he1]
  have hN9 : lw_cd [xNSE] (op_answerOf σ (xs (i + 1))).1 = 0 → (op_answerOf σ (xs (i + 1))).1 = none := fun z => lk_cd z (by decide)
  rw [he1] at hN9
  generalize op_answerOf σ (xs (i + 1)) = R9 at *
  refine hl_seg B okW_answerOf (fun q => nomatch q) 8 6 rfl ?_
  simp only [pW_answerOf, List.drop_zero, List.drop_succ_cons, hl_wp, hs_ii, hs_i1, hs_ll, hs_l1, hs_ff, hs_g1, hs_dd, hs_d1, hs_r1, hs_rv, hs_rv0, hs_n1, hs_n0, hs_v1i, hs_v1r, hs_a1, hs_d2l, hs_d2i, hs_ri, hs_rl, hs_rg, hs_rd8, hs_rr, hs_rn, hs_ov, hs_gf, hs_po, hs_pfi, hs_pfr, hs_ia, hs_la, hs_da, hs_qa, hs_al, hs_is, hs_ls, hs_ds, hs_iso, hs_lso, hs_dso, hs_rd, hs_f1, hs_f10, hs_f2, hs_f20, hs_in0, hs_in1, hs_lt, hs_le, hs_ge, hs_gt, hs_eq, hs_10, hs_00, hs_01, true_and, and_true, true_imp_iff, false_imp_iff, not_true_eq_false, not_false_eq_true, hs_av, hs_ai, hs_ar, hs_an, hs_aj, hs_ci, hs_cr, hs_cn, hs_cj, hs_cd, hs_cf, hs_q0, hs_q1, reduceIte, Nat.reduceEqDiff, Nat.reduceAdd, Nat.reduceLT, eq_self, List.getElem?_cons_zero, List.getElem?_cons_succ, List.set_cons_zero, List.set_cons_succ, List.length_cons, List.length_nil, Option.toList_some, Option.toList_none, List.cons_append, List.nil_append, Nat.zero_add, Nat.add_zero, List.map_nil, List.sum_nil, List.map_cons, List.sum_cons, Nat.zero_le, hs_set1, e1, e2, e3, e4, e5]
  refine hl_sld B hX hb hA (by omega) hL (hl_dec okW_answerOf 14 rfl) ?_
  obtain ⟨h1, wm, bkm⟩ := w2.lm
  refine hl_callV B (As := [.int _]) (cr_answerOf hR.mi) mtX8_answerOf (hl_dec okW_answerOf 15 rfl) (kk := 1318) (by decide +kernel) rfl rfl (wm.1.f0) rfl (Nat.le_of_ble_eq_true rfl) (by decide) (by decide) hce hsl wm (fun r9 h9 hq => ?_) (fun _ _ hx => hx.elim)
  obtain ⟨rfl, fn, w3⟩ := hq
  have w4 := bkm _ _ w3
  have hv9 := mv_answerOf (μ := μ) (x := (xs (i + 1)))
  generalize md_answerOf μ (xs (i + 1)) = S9 at *
  obtain ⟨v9, hv9⟩ := hv9
  rw [hv9]
  refine hl_seg B okW_answerOf (fun q => nomatch q) 16 2 rfl ?_
  simp only [pW_answerOf, List.drop_zero, List.drop_succ_cons, hl_wp, hs_ii, hs_i1, hs_ll, hs_l1, hs_ff, hs_g1, hs_dd, hs_d1, hs_r1, hs_rv, hs_rv0, hs_n1, hs_n0, hs_v1i, hs_v1r, hs_a1, hs_d2l, hs_d2i, hs_ri, hs_rl, hs_rg, hs_rd8, hs_rr, hs_rn, hs_ov, hs_gf, hs_po, hs_pfi, hs_pfr, hs_ia, hs_la, hs_da, hs_qa, hs_al, hs_is, hs_ls, hs_ds, hs_iso, hs_lso, hs_dso, hs_rd, hs_f1, hs_f10, hs_f2, hs_f20, hs_in0, hs_in1, hs_lt, hs_le, hs_ge, hs_gt, hs_eq, hs_10, hs_00, hs_01, true_and, and_true, true_imp_iff, false_imp_iff, not_true_eq_false, not_false_eq_true, hs_av, hs_ai, hs_ar, hs_an, hs_aj, hs_ci, hs_cr, hs_cn, hs_cj, hs_cd, hs_cf, hs_q0, hs_q1, reduceIte, Nat.reduceEqDiff, Nat.reduceAdd, Nat.reduceLT, eq_self, List.getElem?_cons_zero, List.getElem?_cons_succ, List.set_cons_zero, List.set_cons_succ, List.length_cons, List.length_nil, Option.toList_some, Option.toList_none, List.cons_append, List.nil_append, Nat.zero_add, Nat.add_zero, List.map_nil, List.sum_nil, List.map_cons, List.sum_cons, Nat.zero_le, hs_set1, e1, e2, e3, e4, e5]
  obtain ⟨h2, wt, bkt⟩ := w4.lm
  refine hl_callV B (As := []) (cr_thrown (μ := lm_J S9.1 6 fn)) mtX8_thrown (hl_dec okW_answerOf 18 rfl) (kk := 1063) (by decide +kernel) rfl rfl (wt.1.f0) rfl (Nat.le_of_ble_eq_true rfl) (by decide) (by decide) hce hsl wt (fun r9 h9 hq => ?_) (fun _ _ hx => hx.elim)
  obtain ⟨rfl, w5⟩ := hq
  have w6 := bkt _ _ w5
  rw [lm_J4]
  refine hl_seg B okW_answerOf (fun q => nomatch q) 19 1000 rfl ?_
  simp only [pW_answerOf, List.drop_zero, List.drop_succ_cons, hl_wp, hs_ii, hs_i1, hs_ll, hs_l1, hs_ff, hs_g1, hs_dd, hs_d1, hs_r1, hs_rv, hs_rv0, hs_n1, hs_n0, hs_v1i, hs_v1r, hs_a1, hs_d2l, hs_d2i, hs_ri, hs_rl, hs_rg, hs_rd8, hs_rr, hs_rn, hs_ov, hs_gf, hs_po, hs_pfi, hs_pfr, hs_ia, hs_la, hs_da, hs_qa, hs_al, hs_is, hs_ls, hs_ds, hs_iso, hs_lso, hs_dso, hs_rd, hs_f1, hs_f10, hs_f2, hs_f20, hs_in0, hs_in1, hs_lt, hs_le, hs_ge, hs_gt, hs_eq, hs_10, hs_00, hs_01, true_and, and_true, true_imp_iff, false_imp_iff, not_true_eq_false, not_false_eq_true, hs_av, hs_ai, hs_ar, hs_an, hs_aj, hs_ci, hs_cr, hs_cn, hs_cj, hs_cd, hs_cf, hs_q0, hs_q1, reduceIte, Nat.reduceEqDiff, Nat.reduceAdd, Nat.reduceLT, eq_self, List.getElem?_cons_zero, List.getElem?_cons_succ, List.set_cons_zero, List.set_cons_succ, List.length_cons, List.length_nil, Option.toList_some, Option.toList_none, List.cons_append, List.nil_append, Nat.zero_add, Nat.add_zero, List.map_nil, List.sum_nil, List.map_cons, List.sum_cons, Nat.zero_le, hs_set1, e1, e2, e3, e4, e5, lk_eq]
  have hR6 := (he3.up (Nat.le_succ t)).sj fn
  by_cases c6 : S9.1.2.2.2 = 0
  · skip
    have hn9 := hN9 c6
    have hq9 := (he2 hn9)
    rw [hv9] at hq9
    have hf9 := hv hn9
    rw [hq9] at hf9
    have hf9 : f9 0 = v9.toInt64 := hf9
    have ho9 := w6.2.2.1
    have hc9 : lg_cmp (f9 0) v9.toInt64 = 0 := lk_cmp hf9
    refine hl_seg B okW_answerOf (fun q => nomatch q) 23 1000 rfl ?_
    simp only [pW_answerOf, List.drop_zero, List.drop_succ_cons, hl_wp, hs_ii, hs_i1, hs_ll, hs_l1, hs_ff, hs_g1, hs_dd, hs_d1, hs_r1, hs_rv, hs_rv0, hs_n1, hs_n0, hs_v1i, hs_v1r, hs_a1, hs_d2l, hs_d2i, hs_ri, hs_rl, hs_rg, hs_rd8, hs_rr, hs_rn, hs_ov, hs_gf, hs_po, hs_pfi, hs_pfr, hs_ia, hs_la, hs_da, hs_qa, hs_al, hs_is, hs_ls, hs_ds, hs_iso, hs_lso, hs_dso, hs_rd, hs_f1, hs_f10, hs_f2, hs_f20, hs_in0, hs_in1, hs_lt, hs_le, hs_ge, hs_gt, hs_eq, hs_10, hs_00, hs_01, true_and, and_true, true_imp_iff, false_imp_iff, not_true_eq_false, not_false_eq_true, hs_av, hs_ai, hs_ar, hs_an, hs_aj, hs_ci, hs_cr, hs_cn, hs_cj, hs_cd, hs_cf, hs_q0, hs_q1, reduceIte, Nat.reduceEqDiff, Nat.reduceAdd, Nat.reduceLT, eq_self, List.getElem?_cons_zero, List.getElem?_cons_succ, List.set_cons_zero, List.set_cons_succ, List.length_cons, List.length_nil, Option.toList_some, Option.toList_none, List.cons_append, List.nil_append, Nat.zero_add, Nat.add_zero, List.map_nil, List.sum_nil, List.map_cons, List.sum_cons, Nat.zero_le, hs_set1, e1, e2, e3, e4, e5, c6, ho9, lk_c0, hf9, lk_eq]
    refine ⟨lk_in0, ?_⟩
    refine hl_seg B okW_answerOf (fun q => nomatch q) 34 1000 rfl ?_
    simp only [pW_answerOf, List.drop_zero, List.drop_succ_cons, hl_wp, hs_ii, hs_i1, hs_ll, hs_l1, hs_ff, hs_g1, hs_dd, hs_d1, hs_r1, hs_rv, hs_rv0, hs_n1, hs_n0, hs_v1i, hs_v1r, hs_a1, hs_d2l, hs_d2i, hs_ri, hs_rl, hs_rg, hs_rd8, hs_rr, hs_rn, hs_ov, hs_gf, hs_po, hs_pfi, hs_pfr, hs_ia, hs_la, hs_da, hs_qa, hs_al, hs_is, hs_ls, hs_ds, hs_iso, hs_lso, hs_dso, hs_rd, hs_f1, hs_f10, hs_f2, hs_f20, hs_in0, hs_in1, hs_lt, hs_le, hs_ge, hs_gt, hs_eq, hs_10, hs_00, hs_01, true_and, and_true, true_imp_iff, false_imp_iff, not_true_eq_false, not_false_eq_true, hs_av, hs_ai, hs_ar, hs_an, hs_aj, hs_ci, hs_cr, hs_cn, hs_cj, hs_cd, hs_cf, hs_q0, hs_q1, reduceIte, Nat.reduceEqDiff, Nat.reduceAdd, Nat.reduceLT, eq_self, List.getElem?_cons_zero, List.getElem?_cons_succ, List.set_cons_zero, List.set_cons_succ, List.length_cons, List.length_nil, Option.toList_some, Option.toList_none, List.cons_append, List.nil_append, Nat.zero_add, Nat.add_zero, List.map_nil, List.sum_nil, List.map_cons, List.sum_cons, Nat.zero_le, hs_set1]
    refine hl_drop B [(0, .ref b), (1, .ref (a 0)), (2, .ref (bb 0)), (3, .ref ro), (4, .ref rd), (5, .int (nI i))] (by simp) ?_
    exact K _ _ _ _ _ _ _ _ w6 hR6 (by omega) (by omega)
  · skip
    refine hl_seg B okW_answerOf (fun q => nomatch q) 23 1000 rfl ?_
    simp only [pW_answerOf, List.drop_zero, List.drop_succ_cons, hl_wp, hs_ii, hs_i1, hs_ll, hs_l1, hs_ff, hs_g1, hs_dd, hs_d1, hs_r1, hs_rv, hs_rv0, hs_n1, hs_n0, hs_v1i, hs_v1r, hs_a1, hs_d2l, hs_d2i, hs_ri, hs_rl, hs_rg, hs_rd8, hs_rr, hs_rn, hs_ov, hs_gf, hs_po, hs_pfi, hs_pfr, hs_ia, hs_la, hs_da, hs_qa, hs_al, hs_is, hs_ls, hs_ds, hs_iso, hs_lso, hs_dso, hs_rd, hs_f1, hs_f10, hs_f2, hs_f20, hs_in0, hs_in1, hs_lt, hs_le, hs_ge, hs_gt, hs_eq, hs_10, hs_00, hs_01, true_and, and_true, true_imp_iff, false_imp_iff, not_true_eq_false, not_false_eq_true, hs_av, hs_ai, hs_ar, hs_an, hs_aj, hs_ci, hs_cr, hs_cn, hs_cj, hs_cd, hs_cf, hs_q0, hs_q1, reduceIte, Nat.reduceEqDiff, Nat.reduceAdd, Nat.reduceLT, eq_self, List.getElem?_cons_zero, List.getElem?_cons_succ, List.set_cons_zero, List.set_cons_succ, List.length_cons, List.length_nil, Option.toList_some, Option.toList_none, List.cons_append, List.nil_append, Nat.zero_add, Nat.add_zero, List.map_nil, List.sum_nil, List.map_cons, List.sum_cons, Nat.zero_le, hs_set1, e1, e2, e3, e4, e5, c6]
    refine hl_seg B okW_answerOf (fun q => nomatch q) 34 1000 rfl ?_
    simp only [pW_answerOf, List.drop_zero, List.drop_succ_cons, hl_wp, hs_ii, hs_i1, hs_ll, hs_l1, hs_ff, hs_g1, hs_dd, hs_d1, hs_r1, hs_rv, hs_rv0, hs_n1, hs_n0, hs_v1i, hs_v1r, hs_a1, hs_d2l, hs_d2i, hs_ri, hs_rl, hs_rg, hs_rd8, hs_rr, hs_rn, hs_ov, hs_gf, hs_po, hs_pfi, hs_pfr, hs_ia, hs_la, hs_da, hs_qa, hs_al, hs_is, hs_ls, hs_ds, hs_iso, hs_lso, hs_dso, hs_rd, hs_f1, hs_f10, hs_f2, hs_f20, hs_in0, hs_in1, hs_lt, hs_le, hs_ge, hs_gt, hs_eq, hs_10, hs_00, hs_01, true_and, and_true, true_imp_iff, false_imp_iff, not_true_eq_false, not_false_eq_true, hs_av, hs_ai, hs_ar, hs_an, hs_aj, hs_ci, hs_cr, hs_cn, hs_cj, hs_cd, hs_cf, hs_q0, hs_q1, reduceIte, Nat.reduceEqDiff, Nat.reduceAdd, Nat.reduceLT, eq_self, List.getElem?_cons_zero, List.getElem?_cons_succ, List.set_cons_zero, List.set_cons_succ, List.length_cons, List.length_nil, Option.toList_some, Option.toList_none, List.cons_append, List.nil_append, Nat.zero_add, Nat.add_zero, List.map_nil, List.sum_nil, List.map_cons, List.sum_cons, Nat.zero_le, hs_set1]
    refine hl_drop B [(0, .ref b), (1, .ref (a 0)), (2, .ref (bb 0)), (3, .ref ro), (4, .ref rd), (5, .int (nI i))] (by simp) ?_
    exact K _ _ _ _ _ _ _ _ w6 hR6 (by omega) (by omega)
def pW_isBalanced : List hl_I := [(2209, 0, 1, 0, 0, 0, .aload_n 1), (2210, 0, 0, 364, 0, 0, .invokevirtual 260), (2213, 0, 2, 0, 0, 0, .aload_n 2), (2214, 0, 0, 1322, 0, 0, .invokevirtual 264), (2217, 2353, 0, 0, 0, 0, .if_icmp .eq 136), (2220, 0, 0, 0, 0, 0, .iconst 0), (2221, 0, 0, 0, 0, 0, .ireturn)]
set_option maxRecDepth 100000 in
theorem okW_isBalanced : hl_ok cL_law RL 9 false pW_isBalanced = true := by decide +kernel
set_option maxRecDepth 20000 in
set_option maxHeartbeats 4000000 in
theorem lc_isBalanced {G : hl_G} {l : Launch} {p : Program} {e : Env} {s : State} {m : MethodId} {args : Array Value} {below : List Frame} {meth : Method} {c : Code} (B : hl_B G mL_law 14 603072 7207018 p s m args meth c) (hst : l.stackTraces = false) {b L : Nat} {xs : Nat → Int32} (hX : va_X b L xs s s.heap) (hb : b < s.heap.size) (hA : ¬ hl_A G b) (hL : L < 2 ^ 31)
    {t i : Nat} (hi : i + 6 ≤ L) {a ca bb : Nat → Nat} {ro rd : Nat} {σ : LSt} {μ : LMt} {f : Nat → Int64} {fd : Nat → UInt64} {h : hl_H} (w : ww_W a ca bb ro rd σ μ f fd h) (hR : rl_R t σ μ) (ht : t + 1 < 2 ^ 29) {ce sl : Nat} (hce : ce + 12 ≤ 603072) (hsl : sl + 90 ≤ 7207018)
    (K : ∀ (ca' : Nat → Nat) (σ' : LSt) (μ' : LMt) (f' : Nat → Int64) (fd' : Nat → UInt64) (h' : hl_H) (ce' sl' : Nat), ww_W a ca' bb ro rd σ' μ' f' fd' h' → rl_R (t + 1) σ' μ' → ce' ≤ ce + 12 → sl' ≤ sl + 90 → hl_GM G mL_law 14 603072 7207018 lk_Q (fun _ _ => False) p l e s m args below meth c 2353 [(0, .ref b), (1, .ref (a 0)), (2, .ref (bb 0)), (3, .ref ro), (4, .ref rd), (5, .int (nI i))] [] h' ce' sl') : hl_GM G mL_law 14 603072 7207018 lk_Q (fun _ _ => False) p l e s m args below meth c 2209 [(0, .ref b), (1, .ref (a 0)), (2, .ref (bb 0)), (3, .ref ro), (4, .ref rd), (5, .int (nI i))] [] h ce sl := by
  have e1 : nI i + 1 = nI (i + 1) := nI_1 i
  have e2 : nI i + 2 = nI (i + 2) := nI_add i 2
  have e3 : nI i + 3 = nI (i + 3) := nI_add i 3
  have e4 : nI i + 4 = nI (i + 4) := nI_add i 4
  have e5 : nI i + 5 = nI (i + 5) := nI_add i 5
  refine hl_seg B okW_isBalanced (fun q => nomatch q) 0 1 rfl ?_
  simp only [pW_isBalanced, List.drop_zero, List.drop_succ_cons, hl_wp, hs_ii, hs_i1, hs_ll, hs_l1, hs_ff, hs_g1, hs_dd, hs_d1, hs_r1, hs_rv, hs_rv0, hs_n1, hs_n0, hs_v1i, hs_v1r, hs_a1, hs_d2l, hs_d2i, hs_ri, hs_rl, hs_rg, hs_rd8, hs_rr, hs_rn, hs_ov, hs_gf, hs_po, hs_pfi, hs_pfr, hs_ia, hs_la, hs_da, hs_qa, hs_al, hs_is, hs_ls, hs_ds, hs_iso, hs_lso, hs_dso, hs_rd, hs_f1, hs_f10, hs_f2, hs_f20, hs_in0, hs_in1, hs_lt, hs_le, hs_ge, hs_gt, hs_eq, hs_10, hs_00, hs_01, true_and, and_true, true_imp_iff, false_imp_iff, not_true_eq_false, not_false_eq_true, hs_av, hs_ai, hs_ar, hs_an, hs_aj, hs_ci, hs_cr, hs_cn, hs_cj, hs_cd, hs_cf, hs_q0, hs_q1, reduceIte, Nat.reduceEqDiff, Nat.reduceAdd, Nat.reduceLT, eq_self, List.getElem?_cons_zero, List.getElem?_cons_succ, List.set_cons_zero, List.set_cons_succ, List.length_cons, List.length_nil, Option.toList_some, Option.toList_none, List.cons_append, List.nil_append, Nat.zero_add, Nat.add_zero, List.map_nil, List.sum_nil, List.map_cons, List.sum_cons, Nat.zero_le, hs_set1, e1, e2, e3, e4, e5]
  obtain ⟨h0, wl, ho, hd, bk1, bk2, bk3⟩ := w.ls
  refine hl_callV B (As := []) (cm_isBalanced hst hR.inv) mtX7_isBalanced (hl_dec okW_isBalanced 1 rfl) (kk := 364) (by decide +kernel) rfl rfl (wl.1.f0) rfl (Nat.le_of_ble_eq_true rfl) (by decide) (by decide) hce hsl wl (fun r9 h9 hq => ?_) (fun _ _ hx => ?_)
  · skip
    obtain ⟨ca9, rfl, w1, -⟩ := hq
    have w2 := bk1 _ _ _ w1
    obtain ⟨he1, he2, he3⟩ := re_isBalanced hR
    rw [he2 rfl]
    have hv9 := mv_isBalanced (μ := μ)
    obtain ⟨v9, hv9⟩ := hv9
    rw [hv9]
    refine hl_seg B okW_isBalanced (fun q => nomatch q) 2 1 rfl ?_
    simp only [pW_isBalanced, List.drop_zero, List.drop_succ_cons, hl_wp, hs_ii, hs_i1, hs_ll, hs_l1, hs_ff, hs_g1, hs_dd, hs_d1, hs_r1, hs_rv, hs_rv0, hs_n1, hs_n0, hs_v1i, hs_v1r, hs_a1, hs_d2l, hs_d2i, hs_ri, hs_rl, hs_rg, hs_rd8, hs_rr, hs_rn, hs_ov, hs_gf, hs_po, hs_pfi, hs_pfr, hs_ia, hs_la, hs_da, hs_qa, hs_al, hs_is, hs_ls, hs_ds, hs_iso, hs_lso, hs_dso, hs_rd, hs_f1, hs_f10, hs_f2, hs_f20, hs_in0, hs_in1, hs_lt, hs_le, hs_ge, hs_gt, hs_eq, hs_10, hs_00, hs_01, true_and, and_true, true_imp_iff, false_imp_iff, not_true_eq_false, not_false_eq_true, hs_av, hs_ai, hs_ar, hs_an, hs_aj, hs_ci, hs_cr, hs_cn, hs_cj, hs_cd, hs_cf, hs_q0, hs_q1, reduceIte, Nat.reduceEqDiff, Nat.reduceAdd, Nat.reduceLT, eq_self, List.getElem?_cons_zero, List.getElem?_cons_succ, List.set_cons_zero, List.set_cons_succ, List.length_cons, List.length_nil, Option.toList_some, Option.toList_none, List.cons_append, List.nil_append, Nat.zero_add, Nat.add_zero, List.map_nil, List.sum_nil, List.map_cons, List.sum_cons, Nat.zero_le, hs_set1, e1, e2, e3, e4, e5]
    obtain ⟨h1, wm, bkm⟩ := w2.lm
    refine hl_callV B (As := []) (cr_isBalanced hR.mi) mtX8_isBalanced (hl_dec okW_isBalanced 3 rfl) (kk := 1322) (by decide +kernel) rfl rfl (wm.1.f0) rfl (Nat.le_of_ble_eq_true rfl) (by decide) (by decide) (by omega) (by omega) wm (fun r9 h9 hq => ?_) (fun _ _ hx => hx.elim)
    obtain ⟨rfl, fn, w3⟩ := hq
    have w4 := bkm _ _ w3
    rw [hv9]
    refine hl_seg B okW_isBalanced (fun q => nomatch q) 4 1000 rfl ?_
    simp only [pW_isBalanced, List.drop_zero, List.drop_succ_cons, hl_wp, hs_ii, hs_i1, hs_ll, hs_l1, hs_ff, hs_g1, hs_dd, hs_d1, hs_r1, hs_rv, hs_rv0, hs_n1, hs_n0, hs_v1i, hs_v1r, hs_a1, hs_d2l, hs_d2i, hs_ri, hs_rl, hs_rg, hs_rd8, hs_rr, hs_rn, hs_ov, hs_gf, hs_po, hs_pfi, hs_pfr, hs_ia, hs_la, hs_da, hs_qa, hs_al, hs_is, hs_ls, hs_ds, hs_iso, hs_lso, hs_dso, hs_rd, hs_f1, hs_f10, hs_f2, hs_f20, hs_in0, hs_in1, hs_lt, hs_le, hs_ge, hs_gt, hs_eq, hs_10, hs_00, hs_01, true_and, and_true, true_imp_iff, false_imp_iff, not_true_eq_false, not_false_eq_true, hs_av, hs_ai, hs_ar, hs_an, hs_aj, hs_ci, hs_cr, hs_cn, hs_cj, hs_cd, hs_cf, hs_q0, hs_q1, reduceIte, Nat.reduceEqDiff, Nat.reduceAdd, Nat.reduceLT, eq_self, List.getElem?_cons_zero, List.getElem?_cons_succ, List.set_cons_zero, List.set_cons_succ, List.length_cons, List.length_nil, Option.toList_some, Option.toList_none, List.cons_append, List.nil_append, Nat.zero_add, Nat.add_zero, List.map_nil, List.sum_nil, List.map_cons, List.sum_cons, Nat.zero_le, hs_set1, e1, e2, e3, e4, e5, lk_eq]
    exact K _ _ _ _ _ _ _ _ w4 ((he3.up (Nat.le_succ t)).sj fn) (by omega) (by omega)
  · obtain ⟨_, _, hx⟩ := hx
    cases hx
def pW_reversedShare : List hl_I := [(2222, 0, 1, 0, 0, 0, .aload_n 1), (2223, 0, 4, 0, 0, 0, .aload 4), (2225, 0, 0, 919, 0, 0, .invokestatic 265), (2228, 0, 6, 0, 0, 0, .istore 6), (2230, 0, 2, 0, 0, 0, .aload_n 2), (2231, 0, 0, 1326, 0, 0, .invokevirtual 268), (2234, 0, 7, 0, 0, 0, .fstore 7), (2236, 0, 2, 0, 0, 0, .aload_n 2), (2237, 0, 0, 1063, 0, 0, .invokevirtual 135), (2240, 0, 6, 0, 0, 0, .iload 6), (2242, 2247, 0, 0, 0, 0, .if_icmp .eq 5), (2245, 0, 0, 0, 0, 0, .iconst 0), (2246, 0, 0, 0, 0, 0, .ireturn), (2247, 0, 6, 0, 0, 0, .iload 6), (2249, 2285, 0, 0, 0, 0, .ifCond .ne 36), (2252, 0, 4, 0, 0, 0, .aload 4), (2254, 0, 0, 0, 0, 0, .iconst 0), (2255, 0, 0, 0, 0, 0, .daload), (2256, 0, 7, 0, 0, 0, .fload 7), (2258, 0, 0, 0, 0, 0, .f2d), (2259, 0, 0, 0, 0, 0, .dcmp .l), (2260, 2285, 0, 0, 0, 0, .ifCond .eq 25), (2263, 0, 4, 0, 0, 0, .aload 4), (2265, 0, 0, 0, 0, 0, .iconst 0), (2266, 0, 0, 0, 0, 0, .daload), (2267, 0, 4, 0, 0, 0, .aload 4), (2269, 0, 0, 0, 0, 0, .iconst 0), (2270, 0, 0, 0, 0, 0, .daload), (2271, 0, 0, 0, 0, 0, .dcmp .l), (2272, 2283, 0, 0, 0, 0, .ifCond .eq 11), (2275, 0, 7, 0, 0, 0, .fload 7), (2277, 0, 7, 0, 0, 0, .fload 7), (2279, 0, 0, 0, 0, 0, .fcmp .l), (2280, 2285, 0, 0, 0, 0, .ifCond .ne 5), (2283, 0, 0, 0, 0, 0, .iconst 0), (2284, 0, 0, 0, 0, 0, .ireturn), (2285, 2353, 0, 0, 0, 0, .goto 68)]
set_option maxRecDepth 100000 in
theorem okW_reversedShare : hl_ok cL_law RL 9 false pW_reversedShare = true := by decide +kernel
set_option maxRecDepth 20000 in
set_option maxHeartbeats 4000000 in
theorem lc_reversedShare {G : hl_G} {l : Launch} {p : Program} {e : Env} {s : State} {m : MethodId} {args : Array Value} {below : List Frame} {meth : Method} {c : Code} (B : hl_B G mL_law 14 603072 7207018 p s m args meth c) (hst : l.stackTraces = false) {b L : Nat} {xs : Nat → Int32} (hX : va_X b L xs s s.heap) (hb : b < s.heap.size) (hA : ¬ hl_A G b) (hL : L < 2 ^ 31)
    {t i : Nat} (hi : i + 6 ≤ L) {a ca bb : Nat → Nat} {ro rd : Nat} {σ : LSt} {μ : LMt} {f : Nat → Int64} {fd : Nat → UInt64} {h : hl_H} (w : ww_W a ca bb ro rd σ μ f fd h) (hR : rl_R t σ μ) (ht : t + 1 < 2 ^ 29) {ce sl : Nat} (hce : ce + 12 ≤ 603072) (hsl : sl + 90 ≤ 7207018)
    (K : ∀ (ca' : Nat → Nat) (σ' : LSt) (μ' : LMt) (f' : Nat → Int64) (fd' : Nat → UInt64) (h' : hl_H) (ce' sl' : Nat), ww_W a ca' bb ro rd σ' μ' f' fd' h' → rl_R (t + 1) σ' μ' → ce' ≤ ce + 12 → sl' ≤ sl + 90 → hl_GM G mL_law 14 603072 7207018 lk_Q (fun _ _ => False) p l e s m args below meth c 2353 [(0, .ref b), (1, .ref (a 0)), (2, .ref (bb 0)), (3, .ref ro), (4, .ref rd), (5, .int (nI i))] [] h' ce' sl') : hl_GM G mL_law 14 603072 7207018 lk_Q (fun _ _ => False) p l e s m args below meth c 2222 [(0, .ref b), (1, .ref (a 0)), (2, .ref (bb 0)), (3, .ref ro), (4, .ref rd), (5, .int (nI i))] [] h ce sl := by
  have e1 : nI i + 1 = nI (i + 1) := nI_1 i
  have e2 : nI i + 2 = nI (i + 2) := nI_add i 2
  have e3 : nI i + 3 = nI (i + 3) := nI_add i 3
  have e4 : nI i + 4 = nI (i + 4) := nI_add i 4
  have e5 : nI i + 5 = nI (i + 5) := nI_add i 5
  refine hl_seg B okW_reversedShare (fun q => nomatch q) 0 2 rfl ?_
  simp only [pW_reversedShare, List.drop_zero, List.drop_succ_cons, hl_wp, hs_ii, hs_i1, hs_ll, hs_l1, hs_ff, hs_g1, hs_dd, hs_d1, hs_r1, hs_rv, hs_rv0, hs_n1, hs_n0, hs_v1i, hs_v1r, hs_a1, hs_d2l, hs_d2i, hs_ri, hs_rl, hs_rg, hs_rd8, hs_rr, hs_rn, hs_ov, hs_gf, hs_po, hs_pfi, hs_pfr, hs_ia, hs_la, hs_da, hs_qa, hs_al, hs_is, hs_ls, hs_ds, hs_iso, hs_lso, hs_dso, hs_rd, hs_f1, hs_f10, hs_f2, hs_f20, hs_in0, hs_in1, hs_lt, hs_le, hs_ge, hs_gt, hs_eq, hs_10, hs_00, hs_01, true_and, and_true, true_imp_iff, false_imp_iff, not_true_eq_false, not_false_eq_true, hs_av, hs_ai, hs_ar, hs_an, hs_aj, hs_ci, hs_cr, hs_cn, hs_cj, hs_cd, hs_cf, hs_q0, hs_q1, reduceIte, Nat.reduceEqDiff, Nat.reduceAdd, Nat.reduceLT, eq_self, List.getElem?_cons_zero, List.getElem?_cons_succ, List.set_cons_zero, List.set_cons_succ, List.length_cons, List.length_nil, Option.toList_some, Option.toList_none, List.cons_append, List.nil_append, Nat.zero_add, Nat.add_zero, List.map_nil, List.sum_nil, List.map_cons, List.sum_cons, Nat.zero_le, hs_set1, e1, e2, e3, e4, e5]
  obtain ⟨h0, wl, ho, hd, bk1, bk2, bk3⟩ := w.ls
  have hz := hR.sz
  refine hl_callSW B (av1 := [.ref _, .ref _]) (rest := []) (cw_reversedShare hst hR.inv hd (fun z => by rw [hz.1] at z ⊢; exact (fp_share (lk_2 z) hz.2).1) (fun z => by rw [hz.1] at z ⊢; exact (fp_share (lk_2 z) hz.2).2.1)) mtL_reversedShare (hl_dec okW_reversedShare 2 rfl) (kk := 919) (by decide +kernel) rfl (by decide) (Nat.le_of_ble_eq_true rfl) (Nat.le_of_ble_eq_true rfl) hce hsl wl (fun r9 h9 hq => ?_)
  obtain ⟨ca9, f9, rfl, w1, hv⟩ := hq
  have w2 := bk3 _ _ _ _ w1
  obtain ⟨he1, he2, he3⟩ := re_reversedShare hR
  rw [he1]
  have hN9 : lw_cd [xARE] (op_reversedShare σ).1 = 0 → (op_reversedShare σ).1 = none := fun z => lk_cd z (by decide)
  rw [he1] at hN9
  generalize op_reversedShare σ = R9 at *
  refine hl_seg B okW_reversedShare (fun q => nomatch q) 3 2 rfl ?_
  simp only [pW_reversedShare, List.drop_zero, List.drop_succ_cons, hl_wp, hs_ii, hs_i1, hs_ll, hs_l1, hs_ff, hs_g1, hs_dd, hs_d1, hs_r1, hs_rv, hs_rv0, hs_n1, hs_n0, hs_v1i, hs_v1r, hs_a1, hs_d2l, hs_d2i, hs_ri, hs_rl, hs_rg, hs_rd8, hs_rr, hs_rn, hs_ov, hs_gf, hs_po, hs_pfi, hs_pfr, hs_ia, hs_la, hs_da, hs_qa, hs_al, hs_is, hs_ls, hs_ds, hs_iso, hs_lso, hs_dso, hs_rd, hs_f1, hs_f10, hs_f2, hs_f20, hs_in0, hs_in1, hs_lt, hs_le, hs_ge, hs_gt, hs_eq, hs_10, hs_00, hs_01, true_and, and_true, true_imp_iff, false_imp_iff, not_true_eq_false, not_false_eq_true, hs_av, hs_ai, hs_ar, hs_an, hs_aj, hs_ci, hs_cr, hs_cn, hs_cj, hs_cd, hs_cf, hs_q0, hs_q1, reduceIte, Nat.reduceEqDiff, Nat.reduceAdd, Nat.reduceLT, eq_self, List.getElem?_cons_zero, List.getElem?_cons_succ, List.set_cons_zero, List.set_cons_succ, List.length_cons, List.length_nil, Option.toList_some, Option.toList_none, List.cons_append, List.nil_append, Nat.zero_add, Nat.add_zero, List.map_nil, List.sum_nil, List.map_cons, List.sum_cons, Nat.zero_le, hs_set1, e1, e2, e3, e4, e5]
  obtain ⟨h1, wm, bkm⟩ := w2.lm
  refine hl_callV B (As := []) (cr_reversedShare hR.mi (fun z => (fp_share (lk_1 z) hz.2).1)) mtX8_reversedShare (hl_dec okW_reversedShare 5 rfl) (kk := 1326) (by decide +kernel) rfl rfl (wm.1.f0) rfl (Nat.le_of_ble_eq_true rfl) (by decide) (by decide) hce hsl wm (fun r9 h9 hq => ?_) (fun _ _ hx => hx.elim)
  obtain ⟨rfl, fn, w3⟩ := hq
  have w4 := bkm _ _ w3
  have hv9 := mv_reversedShare (μ := μ)
  have hS : (md_reversedShare μ).1.2.2.2 = 0 → ∀ q, (md_reversedShare μ).2 = .float q → vf_n64 (FP.f2d q) ∧ FP.dcmp (FP.f2d q) (FP.f2d q) = some .eq := by
    unfold md_reversedShare
    by_cases z : nI (μ.2.2.1 1) ≤ 0
    · rw [if_pos z]; intro z2; cases z2
    · rw [if_neg z]; intro _ q hq; cases hq; exact (fp_share (lk_1 z) hz.2).2
  generalize md_reversedShare μ = S9 at *
  obtain ⟨v9, hv9⟩ := hv9
  rw [hv9]
  refine hl_seg B okW_reversedShare (fun q => nomatch q) 6 2 rfl ?_
  simp only [pW_reversedShare, List.drop_zero, List.drop_succ_cons, hl_wp, hs_ii, hs_i1, hs_ll, hs_l1, hs_ff, hs_g1, hs_dd, hs_d1, hs_r1, hs_rv, hs_rv0, hs_n1, hs_n0, hs_v1i, hs_v1r, hs_a1, hs_d2l, hs_d2i, hs_ri, hs_rl, hs_rg, hs_rd8, hs_rr, hs_rn, hs_ov, hs_gf, hs_po, hs_pfi, hs_pfr, hs_ia, hs_la, hs_da, hs_qa, hs_al, hs_is, hs_ls, hs_ds, hs_iso, hs_lso, hs_dso, hs_rd, hs_f1, hs_f10, hs_f2, hs_f20, hs_in0, hs_in1, hs_lt, hs_le, hs_ge, hs_gt, hs_eq, hs_10, hs_00, hs_01, true_and, and_true, true_imp_iff, false_imp_iff, not_true_eq_false, not_false_eq_true, hs_av, hs_ai, hs_ar, hs_an, hs_aj, hs_ci, hs_cr, hs_cn, hs_cj, hs_cd, hs_cf, hs_q0, hs_q1, reduceIte, Nat.reduceEqDiff, Nat.reduceAdd, Nat.reduceLT, eq_self, List.getElem?_cons_zero, List.getElem?_cons_succ, List.set_cons_zero, List.set_cons_succ, List.length_cons, List.length_nil, Option.toList_some, Option.toList_none, List.cons_append, List.nil_append, Nat.zero_add, Nat.add_zero, List.map_nil, List.sum_nil, List.map_cons, List.sum_cons, Nat.zero_le, hs_set1, e1, e2, e3, e4, e5]
  obtain ⟨h2, wt, bkt⟩ := w4.lm
  refine hl_callV B (As := []) (cr_thrown (μ := lm_J S9.1 6 fn)) mtX8_thrown (hl_dec okW_reversedShare 8 rfl) (kk := 1063) (by decide +kernel) rfl rfl (wt.1.f0) rfl (Nat.le_of_ble_eq_true rfl) (by decide) (by decide) hce hsl wt (fun r9 h9 hq => ?_) (fun _ _ hx => hx.elim)
  obtain ⟨rfl, w5⟩ := hq
  have w6 := bkt _ _ w5
  rw [lm_J4]
  refine hl_seg B okW_reversedShare (fun q => nomatch q) 9 1000 rfl ?_
  simp only [pW_reversedShare, List.drop_zero, List.drop_succ_cons, hl_wp, hs_ii, hs_i1, hs_ll, hs_l1, hs_ff, hs_g1, hs_dd, hs_d1, hs_r1, hs_rv, hs_rv0, hs_n1, hs_n0, hs_v1i, hs_v1r, hs_a1, hs_d2l, hs_d2i, hs_ri, hs_rl, hs_rg, hs_rd8, hs_rr, hs_rn, hs_ov, hs_gf, hs_po, hs_pfi, hs_pfr, hs_ia, hs_la, hs_da, hs_qa, hs_al, hs_is, hs_ls, hs_ds, hs_iso, hs_lso, hs_dso, hs_rd, hs_f1, hs_f10, hs_f2, hs_f20, hs_in0, hs_in1, hs_lt, hs_le, hs_ge, hs_gt, hs_eq, hs_10, hs_00, hs_01, true_and, and_true, true_imp_iff, false_imp_iff, not_true_eq_false, not_false_eq_true, hs_av, hs_ai, hs_ar, hs_an, hs_aj, hs_ci, hs_cr, hs_cn, hs_cj, hs_cd, hs_cf, hs_q0, hs_q1, reduceIte, Nat.reduceEqDiff, Nat.reduceAdd, Nat.reduceLT, eq_self, List.getElem?_cons_zero, List.getElem?_cons_succ, List.set_cons_zero, List.set_cons_succ, List.length_cons, List.length_nil, Option.toList_some, Option.toList_none, List.cons_append, List.nil_append, Nat.zero_add, Nat.add_zero, List.map_nil, List.sum_nil, List.map_cons, List.sum_cons, Nat.zero_le, hs_set1, e1, e2, e3, e4, e5, lk_eq]
  have hR6 := (he3.up (Nat.le_succ t)).sj fn
  by_cases c6 : S9.1.2.2.2 = 0
  · skip
    have hn9 := hN9 c6
    have hq9 := (he2 hn9)
    rw [hv9] at hq9
    have hf9 := hv hn9
    rw [hq9] at hf9
    have hf9 : f9 0 = FP.f2d v9 := hf9
    have ho9 := w6.2.2.2.1
    obtain ⟨g1, g2⟩ := hS c6 v9 hv9
    have hc9 : Op.cmpValue (FP.dcmp (f9 0) (FP.f2d v9)) .l = 0 := by rw [hf9, g2]; rfl
    refine hl_seg B okW_reversedShare (fun q => nomatch q) 13 1000 rfl ?_
    simp only [pW_reversedShare, List.drop_zero, List.drop_succ_cons, hl_wp, hs_ii, hs_i1, hs_ll, hs_l1, hs_ff, hs_g1, hs_dd, hs_d1, hs_r1, hs_rv, hs_rv0, hs_n1, hs_n0, hs_v1i, hs_v1r, hs_a1, hs_d2l, hs_d2i, hs_ri, hs_rl, hs_rg, hs_rd8, hs_rr, hs_rn, hs_ov, hs_gf, hs_po, hs_pfi, hs_pfr, hs_ia, hs_la, hs_da, hs_qa, hs_al, hs_is, hs_ls, hs_ds, hs_iso, hs_lso, hs_dso, hs_rd, hs_f1, hs_f10, hs_f2, hs_f20, hs_in0, hs_in1, hs_lt, hs_le, hs_ge, hs_gt, hs_eq, hs_10, hs_00, hs_01, true_and, and_true, true_imp_iff, false_imp_iff, not_true_eq_false, not_false_eq_true, hs_av, hs_ai, hs_ar, hs_an, hs_aj, hs_ci, hs_cr, hs_cn, hs_cj, hs_cd, hs_cf, hs_q0, hs_q1, reduceIte, Nat.reduceEqDiff, Nat.reduceAdd, Nat.reduceLT, eq_self, List.getElem?_cons_zero, List.getElem?_cons_succ, List.set_cons_zero, List.set_cons_succ, List.length_cons, List.length_nil, Option.toList_some, Option.toList_none, List.cons_append, List.nil_append, Nat.zero_add, Nat.add_zero, List.map_nil, List.sum_nil, List.map_cons, List.sum_cons, Nat.zero_le, hs_set1, e1, e2, e3, e4, e5, c6, ho9, lk_c0, hc9]
    refine ⟨lk_in0, g1, ?_⟩
    refine hl_seg B okW_reversedShare (fun q => nomatch q) 36 1000 rfl ?_
    simp only [pW_reversedShare, List.drop_zero, List.drop_succ_cons, hl_wp, hs_ii, hs_i1, hs_ll, hs_l1, hs_ff, hs_g1, hs_dd, hs_d1, hs_r1, hs_rv, hs_rv0, hs_n1, hs_n0, hs_v1i, hs_v1r, hs_a1, hs_d2l, hs_d2i, hs_ri, hs_rl, hs_rg, hs_rd8, hs_rr, hs_rn, hs_ov, hs_gf, hs_po, hs_pfi, hs_pfr, hs_ia, hs_la, hs_da, hs_qa, hs_al, hs_is, hs_ls, hs_ds, hs_iso, hs_lso, hs_dso, hs_rd, hs_f1, hs_f10, hs_f2, hs_f20, hs_in0, hs_in1, hs_lt, hs_le, hs_ge, hs_gt, hs_eq, hs_10, hs_00, hs_01, true_and, and_true, true_imp_iff, false_imp_iff, not_true_eq_false, not_false_eq_true, hs_av, hs_ai, hs_ar, hs_an, hs_aj, hs_ci, hs_cr, hs_cn, hs_cj, hs_cd, hs_cf, hs_q0, hs_q1, reduceIte, Nat.reduceEqDiff, Nat.reduceAdd, Nat.reduceLT, eq_self, List.getElem?_cons_zero, List.getElem?_cons_succ, List.set_cons_zero, List.set_cons_succ, List.length_cons, List.length_nil, Option.toList_some, Option.toList_none, List.cons_append, List.nil_append, Nat.zero_add, Nat.add_zero, List.map_nil, List.sum_nil, List.map_cons, List.sum_cons, Nat.zero_le, hs_set1]
    refine hl_drop B [(0, .ref b), (1, .ref (a 0)), (2, .ref (bb 0)), (3, .ref ro), (4, .ref rd), (5, .int (nI i))] (by simp) ?_
    exact K _ _ _ _ _ _ _ _ w6 hR6 (by omega) (by omega)
  · skip
    refine hl_seg B okW_reversedShare (fun q => nomatch q) 13 1000 rfl ?_
    simp only [pW_reversedShare, List.drop_zero, List.drop_succ_cons, hl_wp, hs_ii, hs_i1, hs_ll, hs_l1, hs_ff, hs_g1, hs_dd, hs_d1, hs_r1, hs_rv, hs_rv0, hs_n1, hs_n0, hs_v1i, hs_v1r, hs_a1, hs_d2l, hs_d2i, hs_ri, hs_rl, hs_rg, hs_rd8, hs_rr, hs_rn, hs_ov, hs_gf, hs_po, hs_pfi, hs_pfr, hs_ia, hs_la, hs_da, hs_qa, hs_al, hs_is, hs_ls, hs_ds, hs_iso, hs_lso, hs_dso, hs_rd, hs_f1, hs_f10, hs_f2, hs_f20, hs_in0, hs_in1, hs_lt, hs_le, hs_ge, hs_gt, hs_eq, hs_10, hs_00, hs_01, true_and, and_true, true_imp_iff, false_imp_iff, not_true_eq_false, not_false_eq_true, hs_av, hs_ai, hs_ar, hs_an, hs_aj, hs_ci, hs_cr, hs_cn, hs_cj, hs_cd, hs_cf, hs_q0, hs_q1, reduceIte, Nat.reduceEqDiff, Nat.reduceAdd, Nat.reduceLT, eq_self, List.getElem?_cons_zero, List.getElem?_cons_succ, List.set_cons_zero, List.set_cons_succ, List.length_cons, List.length_nil, Option.toList_some, Option.toList_none, List.cons_append, List.nil_append, Nat.zero_add, Nat.add_zero, List.map_nil, List.sum_nil, List.map_cons, List.sum_cons, Nat.zero_le, hs_set1, e1, e2, e3, e4, e5, c6]
    refine hl_seg B okW_reversedShare (fun q => nomatch q) 36 1000 rfl ?_
    simp only [pW_reversedShare, List.drop_zero, List.drop_succ_cons, hl_wp, hs_ii, hs_i1, hs_ll, hs_l1, hs_ff, hs_g1, hs_dd, hs_d1, hs_r1, hs_rv, hs_rv0, hs_n1, hs_n0, hs_v1i, hs_v1r, hs_a1, hs_d2l, hs_d2i, hs_ri, hs_rl, hs_rg, hs_rd8, hs_rr, hs_rn, hs_ov, hs_gf, hs_po, hs_pfi, hs_pfr, hs_ia, hs_la, hs_da, hs_qa, hs_al, hs_is, hs_ls, hs_ds, hs_iso, hs_lso, hs_dso, hs_rd, hs_f1, hs_f10, hs_f2, hs_f20, hs_in0, hs_in1, hs_lt, hs_le, hs_ge, hs_gt, hs_eq, hs_10, hs_00, hs_01, true_and, and_true, true_imp_iff, false_imp_iff, not_true_eq_false, not_false_eq_true, hs_av, hs_ai, hs_ar, hs_an, hs_aj, hs_ci, hs_cr, hs_cn, hs_cj, hs_cd, hs_cf, hs_q0, hs_q1, reduceIte, Nat.reduceEqDiff, Nat.reduceAdd, Nat.reduceLT, eq_self, List.getElem?_cons_zero, List.getElem?_cons_succ, List.set_cons_zero, List.set_cons_succ, List.length_cons, List.length_nil, Option.toList_some, Option.toList_none, List.cons_append, List.nil_append, Nat.zero_add, Nat.add_zero, List.map_nil, List.sum_nil, List.map_cons, List.sum_cons, Nat.zero_le, hs_set1]
    refine hl_drop B [(0, .ref b), (1, .ref (a 0)), (2, .ref (bb 0)), (3, .ref ro), (4, .ref rd), (5, .int (nI i))] (by simp) ?_
    exact K _ _ _ _ _ _ _ _ w6 hR6 (by omega) (by omega)
def pW_meanPaid : List hl_I := [(2288, 0, 1, 0, 0, 0, .aload_n 1), (2289, 0, 4, 0, 0, 0, .aload 4), (2291, 0, 0, 948, 0, 0, .invokestatic 269), (2294, 0, 6, 0, 0, 0, .istore 6), (2296, 0, 2, 0, 0, 0, .aload_n 2), (2297, 0, 0, 1330, 0, 0, .invokevirtual 271), (2300, 0, 7, 0, 0, 0, .dstore 7), (2302, 0, 2, 0, 0, 0, .aload_n 2), (2303, 0, 0, 1063, 0, 0, .invokevirtual 135), (2306, 0, 6, 0, 0, 0, .iload 6), (2308, 2313, 0, 0, 0, 0, .if_icmp .eq 5), (2311, 0, 0, 0, 0, 0, .iconst 0), (2312, 0, 0, 0, 0, 0, .ireturn), (2313, 0, 6, 0, 0, 0, .iload 6), (2315, 2350, 0, 0, 0, 0, .ifCond .ne 35), (2318, 0, 4, 0, 0, 0, .aload 4), (2320, 0, 0, 0, 0, 0, .iconst 0), (2321, 0, 0, 0, 0, 0, .daload), (2322, 0, 7, 0, 0, 0, .dload 7), (2324, 0, 0, 0, 0, 0, .dcmp .l), (2325, 2350, 0, 0, 0, 0, .ifCond .eq 25), (2328, 0, 4, 0, 0, 0, .aload 4), (2330, 0, 0, 0, 0, 0, .iconst 0), (2331, 0, 0, 0, 0, 0, .daload), (2332, 0, 4, 0, 0, 0, .aload 4), (2334, 0, 0, 0, 0, 0, .iconst 0), (2335, 0, 0, 0, 0, 0, .daload), (2336, 0, 0, 0, 0, 0, .dcmp .l), (2337, 2348, 0, 0, 0, 0, .ifCond .eq 11), (2340, 0, 7, 0, 0, 0, .dload 7), (2342, 0, 7, 0, 0, 0, .dload 7), (2344, 0, 0, 0, 0, 0, .dcmp .l), (2345, 2350, 0, 0, 0, 0, .ifCond .ne 5), (2348, 0, 0, 0, 0, 0, .iconst 0), (2349, 0, 0, 0, 0, 0, .ireturn), (2350, 2353, 0, 0, 0, 0, .goto 3)]
set_option maxRecDepth 100000 in
theorem okW_meanPaid : hl_ok cL_law RL 9 false pW_meanPaid = true := by decide +kernel
set_option maxRecDepth 20000 in
set_option maxHeartbeats 4000000 in
theorem lc_meanPaid {G : hl_G} {l : Launch} {p : Program} {e : Env} {s : State} {m : MethodId} {args : Array Value} {below : List Frame} {meth : Method} {c : Code} (B : hl_B G mL_law 14 603072 7207018 p s m args meth c) (hst : l.stackTraces = false) {b L : Nat} {xs : Nat → Int32} (hX : va_X b L xs s s.heap) (hb : b < s.heap.size) (hA : ¬ hl_A G b) (hL : L < 2 ^ 31)
    {t i : Nat} (hi : i + 6 ≤ L) {a ca bb : Nat → Nat} {ro rd : Nat} {σ : LSt} {μ : LMt} {f : Nat → Int64} {fd : Nat → UInt64} {h : hl_H} (w : ww_W a ca bb ro rd σ μ f fd h) (hR : rl_R t σ μ) (ht : t + 1 < 2 ^ 29) {ce sl : Nat} (hce : ce + 12 ≤ 603072) (hsl : sl + 90 ≤ 7207018)
    (K : ∀ (ca' : Nat → Nat) (σ' : LSt) (μ' : LMt) (f' : Nat → Int64) (fd' : Nat → UInt64) (h' : hl_H) (ce' sl' : Nat), ww_W a ca' bb ro rd σ' μ' f' fd' h' → rl_R (t + 1) σ' μ' → ce' ≤ ce + 12 → sl' ≤ sl + 90 → hl_GM G mL_law 14 603072 7207018 lk_Q (fun _ _ => False) p l e s m args below meth c 2353 [(0, .ref b), (1, .ref (a 0)), (2, .ref (bb 0)), (3, .ref ro), (4, .ref rd), (5, .int (nI i))] [] h' ce' sl') : hl_GM G mL_law 14 603072 7207018 lk_Q (fun _ _ => False) p l e s m args below meth c 2288 [(0, .ref b), (1, .ref (a 0)), (2, .ref (bb 0)), (3, .ref ro), (4, .ref rd), (5, .int (nI i))] [] h ce sl := by
  have e1 : nI i + 1 = nI (i + 1) := nI_1 i
  have e2 : nI i + 2 = nI (i + 2) := nI_add i 2
  have e3 : nI i + 3 = nI (i + 3) := nI_add i 3
  have e4 : nI i + 4 = nI (i + 4) := nI_add i 4
  have e5 : nI i + 5 = nI (i + 5) := nI_add i 5
  refine hl_seg B okW_meanPaid (fun q => nomatch q) 0 2 rfl ?_
  simp only [pW_meanPaid, List.drop_zero, List.drop_succ_cons, hl_wp, hs_ii, hs_i1, hs_ll, hs_l1, hs_ff, hs_g1, hs_dd, hs_d1, hs_r1, hs_rv, hs_rv0, hs_n1, hs_n0, hs_v1i, hs_v1r, hs_a1, hs_d2l, hs_d2i, hs_ri, hs_rl, hs_rg, hs_rd8, hs_rr, hs_rn, hs_ov, hs_gf, hs_po, hs_pfi, hs_pfr, hs_ia, hs_la, hs_da, hs_qa, hs_al, hs_is, hs_ls, hs_ds, hs_iso, hs_lso, hs_dso, hs_rd, hs_f1, hs_f10, hs_f2, hs_f20, hs_in0, hs_in1, hs_lt, hs_le, hs_ge, hs_gt, hs_eq, hs_10, hs_00, hs_01, true_and, and_true, true_imp_iff, false_imp_iff, not_true_eq_false, not_false_eq_true, hs_av, hs_ai, hs_ar, hs_an, hs_aj, hs_ci, hs_cr, hs_cn, hs_cj, hs_cd, hs_cf, hs_q0, hs_q1, reduceIte, Nat.reduceEqDiff, Nat.reduceAdd, Nat.reduceLT, eq_self, List.getElem?_cons_zero, List.getElem?_cons_succ, List.set_cons_zero, List.set_cons_succ, List.length_cons, List.length_nil, Option.toList_some, Option.toList_none, List.cons_append, List.nil_append, Nat.zero_add, Nat.add_zero, List.map_nil, List.sum_nil, List.map_cons, List.sum_cons, Nat.zero_le, hs_set1, e1, e2, e3, e4, e5]
  obtain ⟨h0, wl, ho, hd, bk1, bk2, bk3⟩ := w.ls
  have hz := hR.sz
  refine hl_callSW B (av1 := [.ref _, .ref _]) (rest := []) (cw_meanPaid hst hR.inv hd (fun z => by rw [hz.1] at z ⊢; exact (fp_mean (lk_2 z) hz.2).1)) mtL_meanPaid (hl_dec okW_meanPaid 2 rfl) (kk := 948) (by decide +kernel) rfl (by decide) (Nat.le_of_ble_eq_true rfl) (Nat.le_of_ble_eq_true rfl) hce hsl wl (fun r9 h9 hq => ?_)
  obtain ⟨ca9, f9, rfl, w1, hv⟩ := hq
  have w2 := bk3 _ _ _ _ w1
  obtain ⟨he1, he2, he3⟩ := re_meanPaid hR
  rw [he1]
  have hN9 : lw_cd [xARE] (op_meanPaid σ).1 = 0 → (op_meanPaid σ).1 = none := fun z => lk_cd z (by decide)
  rw [he1] at hN9
  generalize op_meanPaid σ = R9 at *
  refine hl_seg B okW_meanPaid (fun q => nomatch q) 3 2 rfl ?_
  simp only [pW_meanPaid, List.drop_zero, List.drop_succ_cons, hl_wp, hs_ii, hs_i1, hs_ll, hs_l1, hs_ff, hs_g1, hs_dd, hs_d1, hs_r1, hs_rv, hs_rv0, hs_n1, hs_n0, hs_v1i, hs_v1r, hs_a1, hs_d2l, hs_d2i, hs_ri, hs_rl, hs_rg, hs_rd8, hs_rr, hs_rn, hs_ov, hs_gf, hs_po, hs_pfi, hs_pfr, hs_ia, hs_la, hs_da, hs_qa, hs_al, hs_is, hs_ls, hs_ds, hs_iso, hs_lso, hs_dso, hs_rd, hs_f1, hs_f10, hs_f2, hs_f20, hs_in0, hs_in1, hs_lt, hs_le, hs_ge, hs_gt, hs_eq, hs_10, hs_00, hs_01, true_and, and_true, true_imp_iff, false_imp_iff, not_true_eq_false, not_false_eq_true, hs_av, hs_ai, hs_ar, hs_an, hs_aj, hs_ci, hs_cr, hs_cn, hs_cj, hs_cd, hs_cf, hs_q0, hs_q1, reduceIte, Nat.reduceEqDiff, Nat.reduceAdd, Nat.reduceLT, eq_self, List.getElem?_cons_zero, List.getElem?_cons_succ, List.set_cons_zero, List.set_cons_succ, List.length_cons, List.length_nil, Option.toList_some, Option.toList_none, List.cons_append, List.nil_append, Nat.zero_add, Nat.add_zero, List.map_nil, List.sum_nil, List.map_cons, List.sum_cons, Nat.zero_le, hs_set1, e1, e2, e3, e4, e5]
  obtain ⟨h1, wm, bkm⟩ := w2.lm
  refine hl_callV B (As := []) (cr_meanPaid hR.mi (fun z => (fp_mean (lk_1 z) hz.2).1)) mtX8_meanPaid (hl_dec okW_meanPaid 5 rfl) (kk := 1330) (by decide +kernel) rfl rfl (wm.1.f0) rfl (Nat.le_of_ble_eq_true rfl) (by decide) (by decide) hce hsl wm (fun r9 h9 hq => ?_) (fun _ _ hx => hx.elim)
  obtain ⟨rfl, fn, w3⟩ := hq
  have w4 := bkm _ _ w3
  have hv9 := mv_meanPaid (μ := μ)
  have hS : (md_meanPaid μ).1.2.2.2 = 0 → ∀ q, (md_meanPaid μ).2 = .double q → FP.dcmp q q = some .eq := by
    unfold md_meanPaid
    by_cases z : nI (μ.2.2.1 1) ≤ 0
    · rw [if_pos z]; intro z2; cases z2
    · rw [if_neg z]; intro _ q hq; cases hq; exact (fp_mean (lk_1 z) hz.2).2
  generalize md_meanPaid μ = S9 at *
  obtain ⟨v9, hv9⟩ := hv9
  rw [hv9]
  refine hl_seg B okW_meanPaid (fun q => nomatch q) 6 2 rfl ?_
  simp only [pW_meanPaid, List.drop_zero, List.drop_succ_cons, hl_wp, hs_ii, hs_i1, hs_ll, hs_l1, hs_ff, hs_g1, hs_dd, hs_d1, hs_r1, hs_rv, hs_rv0, hs_n1, hs_n0, hs_v1i, hs_v1r, hs_a1, hs_d2l, hs_d2i, hs_ri, hs_rl, hs_rg, hs_rd8, hs_rr, hs_rn, hs_ov, hs_gf, hs_po, hs_pfi, hs_pfr, hs_ia, hs_la, hs_da, hs_qa, hs_al, hs_is, hs_ls, hs_ds, hs_iso, hs_lso, hs_dso, hs_rd, hs_f1, hs_f10, hs_f2, hs_f20, hs_in0, hs_in1, hs_lt, hs_le, hs_ge, hs_gt, hs_eq, hs_10, hs_00, hs_01, true_and, and_true, true_imp_iff, false_imp_iff, not_true_eq_false, not_false_eq_true, hs_av, hs_ai, hs_ar, hs_an, hs_aj, hs_ci, hs_cr, hs_cn, hs_cj, hs_cd, hs_cf, hs_q0, hs_q1, reduceIte, Nat.reduceEqDiff, Nat.reduceAdd, Nat.reduceLT, eq_self, List.getElem?_cons_zero, List.getElem?_cons_succ, List.set_cons_zero, List.set_cons_succ, List.length_cons, List.length_nil, Option.toList_some, Option.toList_none, List.cons_append, List.nil_append, Nat.zero_add, Nat.add_zero, List.map_nil, List.sum_nil, List.map_cons, List.sum_cons, Nat.zero_le, hs_set1, e1, e2, e3, e4, e5]
  obtain ⟨h2, wt, bkt⟩ := w4.lm
  refine hl_callV B (As := []) (cr_thrown (μ := lm_J S9.1 6 fn)) mtX8_thrown (hl_dec okW_meanPaid 8 rfl) (kk := 1063) (by decide +kernel) rfl rfl (wt.1.f0) rfl (Nat.le_of_ble_eq_true rfl) (by decide) (by decide) hce hsl wt (fun r9 h9 hq => ?_) (fun _ _ hx => hx.elim)
  obtain ⟨rfl, w5⟩ := hq
  have w6 := bkt _ _ w5
  rw [lm_J4]
  refine hl_seg B okW_meanPaid (fun q => nomatch q) 9 1000 rfl ?_
  simp only [pW_meanPaid, List.drop_zero, List.drop_succ_cons, hl_wp, hs_ii, hs_i1, hs_ll, hs_l1, hs_ff, hs_g1, hs_dd, hs_d1, hs_r1, hs_rv, hs_rv0, hs_n1, hs_n0, hs_v1i, hs_v1r, hs_a1, hs_d2l, hs_d2i, hs_ri, hs_rl, hs_rg, hs_rd8, hs_rr, hs_rn, hs_ov, hs_gf, hs_po, hs_pfi, hs_pfr, hs_ia, hs_la, hs_da, hs_qa, hs_al, hs_is, hs_ls, hs_ds, hs_iso, hs_lso, hs_dso, hs_rd, hs_f1, hs_f10, hs_f2, hs_f20, hs_in0, hs_in1, hs_lt, hs_le, hs_ge, hs_gt, hs_eq, hs_10, hs_00, hs_01, true_and, and_true, true_imp_iff, false_imp_iff, not_true_eq_false, not_false_eq_true, hs_av, hs_ai, hs_ar, hs_an, hs_aj, hs_ci, hs_cr, hs_cn, hs_cj, hs_cd, hs_cf, hs_q0, hs_q1, reduceIte, Nat.reduceEqDiff, Nat.reduceAdd, Nat.reduceLT, eq_self, List.getElem?_cons_zero, List.getElem?_cons_succ, List.set_cons_zero, List.set_cons_succ, List.length_cons, List.length_nil, Option.toList_some, Option.toList_none, List.cons_append, List.nil_append, Nat.zero_add, Nat.add_zero, List.map_nil, List.sum_nil, List.map_cons, List.sum_cons, Nat.zero_le, hs_set1, e1, e2, e3, e4, e5, lk_eq]
  have hR6 := (he3.up (Nat.le_succ t)).sj fn
  by_cases c6 : S9.1.2.2.2 = 0
  · skip
    have hn9 := hN9 c6
    have hq9 := (he2 hn9)
    rw [hv9] at hq9
    have hf9 := hv hn9
    rw [hq9] at hf9
    have hf9 : f9 0 = v9 := hf9
    have ho9 := w6.2.2.2.1
    have g2 := hS c6 v9 hv9
    have hc9 : Op.cmpValue (FP.dcmp (f9 0) v9) .l = 0 := by rw [hf9, g2]; rfl
    refine hl_seg B okW_meanPaid (fun q => nomatch q) 13 1000 rfl ?_
    simp only [pW_meanPaid, List.drop_zero, List.drop_succ_cons, hl_wp, hs_ii, hs_i1, hs_ll, hs_l1, hs_ff, hs_g1, hs_dd, hs_d1, hs_r1, hs_rv, hs_rv0, hs_n1, hs_n0, hs_v1i, hs_v1r, hs_a1, hs_d2l, hs_d2i, hs_ri, hs_rl, hs_rg, hs_rd8, hs_rr, hs_rn, hs_ov, hs_gf, hs_po, hs_pfi, hs_pfr, hs_ia, hs_la, hs_da, hs_qa, hs_al, hs_is, hs_ls, hs_ds, hs_iso, hs_lso, hs_dso, hs_rd, hs_f1, hs_f10, hs_f2, hs_f20, hs_in0, hs_in1, hs_lt, hs_le, hs_ge, hs_gt, hs_eq, hs_10, hs_00, hs_01, true_and, and_true, true_imp_iff, false_imp_iff, not_true_eq_false, not_false_eq_true, hs_av, hs_ai, hs_ar, hs_an, hs_aj, hs_ci, hs_cr, hs_cn, hs_cj, hs_cd, hs_cf, hs_q0, hs_q1, reduceIte, Nat.reduceEqDiff, Nat.reduceAdd, Nat.reduceLT, eq_self, List.getElem?_cons_zero, List.getElem?_cons_succ, List.set_cons_zero, List.set_cons_succ, List.length_cons, List.length_nil, Option.toList_some, Option.toList_none, List.cons_append, List.nil_append, Nat.zero_add, Nat.add_zero, List.map_nil, List.sum_nil, List.map_cons, List.sum_cons, Nat.zero_le, hs_set1, e1, e2, e3, e4, e5, c6, ho9, lk_c0, hc9]
    refine ⟨lk_in0, ?_⟩
    refine hl_seg B okW_meanPaid (fun q => nomatch q) 35 1000 rfl ?_
    simp only [pW_meanPaid, List.drop_zero, List.drop_succ_cons, hl_wp, hs_ii, hs_i1, hs_ll, hs_l1, hs_ff, hs_g1, hs_dd, hs_d1, hs_r1, hs_rv, hs_rv0, hs_n1, hs_n0, hs_v1i, hs_v1r, hs_a1, hs_d2l, hs_d2i, hs_ri, hs_rl, hs_rg, hs_rd8, hs_rr, hs_rn, hs_ov, hs_gf, hs_po, hs_pfi, hs_pfr, hs_ia, hs_la, hs_da, hs_qa, hs_al, hs_is, hs_ls, hs_ds, hs_iso, hs_lso, hs_dso, hs_rd, hs_f1, hs_f10, hs_f2, hs_f20, hs_in0, hs_in1, hs_lt, hs_le, hs_ge, hs_gt, hs_eq, hs_10, hs_00, hs_01, true_and, and_true, true_imp_iff, false_imp_iff, not_true_eq_false, not_false_eq_true, hs_av, hs_ai, hs_ar, hs_an, hs_aj, hs_ci, hs_cr, hs_cn, hs_cj, hs_cd, hs_cf, hs_q0, hs_q1, reduceIte, Nat.reduceEqDiff, Nat.reduceAdd, Nat.reduceLT, eq_self, List.getElem?_cons_zero, List.getElem?_cons_succ, List.set_cons_zero, List.set_cons_succ, List.length_cons, List.length_nil, Option.toList_some, Option.toList_none, List.cons_append, List.nil_append, Nat.zero_add, Nat.add_zero, List.map_nil, List.sum_nil, List.map_cons, List.sum_cons, Nat.zero_le, hs_set1]
    refine hl_drop B [(0, .ref b), (1, .ref (a 0)), (2, .ref (bb 0)), (3, .ref ro), (4, .ref rd), (5, .int (nI i))] (by simp) ?_
    exact K _ _ _ _ _ _ _ _ w6 hR6 (by omega) (by omega)
  · skip
    refine hl_seg B okW_meanPaid (fun q => nomatch q) 13 1000 rfl ?_
    simp only [pW_meanPaid, List.drop_zero, List.drop_succ_cons, hl_wp, hs_ii, hs_i1, hs_ll, hs_l1, hs_ff, hs_g1, hs_dd, hs_d1, hs_r1, hs_rv, hs_rv0, hs_n1, hs_n0, hs_v1i, hs_v1r, hs_a1, hs_d2l, hs_d2i, hs_ri, hs_rl, hs_rg, hs_rd8, hs_rr, hs_rn, hs_ov, hs_gf, hs_po, hs_pfi, hs_pfr, hs_ia, hs_la, hs_da, hs_qa, hs_al, hs_is, hs_ls, hs_ds, hs_iso, hs_lso, hs_dso, hs_rd, hs_f1, hs_f10, hs_f2, hs_f20, hs_in0, hs_in1, hs_lt, hs_le, hs_ge, hs_gt, hs_eq, hs_10, hs_00, hs_01, true_and, and_true, true_imp_iff, false_imp_iff, not_true_eq_false, not_false_eq_true, hs_av, hs_ai, hs_ar, hs_an, hs_aj, hs_ci, hs_cr, hs_cn, hs_cj, hs_cd, hs_cf, hs_q0, hs_q1, reduceIte, Nat.reduceEqDiff, Nat.reduceAdd, Nat.reduceLT, eq_self, List.getElem?_cons_zero, List.getElem?_cons_succ, List.set_cons_zero, List.set_cons_succ, List.length_cons, List.length_nil, Option.toList_some, Option.toList_none, List.cons_append, List.nil_append, Nat.zero_add, Nat.add_zero, List.map_nil, List.sum_nil, List.map_cons, List.sum_cons, Nat.zero_le, hs_set1, e1, e2, e3, e4, e5, c6]
    refine hl_seg B okW_meanPaid (fun q => nomatch q) 35 1000 rfl ?_
    simp only [pW_meanPaid, List.drop_zero, List.drop_succ_cons, hl_wp, hs_ii, hs_i1, hs_ll, hs_l1, hs_ff, hs_g1, hs_dd, hs_d1, hs_r1, hs_rv, hs_rv0, hs_n1, hs_n0, hs_v1i, hs_v1r, hs_a1, hs_d2l, hs_d2i, hs_ri, hs_rl, hs_rg, hs_rd8, hs_rr, hs_rn, hs_ov, hs_gf, hs_po, hs_pfi, hs_pfr, hs_ia, hs_la, hs_da, hs_qa, hs_al, hs_is, hs_ls, hs_ds, hs_iso, hs_lso, hs_dso, hs_rd, hs_f1, hs_f10, hs_f2, hs_f20, hs_in0, hs_in1, hs_lt, hs_le, hs_ge, hs_gt, hs_eq, hs_10, hs_00, hs_01, true_and, and_true, true_imp_iff, false_imp_iff, not_true_eq_false, not_false_eq_true, hs_av, hs_ai, hs_ar, hs_an, hs_aj, hs_ci, hs_cr, hs_cn, hs_cj, hs_cd, hs_cf, hs_q0, hs_q1, reduceIte, Nat.reduceEqDiff, Nat.reduceAdd, Nat.reduceLT, eq_self, List.getElem?_cons_zero, List.getElem?_cons_succ, List.set_cons_zero, List.set_cons_succ, List.length_cons, List.length_nil, Option.toList_some, Option.toList_none, List.cons_append, List.nil_append, Nat.zero_add, Nat.add_zero, List.map_nil, List.sum_nil, List.map_cons, List.sum_cons, Nat.zero_le, hs_set1]
    refine hl_drop B [(0, .ref b), (1, .ref (a 0)), (2, .ref (bb 0)), (3, .ref ro), (4, .ref rd), (5, .int (nI i))] (by simp) ?_
    exact K _ _ _ _ _ _ _ _ w6 hR6 (by omega) (by omega)
