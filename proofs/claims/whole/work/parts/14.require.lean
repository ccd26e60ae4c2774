/-! PART 14: what a call is refused for; the available amount; making a transaction -/
abbrev xISE : String := "java/lang/IllegalStateException"
abbrev xIAE : String := "java/lang/IllegalArgumentException"
abbrev xUOE : String := "java/lang/UnsupportedOperationException"
abbrev xIOB : String := "java/lang/IndexOutOfBoundsException"
abbrev xNSE : String := "java/util/NoSuchElementException"
abbrev xARE : String := "java/lang/ArithmeticException"
/-- the first of two refusals -/
def ls_or (a b : Option String) : Option String := match a with | some e => some e | none => b
theorem ls_or_n {b : Option String} : ls_or none b = b := rfl
theorem ls_or_s {e : String} {b : Option String} : ls_or (some e) b = some e := rfl
def er_cur (x : Int32) : Option String := if x < 0 then some xIAE else if x < 4 then none else some xIAE
set_option maxRecDepth 20000 in
set_option maxHeartbeats 2000000 in
theorem ct_X7_requireCurrency {G : hl_G} {l : Launch} {a ca : Nat → Nat} {σ : LSt} {h : hl_H} {x : Int32} (hst : l.stackTraces = false) (q : LSr a ca σ h) :
    hl_Ct G l mX7_requireCurrency 0 1 6 [.ref (a 0), .int x] (fun g => g = h) (fun r g => r = none ∧ g = h ∧ er_cur x = none) (fun E g => g = h ∧ er_cur x = some E) := by
  refine hl_body (by decide +kernel) (Nat.le_of_ble_eq_true rfl) ?_
  intro p e s m args below meth c B g hg
  rw [hg]
  refine hl_seg B okX7_requireCurrency (fun q => nomatch q) 0 1000 rfl ?_
  simp only [pX7_requireCurrency, List.drop_zero, List.drop_succ_cons, hl_wp, hs_ii, hs_i1, hs_ll, hs_l1, hs_ff, hs_g1, hs_dd, hs_d1, hs_r1, hs_rv, hs_rv0, hs_n1, hs_n0, hs_v1i, hs_v1r, hs_a1, hs_d2l, hs_d2i, hs_ri, hs_rl, hs_rg, hs_rd8, hs_rr, hs_rn, hs_ov, hs_gf, hs_po, hs_pfi, hs_pfr, hs_ia, hs_la, hs_da, hs_qa, hs_al, hs_is, hs_ls, hs_ds, hs_iso, hs_lso, hs_dso, hs_rd, hs_f1, hs_f10, hs_f2, hs_f20, hs_in0, hs_in1, hs_lt, hs_le, hs_ge, hs_gt, hs_eq, hs_10, hs_00, hs_01, true_and, and_true, true_imp_iff, false_imp_iff, not_true_eq_false, not_false_eq_true, hs_av, hs_ai, hs_ar, hs_an, hs_aj, hs_ci, hs_cr, hs_cn, hs_cj, hs_cd, hs_cf, hs_q0, hs_q1, reduceIte, Nat.reduceEqDiff, Nat.reduceAdd, Nat.reduceLT, eq_self, List.getElem?_cons_zero, List.getElem?_cons_succ, List.set_cons_zero, List.set_cons_succ, List.length_cons, List.length_nil, Option.toList_some, Option.toList_none, List.cons_append, List.nil_append, Nat.zero_add, Nat.add_zero, List.map_nil, List.sum_nil, List.map_cons, List.sum_cons, Nat.zero_le, hs_set1]
  refine ⟨fun c1 => ?_, fun c1 => ?_⟩
  · skip
    refine hl_seg B okX7_requireCurrency (fun q => nomatch q) 5 1000 rfl ?_
    simp only [pX7_requireCurrency, List.drop_zero, List.drop_succ_cons, hl_wp, hs_ii, hs_i1, hs_ll, hs_l1, hs_ff, hs_g1, hs_dd, hs_d1, hs_r1, hs_rv, hs_rv0, hs_n1, hs_n0, hs_v1i, hs_v1r, hs_a1, hs_d2l, hs_d2i, hs_ri, hs_rl, hs_rg, hs_rd8, hs_rr, hs_rn, hs_ov, hs_gf, hs_po, hs_pfi, hs_pfr, hs_ia, hs_la, hs_da, hs_qa, hs_al, hs_is, hs_ls, hs_ds, hs_iso, hs_lso, hs_dso, hs_rd, hs_f1, hs_f10, hs_f2, hs_f20, hs_in0, hs_in1, hs_lt, hs_le, hs_ge, hs_gt, hs_eq, hs_10, hs_00, hs_01, true_and, and_true, true_imp_iff, false_imp_iff, not_true_eq_false, not_false_eq_true, hs_av, hs_ai, hs_ar, hs_an, hs_aj, hs_ci, hs_cr, hs_cn, hs_cj, hs_cd, hs_cf, hs_q0, hs_q1, reduceIte, Nat.reduceEqDiff, Nat.reduceAdd, Nat.reduceLT, eq_self, List.getElem?_cons_zero, List.getElem?_cons_succ, List.set_cons_zero, List.set_cons_succ, List.length_cons, List.length_nil, Option.toList_some, Option.toList_none, List.cons_append, List.nil_append, Nat.zero_add, Nat.add_zero, List.map_nil, List.sum_nil, List.map_cons, List.sum_cons, Nat.zero_le, hs_set1]
    exact hl_throwW B rfl hst th_IAE (kk := 385) (ks := 430) (by decide +kernel) (by decide +kernel) (hl_dec okX7_requireCurrency 5 rfl) (hl_dec okX7_requireCurrency 6 rfl) (hl_dec okX7_requireCurrency 7 rfl) (hl_dec okX7_requireCurrency 8 rfl) (hl_dec okX7_requireCurrency 9 rfl) (by decide) (by decide) ⟨rfl, by simp only [er_cur, ls_or_n, ls_or_s, if_pos c1]⟩
  · skip
    refine ⟨fun c2 => ?_, fun c2 => ?_⟩
    · skip
      exact hl_vret B rfl (hl_dec okX7_requireCurrency 10 rfl) (by decide) (by decide) ⟨rfl, rfl, by simp only [er_cur, ls_or_n, ls_or_s, if_neg c1, if_pos c2]⟩
    · skip
      exact hl_throwW B rfl hst th_IAE (kk := 385) (ks := 430) (by decide +kernel) (by decide +kernel) (hl_dec okX7_requireCurrency 5 rfl) (hl_dec okX7_requireCurrency 6 rfl) (hl_dec okX7_requireCurrency 7 rfl) (hl_dec okX7_requireCurrency 8 rfl) (hl_dec okX7_requireCurrency 9 rfl) (by decide) (by decide) ⟨rfl, by simp only [er_cur, ls_or_n, ls_or_s, if_neg c1, if_neg c2]⟩
def er_lim (x : Int32) : Option String := if x < 0 then some xIAE else if x ≤ 1000000 then none else some xIAE
set_option maxRecDepth 20000 in
set_option maxHeartbeats 2000000 in
theorem ct_X7_requireLimit {G : hl_G} {l : Launch} {a ca : Nat → Nat} {σ : LSt} {h : hl_H} {x : Int32} (hst : l.stackTraces = false) (q : LSr a ca σ h) :
    hl_Ct G l mX7_requireLimit 0 1 6 [.ref (a 0), .int x] (fun g => g = h) (fun r g => r = none ∧ g = h ∧ er_lim x = none) (fun E g => g = h ∧ er_lim x = some E) := by
  refine hl_body (by decide +kernel) (Nat.le_of_ble_eq_true rfl) ?_
  intro p e s m args below meth c B g hg
  rw [hg]
  refine hl_seg B okX7_requireLimit (fun q => nomatch q) 0 1000 rfl ?_
  simp only [pX7_requireLimit, List.drop_zero, List.drop_succ_cons, hl_wp, hs_ii, hs_i1, hs_ll, hs_l1, hs_ff, hs_g1, hs_dd, hs_d1, hs_r1, hs_rv, hs_rv0, hs_n1, hs_n0, hs_v1i, hs_v1r, hs_a1, hs_d2l, hs_d2i, hs_ri, hs_rl, hs_rg, hs_rd8, hs_rr, hs_rn, hs_ov, hs_gf, hs_po, hs_pfi, hs_pfr, hs_ia, hs_la, hs_da, hs_qa, hs_al, hs_is, hs_ls, hs_ds, hs_iso, hs_lso, hs_dso, hs_rd, hs_f1, hs_f10, hs_f2, hs_f20, hs_in0, hs_in1, hs_lt, hs_le, hs_ge, hs_gt, hs_eq, hs_10, hs_00, hs_01, true_and, and_true, true_imp_iff, false_imp_iff, not_true_eq_false, not_false_eq_true, hs_av, hs_ai, hs_ar, hs_an, hs_aj, hs_ci, hs_cr, hs_cn, hs_cj, hs_cd, hs_cf, hs_q0, hs_q1, reduceIte, Nat.reduceEqDiff, Nat.reduceAdd, Nat.reduceLT, eq_self, List.getElem?_cons_zero, List.getElem?_cons_succ, List.set_cons_zero, List.set_cons_succ, List.length_cons, List.length_nil, Option.toList_some, Option.toList_none, List.cons_append, List.nil_append, Nat.zero_add, Nat.add_zero, List.map_nil, List.sum_nil, List.map_cons, List.sum_cons, Nat.zero_le, hs_set1]
  refine ⟨fun c1 => ?_, fun c1 => ?_⟩
  · skip
    refine hl_seg B okX7_requireLimit (fun q => nomatch q) 5 1000 rfl ?_
    simp only [pX7_requireLimit, List.drop_zero, List.drop_succ_cons, hl_wp, hs_ii, hs_i1, hs_ll, hs_l1, hs_ff, hs_g1, hs_dd, hs_d1, hs_r1, hs_rv, hs_rv0, hs_n1, hs_n0, hs_v1i, hs_v1r, hs_a1, hs_d2l, hs_d2i, hs_ri, hs_rl, hs_rg, hs_rd8, hs_rr, hs_rn, hs_ov, hs_gf, hs_po, hs_pfi, hs_pfr, hs_ia, hs_la, hs_da, hs_qa, hs_al, hs_is, hs_ls, hs_ds, hs_iso, hs_lso, hs_dso, hs_rd, hs_f1, hs_f10, hs_f2, hs_f20, hs_in0, hs_in1, hs_lt, hs_le, hs_ge, hs_gt, hs_eq, hs_10, hs_00, hs_01, true_and, and_true, true_imp_iff, false_imp_iff, not_true_eq_false, not_false_eq_true, hs_av, hs_ai, hs_ar, hs_an, hs_aj, hs_ci, hs_cr, hs_cn, hs_cj, hs_cd, hs_cf, hs_q0, hs_q1, reduceIte, Nat.reduceEqDiff, Nat.reduceAdd, Nat.reduceLT, eq_self, List.getElem?_cons_zero, List.getElem?_cons_succ, List.set_cons_zero, List.set_cons_succ, List.length_cons, List.length_nil, Option.toList_some, Option.toList_none, List.cons_append, List.nil_append, Nat.zero_add, Nat.add_zero, List.map_nil, List.sum_nil, List.map_cons, List.sum_cons, Nat.zero_le, hs_set1]
    exact hl_throwW B rfl hst th_IAE (kk := 385) (ks := 462) (by decide +kernel) (by decide +kernel) (hl_dec okX7_requireLimit 5 rfl) (hl_dec okX7_requireLimit 6 rfl) (hl_dec okX7_requireLimit 7 rfl) (hl_dec okX7_requireLimit 8 rfl) (hl_dec okX7_requireLimit 9 rfl) (by decide) (by decide) ⟨rfl, by simp only [er_lim, ls_or_n, ls_or_s, if_pos c1]⟩
  · skip
    refine ⟨fun c2 => ?_, fun c2 => ?_⟩
    · skip
      exact hl_vret B rfl (hl_dec okX7_requireLimit 10 rfl) (by decide) (by decide) ⟨rfl, rfl, by simp only [er_lim, ls_or_n, ls_or_s, if_neg c1, if_pos c2]⟩
    · skip
      exact hl_throwW B rfl hst th_IAE (kk := 385) (ks := 462) (by decide +kernel) (by decide +kernel) (hl_dec okX7_requireLimit 5 rfl) (hl_dec okX7_requireLimit 6 rfl) (hl_dec okX7_requireLimit 7 rfl) (hl_dec okX7_requireLimit 8 rfl) (hl_dec okX7_requireLimit 9 rfl) (by decide) (by decide) ⟨rfl, by simp only [er_lim, ls_or_n, ls_or_s, if_neg c1, if_neg c2]⟩
def er_amt (x : Int32) : Option String := if x < 1 then some xIAE else if x ≤ 1000000 then none else some xIAE
set_option maxRecDepth 20000 in
set_option maxHeartbeats 2000000 in
theorem ct_X7_requireAmount {G : hl_G} {l : Launch} {a ca : Nat → Nat} {σ : LSt} {h : hl_H} {x : Int32} (hst : l.stackTraces = false) (q : LSr a ca σ h) :
    hl_Ct G l mX7_requireAmount 0 1 6 [.ref (a 0), .int x] (fun g => g = h) (fun r g => r = none ∧ g = h ∧ er_amt x = none) (fun E g => g = h ∧ er_amt x = some E) := by
  refine hl_body (by decide +kernel) (Nat.le_of_ble_eq_true rfl) ?_
  intro p e s m args below meth c B g hg
  rw [hg]
  refine hl_seg B okX7_requireAmount (fun q => nomatch q) 0 1000 rfl ?_
  simp only [pX7_requireAmount, List.drop_zero, List.drop_succ_cons, hl_wp, hs_ii, hs_i1, hs_ll, hs_l1, hs_ff, hs_g1, hs_dd, hs_d1, hs_r1, hs_rv, hs_rv0, hs_n1, hs_n0, hs_v1i, hs_v1r, hs_a1, hs_d2l, hs_d2i, hs_ri, hs_rl, hs_rg, hs_rd8, hs_rr, hs_rn, hs_ov, hs_gf, hs_po, hs_pfi, hs_pfr, hs_ia, hs_la, hs_da, hs_qa, hs_al, hs_is, hs_ls, hs_ds, hs_iso, hs_lso, hs_dso, hs_rd, hs_f1, hs_f10, hs_f2, hs_f20, hs_in0, hs_in1, hs_lt, hs_le, hs_ge, hs_gt, hs_eq, hs_10, hs_00, hs_01, true_and, and_true, true_imp_iff, false_imp_iff, not_true_eq_false, not_false_eq_true, hs_av, hs_ai, hs_ar, hs_an, hs_aj, hs_ci, hs_cr, hs_cn, hs_cj, hs_cd, hs_cf, hs_q0, hs_q1, reduceIte, Nat.reduceEqDiff, Nat.reduceAdd, Nat.reduceLT, eq_self, List.getElem?_cons_zero, List.getElem?_cons_succ, List.set_cons_zero, List.set_cons_succ, List.length_cons, List.length_nil, Option.toList_some, Option.toList_none, List.cons_append, List.nil_append, Nat.zero_add, Nat.add_zero, List.map_nil, List.sum_nil, List.map_cons, List.sum_cons, Nat.zero_le, hs_set1]
  refine ⟨fun c1 => ?_, fun c1 => ?_⟩
  · skip
    refine hl_seg B okX7_requireAmount (fun q => nomatch q) 6 1000 rfl ?_
    simp only [pX7_requireAmount, List.drop_zero, List.drop_succ_cons, hl_wp, hs_ii, hs_i1, hs_ll, hs_l1, hs_ff, hs_g1, hs_dd, hs_d1, hs_r1, hs_rv, hs_rv0, hs_n1, hs_n0, hs_v1i, hs_v1r, hs_a1, hs_d2l, hs_d2i, hs_ri, hs_rl, hs_rg, hs_rd8, hs_rr, hs_rn, hs_ov, hs_gf, hs_po, hs_pfi, hs_pfr, hs_ia, hs_la, hs_da, hs_qa, hs_al, hs_is, hs_ls, hs_ds, hs_iso, hs_lso, hs_dso, hs_rd, hs_f1, hs_f10, hs_f2, hs_f20, hs_in0, hs_in1, hs_lt, hs_le, hs_ge, hs_gt, hs_eq, hs_10, hs_00, hs_01, true_and, and_true, true_imp_iff, false_imp_iff, not_true_eq_false, not_false_eq_true, hs_av, hs_ai, hs_ar, hs_an, hs_aj, hs_ci, hs_cr, hs_cn, hs_cj, hs_cd, hs_cf, hs_q0, hs_q1, reduceIte, Nat.reduceEqDiff, Nat.reduceAdd, Nat.reduceLT, eq_self, List.getElem?_cons_zero, List.getElem?_cons_succ, List.set_cons_zero, List.set_cons_succ, List.length_cons, List.length_nil, Option.toList_some, Option.toList_none, List.cons_append, List.nil_append, Nat.zero_add, Nat.add_zero, List.map_nil, List.sum_nil, List.map_cons, List.sum_cons, Nat.zero_le, hs_set1]
    exact hl_throwW B rfl hst th_IAE (kk := 385) (ks := 627) (by decide +kernel) (by decide +kernel) (hl_dec okX7_requireAmount 6 rfl) (hl_dec okX7_requireAmount 7 rfl) (hl_dec okX7_requireAmount 8 rfl) (hl_dec okX7_requireAmount 9 rfl) (hl_dec okX7_requireAmount 10 rfl) (by decide) (by decide) ⟨rfl, by simp only [er_amt, ls_or_n, ls_or_s, if_pos c1]⟩
  · skip
    refine ⟨fun c2 => ?_, fun c2 => ?_⟩
    · skip
      exact hl_vret B rfl (hl_dec okX7_requireAmount 11 rfl) (by decide) (by decide) ⟨rfl, rfl, by simp only [er_amt, ls_or_n, ls_or_s, if_neg c1, if_pos c2]⟩
    · skip
      exact hl_throwW B rfl hst th_IAE (kk := 385) (ks := 627) (by decide +kernel) (by decide +kernel) (hl_dec okX7_requireAmount 6 rfl) (hl_dec okX7_requireAmount 7 rfl) (hl_dec okX7_requireAmount 8 rfl) (hl_dec okX7_requireAmount 9 rfl) (hl_dec okX7_requireAmount 10 rfl) (by decide) (by decide) ⟨rfl, by simp only [er_amt, ls_or_n, ls_or_s, if_neg c1, if_neg c2]⟩
def er_acc (σ : LSt) (x : Int32) : Option String := if x < 0 then some xIOB else if x < nI (σ.2.1 0) then none else some xIOB
set_option maxRecDepth 20000 in
set_option maxHeartbeats 2000000 in
theorem ct_X7_requireAccount {G : hl_G} {l : Launch} {a ca : Nat → Nat} {σ : LSt} {h : hl_H} {x : Int32} (hst : l.stackTraces = false) (q : LSr a ca σ h) :
    hl_Ct G l mX7_requireAccount 0 1 6 [.ref (a 0), .int x] (fun g => g = h) (fun r g => r = none ∧ g = h ∧ er_acc σ x = none) (fun E g => g = h ∧ er_acc σ x = some E) := by
  refine hl_body (by decide +kernel) (Nat.le_of_ble_eq_true rfl) ?_
  intro p e s m args below meth c B g hg
  rw [hg]
  refine hl_seg B okX7_requireAccount (fun q => nomatch q) 0 1000 rfl ?_
  simp only [pX7_requireAccount, List.drop_zero, List.drop_succ_cons, hl_wp, hs_ii, hs_i1, hs_ll, hs_l1, hs_ff, hs_g1, hs_dd, hs_d1, hs_r1, hs_rv, hs_rv0, hs_n1, hs_n0, hs_v1i, hs_v1r, hs_a1, hs_d2l, hs_d2i, hs_ri, hs_rl, hs_rg, hs_rd8, hs_rr, hs_rn, hs_ov, hs_gf, hs_po, hs_pfi, hs_pfr, hs_ia, hs_la, hs_da, hs_qa, hs_al, hs_is, hs_ls, hs_ds, hs_iso, hs_lso, hs_dso, hs_rd, hs_f1, hs_f10, hs_f2, hs_f20, hs_in0, hs_in1, hs_lt, hs_le, hs_ge, hs_gt, hs_eq, hs_10, hs_00, hs_01, true_and, and_true, true_imp_iff, false_imp_iff, not_true_eq_false, not_false_eq_true, hs_av, hs_ai, hs_ar, hs_an, hs_aj, hs_ci, hs_cr, hs_cn, hs_cj, hs_cd, hs_cf, hs_q0, hs_q1, reduceIte, Nat.reduceEqDiff, Nat.reduceAdd, Nat.reduceLT, eq_self, List.getElem?_cons_zero, List.getElem?_cons_succ, List.set_cons_zero, List.set_cons_succ, List.length_cons, List.length_nil, Option.toList_some, Option.toList_none, List.cons_append, List.nil_append, Nat.zero_add, Nat.add_zero, List.map_nil, List.sum_nil, List.map_cons, List.sum_cons, Nat.zero_le, hs_set1, q.f0, q.f1]
  refine ⟨fun c1 => ?_, fun c1 => ?_⟩
  · skip
    refine hl_seg B okX7_requireAccount (fun q => nomatch q) 7 1000 rfl ?_
    simp only [pX7_requireAccount, List.drop_zero, List.drop_succ_cons, hl_wp, hs_ii, hs_i1, hs_ll, hs_l1, hs_ff, hs_g1, hs_dd, hs_d1, hs_r1, hs_rv, hs_rv0, hs_n1, hs_n0, hs_v1i, hs_v1r, hs_a1, hs_d2l, hs_d2i, hs_ri, hs_rl, hs_rg, hs_rd8, hs_rr, hs_rn, hs_ov, hs_gf, hs_po, hs_pfi, hs_pfr, hs_ia, hs_la, hs_da, hs_qa, hs_al, hs_is, hs_ls, hs_ds, hs_iso, hs_lso, hs_dso, hs_rd, hs_f1, hs_f10, hs_f2, hs_f20, hs_in0, hs_in1, hs_lt, hs_le, hs_ge, hs_gt, hs_eq, hs_10, hs_00, hs_01, true_and, and_true, true_imp_iff, false_imp_iff, not_true_eq_false, not_false_eq_true, hs_av, hs_ai, hs_ar, hs_an, hs_aj, hs_ci, hs_cr, hs_cn, hs_cj, hs_cd, hs_cf, hs_q0, hs_q1, reduceIte, Nat.reduceEqDiff, Nat.reduceAdd, Nat.reduceLT, eq_self, List.getElem?_cons_zero, List.getElem?_cons_succ, List.set_cons_zero, List.set_cons_succ, List.length_cons, List.length_nil, Option.toList_some, Option.toList_none, List.cons_append, List.nil_append, Nat.zero_add, Nat.add_zero, List.map_nil, List.sum_nil, List.map_cons, List.sum_cons, Nat.zero_le, hs_set1, q.f0, q.f1]
    exact hl_throwW B rfl hst th_IOB (kk := 519) (ks := 528) (by decide +kernel) (by decide +kernel) (hl_dec okX7_requireAccount 7 rfl) (hl_dec okX7_requireAccount 8 rfl) (hl_dec okX7_requireAccount 9 rfl) (hl_dec okX7_requireAccount 10 rfl) (hl_dec okX7_requireAccount 11 rfl) (by decide) (by decide) ⟨rfl, by simp only [er_acc, ls_or_n, ls_or_s, if_pos c1]⟩
  · skip
    refine ⟨fun c2 => ?_, fun c2 => ?_⟩
    · skip
      exact hl_vret B rfl (hl_dec okX7_requireAccount 12 rfl) (by decide) (by decide) ⟨rfl, rfl, by simp only [er_acc, ls_or_n, ls_or_s, if_neg c1, if_pos c2]⟩
    · skip
      exact hl_throwW B rfl hst th_IOB (kk := 519) (ks := 528) (by decide +kernel) (by decide +kernel) (hl_dec okX7_requireAccount 7 rfl) (hl_dec okX7_requireAccount 8 rfl) (hl_dec okX7_requireAccount 9 rfl) (hl_dec okX7_requireAccount 10 rfl) (hl_dec okX7_requireAccount 11 rfl) (by decide) (by decide) ⟨rfl, by simp only [er_acc, ls_or_n, ls_or_s, if_neg c1, if_neg c2]⟩
def er_tra (σ : LSt) (x : Int32) : Option String := if x < 0 then some xIOB else if x < nI (σ.2.1 1) then none else some xIOB
set_option maxRecDepth 20000 in
set_option maxHeartbeats 2000000 in
theorem ct_X7_requireTransaction {G : hl_G} {l : Launch} {a ca : Nat → Nat} {σ : LSt} {h : hl_H} {x : Int32} (hst : l.stackTraces = false) (q : LSr a ca σ h) :
    hl_Ct G l mX7_requireTransaction 0 1 6 [.ref (a 0), .int x] (fun g => g = h) (fun r g => r = none ∧ g = h ∧ er_tra σ x = none) (fun E g => g = h ∧ er_tra σ x = some E) := by
  refine hl_body (by decide +kernel) (Nat.le_of_ble_eq_true rfl) ?_
  intro p e s m args below meth c B g hg
  rw [hg]
  refine hl_seg B okX7_requireTransaction (fun q => nomatch q) 0 1000 rfl ?_
  simp only [pX7_requireTransaction, List.drop_zero, List.drop_succ_cons, hl_wp, hs_ii, hs_i1, hs_ll, hs_l1, hs_ff, hs_g1, hs_dd, hs_d1, hs_r1, hs_rv, hs_rv0, hs_n1, hs_n0, hs_v1i, hs_v1r, hs_a1, hs_d2l, hs_d2i, hs_ri, hs_rl, hs_rg, hs_rd8, hs_rr, hs_rn, hs_ov, hs_gf, hs_po, hs_pfi, hs_pfr, hs_ia, hs_la, hs_da, hs_qa, hs_al, hs_is, hs_ls, hs_ds, hs_iso, hs_lso, hs_dso, hs_rd, hs_f1, hs_f10, hs_f2, hs_f20, hs_in0, hs_in1, hs_lt, hs_le, hs_ge, hs_gt, hs_eq, hs_10, hs_00, hs_01, true_and, and_true, true_imp_iff, false_imp_iff, not_true_eq_false, not_false_eq_true, hs_av, hs_ai, hs_ar, hs_an, hs_aj, hs_ci, hs_cr, hs_cn, hs_cj, hs_cd, hs_cf, hs_q0, hs_q1, reduceIte, Nat.reduceEqDiff, Nat.reduceAdd, Nat.reduceLT, eq_self, List.getElem?_cons_zero, List.getElem?_cons_succ, List.set_cons_zero, List.set_cons_succ, List.length_cons, List.length_nil, Option.toList_some, Option.toList_none, List.cons_append, List.nil_append, Nat.zero_add, Nat.add_zero, List.map_nil, List.sum_nil, List.map_cons, List.sum_cons, Nat.zero_le, hs_set1, q.f0, q.f2]
  refine ⟨fun c1 => ?_, fun c1 => ?_⟩
  · skip
    refine hl_seg B okX7_requireTransaction (fun q => nomatch q) 7 1000 rfl ?_
    simp only [pX7_requireTransaction, List.drop_zero, List.drop_succ_cons, hl_wp, hs_ii, hs_i1, hs_ll, hs_l1, hs_ff, hs_g1, hs_dd, hs_d1, hs_r1, hs_rv, hs_rv0, hs_n1, hs_n0, hs_v1i, hs_v1r, hs_a1, hs_d2l, hs_d2i, hs_ri, hs_rl, hs_rg, hs_rd8, hs_rr, hs_rn, hs_ov, hs_gf, hs_po, hs_pfi, hs_pfr, hs_ia, hs_la, hs_da, hs_qa, hs_al, hs_is, hs_ls, hs_ds, hs_iso, hs_lso, hs_dso, hs_rd, hs_f1, hs_f10, hs_f2, hs_f20, hs_in0, hs_in1, hs_lt, hs_le, hs_ge, hs_gt, hs_eq, hs_10, hs_00, hs_01, true_and, and_true, true_imp_iff, false_imp_iff, not_true_eq_false, not_false_eq_true, hs_av, hs_ai, hs_ar, hs_an, hs_aj, hs_ci, hs_cr, hs_cn, hs_cj, hs_cd, hs_cf, hs_q0, hs_q1, reduceIte, Nat.reduceEqDiff, Nat.reduceAdd, Nat.reduceLT, eq_self, List.getElem?_cons_zero, List.getElem?_cons_succ, List.set_cons_zero, List.set_cons_succ, List.length_cons, List.length_nil, Option.toList_some, Option.toList_none, List.cons_append, List.nil_append, Nat.zero_add, Nat.add_zero, List.map_nil, List.sum_nil, List.map_cons, List.sum_cons, Nat.zero_le, hs_set1, q.f0, q.f2]
    exact hl_throwW B rfl hst th_IOB (kk := 519) (ks := 753) (by decide +kernel) (by decide +kernel) (hl_dec okX7_requireTransaction 7 rfl) (hl_dec okX7_requireTransaction 8 rfl) (hl_dec okX7_requireTransaction 9 rfl) (hl_dec okX7_requireTransaction 10 rfl) (hl_dec okX7_requireTransaction 11 rfl) (by decide) (by decide) ⟨rfl, by simp only [er_tra, ls_or_n, ls_or_s, if_pos c1]⟩
  · skip
    refine ⟨fun c2 => ?_, fun c2 => ?_⟩
    · skip
      exact hl_vret B rfl (hl_dec okX7_requireTransaction 12 rfl) (by decide) (by decide) ⟨rfl, rfl, by simp only [er_tra, ls_or_n, ls_or_s, if_neg c1, if_pos c2]⟩
    · skip
      exact hl_throwW B rfl hst th_IOB (kk := 519) (ks := 753) (by decide +kernel) (by decide +kernel) (hl_dec okX7_requireTransaction 7 rfl) (hl_dec okX7_requireTransaction 8 rfl) (hl_dec okX7_requireTransaction 9 rfl) (hl_dec okX7_requireTransaction 10 rfl) (hl_dec okX7_requireTransaction 11 rfl) (by decide) (by decide) ⟨rfl, by simp only [er_tra, ls_or_n, ls_or_s, if_neg c1, if_neg c2]⟩
def er_hol (σ : LSt) (x : Int32) : Option String := if x < 0 then some xIOB else if x < nI (σ.2.1 2) then none else some xIOB
set_option maxRecDepth 20000 in
set_option maxHeartbeats 2000000 in
theorem ct_X7_requireHold {G : hl_G} {l : Launch} {a ca : Nat → Nat} {σ : LSt} {h : hl_H} {x : Int32} (hst : l.stackTraces = false) (q : LSr a ca σ h) :
    hl_Ct G l mX7_requireHold 0 1 6 [.ref (a 0), .int x] (fun g => g = h) (fun r g => r = none ∧ g = h ∧ er_hol σ x = none) (fun E g => g = h ∧ er_hol σ x = some E) := by
  refine hl_body (by decide +kernel) (Nat.le_of_ble_eq_true rfl) ?_
  intro p e s m args below meth c B g hg
  rw [hg]
  refine hl_seg B okX7_requireHold (fun q => nomatch q) 0 1000 rfl ?_
  simp only [pX7_requireHold, List.drop_zero, List.drop_succ_cons, hl_wp, hs_ii, hs_i1, hs_ll, hs_l1, hs_ff, hs_g1, hs_dd, hs_d1, hs_r1, hs_rv, hs_rv0, hs_n1, hs_n0, hs_v1i, hs_v1r, hs_a1, hs_d2l, hs_d2i, hs_ri, hs_rl, hs_rg, hs_rd8, hs_rr, hs_rn, hs_ov, hs_gf, hs_po, hs_pfi, hs_pfr, hs_ia, hs_la, hs_da, hs_qa, hs_al, hs_is, hs_ls, hs_ds, hs_iso, hs_lso, hs_dso, hs_rd, hs_f1, hs_f10, hs_f2, hs_f20, hs_in0, hs_in1, hs_lt, hs_le, hs_ge, hs_gt, hs_eq, hs_10, hs_00, hs_01, true_and, and_true, true_imp_iff, false_imp_iff, not_true_eq_false, not_false_eq_true, hs_av, hs_ai, hs_ar, hs_an, hs_aj, hs_ci, hs_cr, hs_cn, hs_cj, hs_cd, hs_cf, hs_q0, hs_q1, reduceIte, Nat.reduceEqDiff, Nat.reduceAdd, Nat.reduceLT, eq_self, List.getElem?_cons_zero, List.getElem?_cons_succ, List.set_cons_zero, List.set_cons_succ, List.length_cons, List.length_nil, Option.toList_some, Option.toList_none, List.cons_append, List.nil_append, Nat.zero_add, Nat.add_zero, List.map_nil, List.sum_nil, List.map_cons, List.sum_cons, Nat.zero_le, hs_set1, q.f0, q.f3]
  refine ⟨fun c1 => ?_, fun c1 => ?_⟩
  · skip
    refine hl_seg B okX7_requireHold (fun q => nomatch q) 7 1000 rfl ?_
    simp only [pX7_requireHold, List.drop_zero, List.drop_succ_cons, hl_wp, hs_ii, hs_i1, hs_ll, hs_l1, hs_ff, hs_g1, hs_dd, hs_d1, hs_r1, hs_rv, hs_rv0, hs_n1, hs_n0, hs_v1i, hs_v1r, hs_a1, hs_d2l, hs_d2i, hs_ri, hs_rl, hs_rg, hs_rd8, hs_rr, hs_rn, hs_ov, hs_gf, hs_po, hs_pfi, hs_pfr, hs_ia, hs_la, hs_da, hs_qa, hs_al, hs_is, hs_ls, hs_ds, hs_iso, hs_lso, hs_dso, hs_rd, hs_f1, hs_f10, hs_f2, hs_f20, hs_in0, hs_in1, hs_lt, hs_le, hs_ge, hs_gt, hs_eq, hs_10, hs_00, hs_01, true_and, and_true, true_imp_iff, false_imp_iff, not_true_eq_false, not_false_eq_true, hs_av, hs_ai, hs_ar, hs_an, hs_aj, hs_ci, hs_cr, hs_cn, hs_cj, hs_cd, hs_cf, hs_q0, hs_q1, reduceIte, Nat.reduceEqDiff, Nat.reduceAdd, Nat.reduceLT, eq_self, List.getElem?_cons_zero, List.getElem?_cons_succ, List.set_cons_zero, List.set_cons_succ, List.length_cons, List.length_nil, Option.toList_some, Option.toList_none, List.cons_append, List.nil_append, Nat.zero_add, Nat.add_zero, List.map_nil, List.sum_nil, List.map_cons, List.sum_cons, Nat.zero_le, hs_set1, q.f0, q.f3]
    exact hl_throwW B rfl hst th_IOB (kk := 519) (ks := 714) (by decide +kernel) (by decide +kernel) (hl_dec okX7_requireHold 7 rfl) (hl_dec okX7_requireHold 8 rfl) (hl_dec okX7_requireHold 9 rfl) (hl_dec okX7_requireHold 10 rfl) (hl_dec okX7_requireHold 11 rfl) (by decide) (by decide) ⟨rfl, by simp only [er_hol, ls_or_n, ls_or_s, if_pos c1]⟩
  · skip
    refine ⟨fun c2 => ?_, fun c2 => ?_⟩
    · skip
      exact hl_vret B rfl (hl_dec okX7_requireHold 12 rfl) (by decide) (by decide) ⟨rfl, rfl, by simp only [er_hol, ls_or_n, ls_or_s, if_neg c1, if_pos c2]⟩
    · skip
      exact hl_throwW B rfl hst th_IOB (kk := 519) (ks := 714) (by decide +kernel) (by decide +kernel) (hl_dec okX7_requireHold 7 rfl) (hl_dec okX7_requireHold 8 rfl) (hl_dec okX7_requireHold 9 rfl) (hl_dec okX7_requireHold 10 rfl) (hl_dec okX7_requireHold 11 rfl) (by decide) (by decide) ⟨rfl, by simp only [er_hol, ls_or_n, ls_or_s, if_neg c1, if_neg c2]⟩
def er_som (x : Int32) : Option String := if 1 ≤ x then none else some xUOE
set_option maxRecDepth 20000 in
set_option maxHeartbeats 2000000 in
theorem ct_X7_requireSomethingReceived {G : hl_G} {l : Launch} {a ca : Nat → Nat} {σ : LSt} {h : hl_H} {x : Int32} (hst : l.stackTraces = false) (q : LSr a ca σ h) :
    hl_Ct G l mX7_requireSomethingReceived 0 1 6 [.ref (a 0), .int x] (fun g => g = h) (fun r g => r = none ∧ g = h ∧ er_som x = none) (fun E g => g = h ∧ er_som x = some E) := by
  refine hl_body (by decide +kernel) (Nat.le_of_ble_eq_true rfl) ?_
  intro p e s m args below meth c B g hg
  rw [hg]
  refine hl_seg B okX7_requireSomethingReceived (fun q => nomatch q) 0 1000 rfl ?_
  simp only [pX7_requireSomethingReceived, List.drop_zero, List.drop_succ_cons, hl_wp, hs_ii, hs_i1, hs_ll, hs_l1, hs_ff, hs_g1, hs_dd, hs_d1, hs_r1, hs_rv, hs_rv0, hs_n1, hs_n0, hs_v1i, hs_v1r, hs_a1, hs_d2l, hs_d2i, hs_ri, hs_rl, hs_rg, hs_rd8, hs_rr, hs_rn, hs_ov, hs_gf, hs_po, hs_pfi, hs_pfr, hs_ia, hs_la, hs_da, hs_qa, hs_al, hs_is, hs_ls, hs_ds, hs_iso, hs_lso, hs_dso, hs_rd, hs_f1, hs_f10, hs_f2, hs_f20, hs_in0, hs_in1, hs_lt, hs_le, hs_ge, hs_gt, hs_eq, hs_10, hs_00, hs_01, true_and, and_true, true_imp_iff, false_imp_iff, not_true_eq_false, not_false_eq_true, hs_av, hs_ai, hs_ar, hs_an, hs_aj, hs_ci, hs_cr, hs_cn, hs_cj, hs_cd, hs_cf, hs_q0, hs_q1, reduceIte, Nat.reduceEqDiff, Nat.reduceAdd, Nat.reduceLT, eq_self, List.getElem?_cons_zero, List.getElem?_cons_succ, List.set_cons_zero, List.set_cons_succ, List.length_cons, List.length_nil, Option.toList_some, Option.toList_none, List.cons_append, List.nil_append, Nat.zero_add, Nat.add_zero, List.map_nil, List.sum_nil, List.map_cons, List.sum_cons, Nat.zero_le, hs_set1]
  refine ⟨fun c1 => ?_, fun c1 => ?_⟩
  · skip
    exact hl_vret B rfl (hl_dec okX7_requireSomethingReceived 8 rfl) (by decide) (by decide) ⟨rfl, rfl, by simp only [er_som, ls_or_n, ls_or_s, if_pos c1]⟩
  · skip
    exact hl_throwW B rfl hst th_UOE (kk := 532) (ks := 684) (by decide +kernel) (by decide +kernel) (hl_dec okX7_requireSomethingReceived 3 rfl) (hl_dec okX7_requireSomethingReceived 4 rfl) (hl_dec okX7_requireSomethingReceived 5 rfl) (hl_dec okX7_requireSomethingReceived 6 rfl) (hl_dec okX7_requireSomethingReceived 7 rfl) (by decide) (by decide) ⟨rfl, by simp only [er_som, ls_or_n, ls_or_s, if_neg c1]⟩
def er_roo (σ : LSt) : Option String := if nI (σ.2.1 1) < 150 then none else some xISE
set_option maxRecDepth 20000 in
set_option maxHeartbeats 2000000 in
theorem ct_X7_requireRoomInJournal {G : hl_G} {l : Launch} {a ca : Nat → Nat} {σ : LSt} {h : hl_H} (hst : l.stackTraces = false) (q : LSr a ca σ h) :
    hl_Ct G l mX7_requireRoomInJournal 0 1 6 [.ref (a 0)] (fun g => g = h) (fun r g => r = none ∧ g = h ∧ er_roo σ = none) (fun E g => g = h ∧ er_roo σ = some E) := by
  refine hl_body (by decide +kernel) (Nat.le_of_ble_eq_true rfl) ?_
  intro p e s m args below meth c B g hg
  rw [hg]
  refine hl_seg B okX7_requireRoomInJournal (fun q => nomatch q) 0 1000 rfl ?_
  simp only [pX7_requireRoomInJournal, List.drop_zero, List.drop_succ_cons, hl_wp, hs_ii, hs_i1, hs_ll, hs_l1, hs_ff, hs_g1, hs_dd, hs_d1, hs_r1, hs_rv, hs_rv0, hs_n1, hs_n0, hs_v1i, hs_v1r, hs_a1, hs_d2l, hs_d2i, hs_ri, hs_rl, hs_rg, hs_rd8, hs_rr, hs_rn, hs_ov, hs_gf, hs_po, hs_pfi, hs_pfr, hs_ia, hs_la, hs_da, hs_qa, hs_al, hs_is, hs_ls, hs_ds, hs_iso, hs_lso, hs_dso, hs_rd, hs_f1, hs_f10, hs_f2, hs_f20, hs_in0, hs_in1, hs_lt, hs_le, hs_ge, hs_gt, hs_eq, hs_10, hs_00, hs_01, true_and, and_true, true_imp_iff, false_imp_iff, not_true_eq_false, not_false_eq_true, hs_av, hs_ai, hs_ar, hs_an, hs_aj, hs_ci, hs_cr, hs_cn, hs_cj, hs_cd, hs_cf, hs_q0, hs_q1, reduceIte, Nat.reduceEqDiff, Nat.reduceAdd, Nat.reduceLT, eq_self, List.getElem?_cons_zero, List.getElem?_cons_succ, List.set_cons_zero, List.set_cons_succ, List.length_cons, List.length_nil, Option.toList_some, Option.toList_none, List.cons_append, List.nil_append, Nat.zero_add, Nat.add_zero, List.map_nil, List.sum_nil, List.map_cons, List.sum_cons, Nat.zero_le, hs_set1, q.f0, q.f2]
  refine ⟨fun c1 => ?_, fun c1 => ?_⟩
  · skip
    exact hl_vret B rfl (hl_dec okX7_requireRoomInJournal 10 rfl) (by decide) (by decide) ⟨rfl, rfl, by simp only [er_roo, ls_or_n, ls_or_s, if_pos c1]⟩
  · skip
    exact hl_throwW B rfl hst th_ISE (kk := 463) (ks := 632) (by decide +kernel) (by decide +kernel) (hl_dec okX7_requireRoomInJournal 5 rfl) (hl_dec okX7_requireRoomInJournal 6 rfl) (hl_dec okX7_requireRoomInJournal 7 rfl) (hl_dec okX7_requireRoomInJournal 8 rfl) (hl_dec okX7_requireRoomInJournal 9 rfl) (by decide) (by decide) ⟨rfl, by simp only [er_roo, ls_or_n, ls_or_s, if_neg c1]⟩
def er_key (σ : LSt) (x : Int32) : Option String := if x < 1 then some xIAE else if x ≤ 999 then (if (ls_find σ x (nI (σ.2.1 5))).isSome = true then some xIAE else none) else some xIAE
set_option maxRecDepth 20000 in
set_option maxHeartbeats 2000000 in
theorem ct_X7_requireNewKey {G : hl_G} {l : Launch} {a ca : Nat → Nat} {σ : LSt} {h : hl_H} {x : Int32} (hst : l.stackTraces = false) (q : LSr a ca σ h) (hm : σ.2.1 4 ≤ 180) :
    hl_Ct G l mX7_requireNewKey 2 1 6 [.ref (a 0), .int x] (fun g => g = h) (fun r g => r = none ∧ g = h ∧ er_key σ x = none) (fun E g => g = h ∧ er_key σ x = some E) := by
  refine hl_body (by decide +kernel) (Nat.le_of_ble_eq_true rfl) ?_
  intro p e s m args below meth c B g hg
  rw [hg]
  refine hl_seg B okX7_requireNewKey (fun q => nomatch q) 0 1000 rfl ?_
  simp only [pX7_requireNewKey, List.drop_zero, List.drop_succ_cons, hl_wp, hs_ii, hs_i1, hs_ll, hs_l1, hs_ff, hs_g1, hs_dd, hs_d1, hs_r1, hs_rv, hs_rv0, hs_n1, hs_n0, hs_v1i, hs_v1r, hs_a1, hs_d2l, hs_d2i, hs_ri, hs_rl, hs_rg, hs_rd8, hs_rr, hs_rn, hs_ov, hs_gf, hs_po, hs_pfi, hs_pfr, hs_ia, hs_la, hs_da, hs_qa, hs_al, hs_is, hs_ls, hs_ds, hs_iso, hs_lso, hs_dso, hs_rd, hs_f1, hs_f10, hs_f2, hs_f20, hs_in0, hs_in1, hs_lt, hs_le, hs_ge, hs_gt, hs_eq, hs_10, hs_00, hs_01, true_and, and_true, true_imp_iff, false_imp_iff, not_true_eq_false, not_false_eq_true, hs_av, hs_ai, hs_ar, hs_an, hs_aj, hs_ci, hs_cr, hs_cn, hs_cj, hs_cd, hs_cf, hs_q0, hs_q1, reduceIte, Nat.reduceEqDiff, Nat.reduceAdd, Nat.reduceLT, eq_self, List.getElem?_cons_zero, List.getElem?_cons_succ, List.set_cons_zero, List.set_cons_succ, List.length_cons, List.length_nil, Option.toList_some, Option.toList_none, List.cons_append, List.nil_append, Nat.zero_add, Nat.add_zero, List.map_nil, List.sum_nil, List.map_cons, List.sum_cons, Nat.zero_le, hs_set1, q.f0, q.f5]
  refine ⟨fun c1 => ?_, fun c1 => ?_⟩
  · skip
    refine hl_seg B okX7_requireNewKey (fun q => nomatch q) 6 1000 rfl ?_
    simp only [pX7_requireNewKey, List.drop_zero, List.drop_succ_cons, hl_wp, hs_ii, hs_i1, hs_ll, hs_l1, hs_ff, hs_g1, hs_dd, hs_d1, hs_r1, hs_rv, hs_rv0, hs_n1, hs_n0, hs_v1i, hs_v1r, hs_a1, hs_d2l, hs_d2i, hs_ri, hs_rl, hs_rg, hs_rd8, hs_rr, hs_rn, hs_ov, hs_gf, hs_po, hs_pfi, hs_pfr, hs_ia, hs_la, hs_da, hs_qa, hs_al, hs_is, hs_ls, hs_ds, hs_iso, hs_lso, hs_dso, hs_rd, hs_f1, hs_f10, hs_f2, hs_f20, hs_in0, hs_in1, hs_lt, hs_le, hs_ge, hs_gt, hs_eq, hs_10, hs_00, hs_01, true_and, and_true, true_imp_iff, false_imp_iff, not_true_eq_false, not_false_eq_true, hs_av, hs_ai, hs_ar, hs_an, hs_aj, hs_ci, hs_cr, hs_cn, hs_cj, hs_cd, hs_cf, hs_q0, hs_q1, reduceIte, Nat.reduceEqDiff, Nat.reduceAdd, Nat.reduceLT, eq_self, List.getElem?_cons_zero, List.getElem?_cons_succ, List.set_cons_zero, List.set_cons_succ, List.length_cons, List.length_nil, Option.toList_some, Option.toList_none, List.cons_append, List.nil_append, Nat.zero_add, Nat.add_zero, List.map_nil, List.sum_nil, List.map_cons, List.sum_cons, Nat.zero_le, hs_set1, q.f0, q.f5]
    exact hl_throwW B rfl hst th_IAE (kk := 385) (ks := 617) (by decide +kernel) (by decide +kernel) (hl_dec okX7_requireNewKey 6 rfl) (hl_dec okX7_requireNewKey 7 rfl) (hl_dec okX7_requireNewKey 8 rfl) (hl_dec okX7_requireNewKey 9 rfl) (hl_dec okX7_requireNewKey 10 rfl) (by decide) (by decide) ⟨rfl, by simp only [er_key, ls_or_n, ls_or_s, if_pos c1]⟩
  · skip
    refine ⟨fun c2 => ?_, fun c2 => ?_⟩
    · skip
      refine hl_seg B okX7_requireNewKey (fun q => nomatch q) 11 1000 rfl ?_
      simp only [pX7_requireNewKey, List.drop_zero, List.drop_succ_cons, hl_wp, hs_ii, hs_i1, hs_ll, hs_l1, hs_ff, hs_g1, hs_dd, hs_d1, hs_r1, hs_rv, hs_rv0, hs_n1, hs_n0, hs_v1i, hs_v1r, hs_a1, hs_d2l, hs_d2i, hs_ri, hs_rl, hs_rg, hs_rd8, hs_rr, hs_rn, hs_ov, hs_gf, hs_po, hs_pfi, hs_pfr, hs_ia, hs_la, hs_da, hs_qa, hs_al, hs_is, hs_ls, hs_ds, hs_iso, hs_lso, hs_dso, hs_rd, hs_f1, hs_f10, hs_f2, hs_f20, hs_in0, hs_in1, hs_lt, hs_le, hs_ge, hs_gt, hs_eq, hs_10, hs_00, hs_01, true_and, and_true, true_imp_iff, false_imp_iff, not_true_eq_false, not_false_eq_true, hs_av, hs_ai, hs_ar, hs_an, hs_aj, hs_ci, hs_cr, hs_cn, hs_cj, hs_cd, hs_cf, hs_q0, hs_q1, reduceIte, Nat.reduceEqDiff, Nat.reduceAdd, Nat.reduceLT, eq_self, List.getElem?_cons_zero, List.getElem?_cons_succ, List.set_cons_zero, List.set_cons_succ, List.length_cons, List.length_nil, Option.toList_some, Option.toList_none, List.cons_append, List.nil_append, Nat.zero_add, Nat.add_zero, List.map_nil, List.sum_nil, List.map_cons, List.sum_cons, Nat.zero_le, hs_set1, q.f0, q.f5]
      refine hl_callR B (As := [.int _, .int _]) (ct_X5_hasKey q hm) mtX5_hasKey (hl_dec okX7_requireNewKey 16 rfl) (kk := 618) (by decide +kernel) rfl (q.f5) rfl (Nat.le_of_ble_eq_true rfl) (by decide) (by decide) (by decide) (by decide) ?_
      by_cases c3 : (ls_find σ x (nI (σ.2.1 5))).isSome = true
      · skip
        refine hl_seg B okX7_requireNewKey (fun q => nomatch q) 17 1000 rfl ?_
        simp only [pX7_requireNewKey, List.drop_zero, List.drop_succ_cons, hl_wp, hs_ii, hs_i1, hs_ll, hs_l1, hs_ff, hs_g1, hs_dd, hs_d1, hs_r1, hs_rv, hs_rv0, hs_n1, hs_n0, hs_v1i, hs_v1r, hs_a1, hs_d2l, hs_d2i, hs_ri, hs_rl, hs_rg, hs_rd8, hs_rr, hs_rn, hs_ov, hs_gf, hs_po, hs_pfi, hs_pfr, hs_ia, hs_la, hs_da, hs_qa, hs_al, hs_is, hs_ls, hs_ds, hs_iso, hs_lso, hs_dso, hs_rd, hs_f1, hs_f10, hs_f2, hs_f20, hs_in0, hs_in1, hs_lt, hs_le, hs_ge, hs_gt, hs_eq, hs_10, hs_00, hs_01, true_and, and_true, true_imp_iff, false_imp_iff, not_true_eq_false, not_false_eq_true, hs_av, hs_ai, hs_ar, hs_an, hs_aj, hs_ci, hs_cr, hs_cn, hs_cj, hs_cd, hs_cf, hs_q0, hs_q1, reduceIte, Nat.reduceEqDiff, Nat.reduceAdd, Nat.reduceLT, eq_self, List.getElem?_cons_zero, List.getElem?_cons_succ, List.set_cons_zero, List.set_cons_succ, List.length_cons, List.length_nil, Option.toList_some, Option.toList_none, List.cons_append, List.nil_append, Nat.zero_add, Nat.add_zero, List.map_nil, List.sum_nil, List.map_cons, List.sum_cons, Nat.zero_le, hs_set1, if_pos c3, q.f0, q.f5]
        exact hl_throwW B rfl hst th_IAE (kk := 385) (ks := 622) (by decide +kernel) (by decide +kernel) (hl_dec okX7_requireNewKey 18 rfl) (hl_dec okX7_requireNewKey 19 rfl) (hl_dec okX7_requireNewKey 20 rfl) (hl_dec okX7_requireNewKey 21 rfl) (hl_dec okX7_requireNewKey 22 rfl) (by decide) (by decide) ⟨rfl, by simp only [er_key, ls_or_n, ls_or_s, if_neg c1, if_pos c2, if_pos c3]⟩
      · skip
        refine hl_seg B okX7_requireNewKey (fun q => nomatch q) 17 1000 rfl ?_
        simp only [pX7_requireNewKey, List.drop_zero, List.drop_succ_cons, hl_wp, hs_ii, hs_i1, hs_ll, hs_l1, hs_ff, hs_g1, hs_dd, hs_d1, hs_r1, hs_rv, hs_rv0, hs_n1, hs_n0, hs_v1i, hs_v1r, hs_a1, hs_d2l, hs_d2i, hs_ri, hs_rl, hs_rg, hs_rd8, hs_rr, hs_rn, hs_ov, hs_gf, hs_po, hs_pfi, hs_pfr, hs_ia, hs_la, hs_da, hs_qa, hs_al, hs_is, hs_ls, hs_ds, hs_iso, hs_lso, hs_dso, hs_rd, hs_f1, hs_f10, hs_f2, hs_f20, hs_in0, hs_in1, hs_lt, hs_le, hs_ge, hs_gt, hs_eq, hs_10, hs_00, hs_01, true_and, and_true, true_imp_iff, false_imp_iff, not_true_eq_false, not_false_eq_true, hs_av, hs_ai, hs_ar, hs_an, hs_aj, hs_ci, hs_cr, hs_cn, hs_cj, hs_cd, hs_cf, hs_q0, hs_q1, reduceIte, Nat.reduceEqDiff, Nat.reduceAdd, Nat.reduceLT, eq_self, List.getElem?_cons_zero, List.getElem?_cons_succ, List.set_cons_zero, List.set_cons_succ, List.length_cons, List.length_nil, Option.toList_some, Option.toList_none, List.cons_append, List.nil_append, Nat.zero_add, Nat.add_zero, List.map_nil, List.sum_nil, List.map_cons, List.sum_cons, Nat.zero_le, hs_set1, if_neg c3, q.f0, q.f5]
        exact hl_vret B rfl (hl_dec okX7_requireNewKey 23 rfl) (by decide) (by decide) ⟨rfl, rfl, by simp only [er_key, ls_or_n, ls_or_s, if_neg c1, if_pos c2, if_neg c3]⟩
    · skip
      exact hl_throwW B rfl hst th_IAE (kk := 385) (ks := 617) (by decide +kernel) (by decide +kernel) (hl_dec okX7_requireNewKey 6 rfl) (hl_dec okX7_requireNewKey 7 rfl) (hl_dec okX7_requireNewKey 8 rfl) (hl_dec okX7_requireNewKey 9 rfl) (hl_dec okX7_requireNewKey 10 rfl) (by decide) (by decide) ⟨rfl, by simp only [er_key, ls_or_n, ls_or_s, if_neg c1, if_neg c2]⟩
def er_two (σ : LSt) (x y : Int32) : Option String := if x = y then some xIAE else ls_or (er_acc σ x) (er_acc σ y)
set_option maxRecDepth 20000 in
set_option maxHeartbeats 2000000 in
theorem ct_X7_requireTwoAccounts {G : hl_G} {l : Launch} {a ca : Nat → Nat} {σ : LSt} {h : hl_H} {x y : Int32} (hst : l.stackTraces = false) (q : LSr a ca σ h) :
    hl_Ct G l mX7_requireTwoAccounts 1 1 6 [.ref (a 0), .int x, .int y] (fun g => g = h) (fun r g => r = none ∧ g = h ∧ er_two σ x y = none) (fun E g => g = h ∧ er_two σ x y = some E) := by
  refine hl_body (by decide +kernel) (Nat.le_of_ble_eq_true rfl) ?_
  intro p e s m args below meth c B g hg
  rw [hg]
  refine hl_seg B okX7_requireTwoAccounts (fun q => nomatch q) 0 1000 rfl ?_
  simp only [pX7_requireTwoAccounts, List.drop_zero, List.drop_succ_cons, hl_wp, hs_ii, hs_i1, hs_ll, hs_l1, hs_ff, hs_g1, hs_dd, hs_d1, hs_r1, hs_rv, hs_rv0, hs_n1, hs_n0, hs_v1i, hs_v1r, hs_a1, hs_d2l, hs_d2i, hs_ri, hs_rl, hs_rg, hs_rd8, hs_rr, hs_rn, hs_ov, hs_gf, hs_po, hs_pfi, hs_pfr, hs_ia, hs_la, hs_da, hs_qa, hs_al, hs_is, hs_ls, hs_ds, hs_iso, hs_lso, hs_dso, hs_rd, hs_f1, hs_f10, hs_f2, hs_f20, hs_in0, hs_in1, hs_lt, hs_le, hs_ge, hs_gt, hs_eq, hs_10, hs_00, hs_01, true_and, and_true, true_imp_iff, false_imp_iff, not_true_eq_false, not_false_eq_true, hs_av, hs_ai, hs_ar, hs_an, hs_aj, hs_ci, hs_cr, hs_cn, hs_cj, hs_cd, hs_cf, hs_q0, hs_q1, reduceIte, Nat.reduceEqDiff, Nat.reduceAdd, Nat.reduceLT, eq_self, List.getElem?_cons_zero, List.getElem?_cons_succ, List.set_cons_zero, List.set_cons_succ, List.length_cons, List.length_nil, Option.toList_some, Option.toList_none, List.cons_append, List.nil_append, Nat.zero_add, Nat.add_zero, List.map_nil, List.sum_nil, List.map_cons, List.sum_cons, Nat.zero_le, hs_set1, q.f0]
  refine ⟨fun c1 => ?_, fun c1 => ?_⟩
  · skip
    refine hl_seg B okX7_requireTwoAccounts (fun q => nomatch q) 8 1000 rfl ?_
    simp only [pX7_requireTwoAccounts, List.drop_zero, List.drop_succ_cons, hl_wp, hs_ii, hs_i1, hs_ll, hs_l1, hs_ff, hs_g1, hs_dd, hs_d1, hs_r1, hs_rv, hs_rv0, hs_n1, hs_n0, hs_v1i, hs_v1r, hs_a1, hs_d2l, hs_d2i, hs_ri, hs_rl, hs_rg, hs_rd8, hs_rr, hs_rn, hs_ov, hs_gf, hs_po, hs_pfi, hs_pfr, hs_ia, hs_la, hs_da, hs_qa, hs_al, hs_is, hs_ls, hs_ds, hs_iso, hs_lso, hs_dso, hs_rd, hs_f1, hs_f10, hs_f2, hs_f20, hs_in0, hs_in1, hs_lt, hs_le, hs_ge, hs_gt, hs_eq, hs_10, hs_00, hs_01, true_and, and_true, true_imp_iff, false_imp_iff, not_true_eq_false, not_false_eq_true, hs_av, hs_ai, hs_ar, hs_an, hs_aj, hs_ci, hs_cr, hs_cn, hs_cj, hs_cd, hs_cf, hs_q0, hs_q1, reduceIte, Nat.reduceEqDiff, Nat.reduceAdd, Nat.reduceLT, eq_self, List.getElem?_cons_zero, List.getElem?_cons_succ, List.set_cons_zero, List.set_cons_succ, List.length_cons, List.length_nil, Option.toList_some, Option.toList_none, List.cons_append, List.nil_append, Nat.zero_add, Nat.add_zero, List.map_nil, List.sum_nil, List.map_cons, List.sum_cons, Nat.zero_le, hs_set1, q.f0]
    refine hl_callV B (As := [.int _]) (ct_X7_requireAccount hst q) mtX7_requireAccount (hl_dec okX7_requireTwoAccounts 10 rfl) (kk := 515) (by decide +kernel) rfl rfl (q.f0) rfl (Nat.le_of_ble_eq_true rfl) (by decide) (by decide) (by decide) (by decide) rfl (fun r9 h9 hq => ?_) (fun E9 h9 hx => ?_)
    · skip
      obtain ⟨rfl, rfl, e2⟩ := hq
      refine hl_seg B okX7_requireTwoAccounts (fun q => nomatch q) 11 1000 rfl ?_
      simp only [pX7_requireTwoAccounts, List.drop_zero, List.drop_succ_cons, hl_wp, hs_ii, hs_i1, hs_ll, hs_l1, hs_ff, hs_g1, hs_dd, hs_d1, hs_r1, hs_rv, hs_rv0, hs_n1, hs_n0, hs_v1i, hs_v1r, hs_a1, hs_d2l, hs_d2i, hs_ri, hs_rl, hs_rg, hs_rd8, hs_rr, hs_rn, hs_ov, hs_gf, hs_po, hs_pfi, hs_pfr, hs_ia, hs_la, hs_da, hs_qa, hs_al, hs_is, hs_ls, hs_ds, hs_iso, hs_lso, hs_dso, hs_rd, hs_f1, hs_f10, hs_f2, hs_f20, hs_in0, hs_in1, hs_lt, hs_le, hs_ge, hs_gt, hs_eq, hs_10, hs_00, hs_01, true_and, and_true, true_imp_iff, false_imp_iff, not_true_eq_false, not_false_eq_true, hs_av, hs_ai, hs_ar, hs_an, hs_aj, hs_ci, hs_cr, hs_cn, hs_cj, hs_cd, hs_cf, hs_q0, hs_q1, reduceIte, Nat.reduceEqDiff, Nat.reduceAdd, Nat.reduceLT, eq_self, List.getElem?_cons_zero, List.getElem?_cons_succ, List.set_cons_zero, List.set_cons_succ, List.length_cons, List.length_nil, Option.toList_some, Option.toList_none, List.cons_append, List.nil_append, Nat.zero_add, Nat.add_zero, List.map_nil, List.sum_nil, List.map_cons, List.sum_cons, Nat.zero_le, hs_set1, q.f0]
      refine hl_callV B (As := [.int _]) (ct_X7_requireAccount hst q) mtX7_requireAccount (hl_dec okX7_requireTwoAccounts 13 rfl) (kk := 515) (by decide +kernel) rfl rfl (q.f0) rfl (Nat.le_of_ble_eq_true rfl) (by decide) (by decide) (by decide) (by decide) rfl (fun r9 h9 hq => ?_) (fun E9 h9 hx => ?_)
      · skip
        obtain ⟨rfl, rfl, e3⟩ := hq
        exact hl_vret B rfl (hl_dec okX7_requireTwoAccounts 14 rfl) (by decide) (by decide) ⟨rfl, rfl, by simp only [er_two, ls_or_n, ls_or_s, if_neg c1, e2, e3]⟩
      · skip
        obtain ⟨rfl, e3⟩ := hx
        exact hl_out B (by decide) (by decide) ⟨rfl, by simp only [er_two, ls_or_n, ls_or_s, if_neg c1, e2, e3]⟩
    · skip
      obtain ⟨rfl, e2⟩ := hx
      exact hl_out B (by decide) (by decide) ⟨rfl, by simp only [er_two, ls_or_n, ls_or_s, if_neg c1, e2]⟩
  · skip
    exact hl_throwW B rfl hst th_IAE (kk := 385) (ks := 679) (by decide +kernel) (by decide +kernel) (hl_dec okX7_requireTwoAccounts 3 rfl) (hl_dec okX7_requireTwoAccounts 4 rfl) (hl_dec okX7_requireTwoAccounts 5 rfl) (hl_dec okX7_requireTwoAccounts 6 rfl) (hl_dec okX7_requireTwoAccounts 7 rfl) (by decide) (by decide) ⟨rfl, by simp only [er_two, ls_or_n, ls_or_s, if_pos c1]⟩
def er_act (σ : LSt) (x : Int32) : Option String := ls_or (er_hol σ x) (if row_at (ls_len 17) (σ.1 17) x = 97 then none else some xNSE)
set_option maxRecDepth 20000 in
set_option maxHeartbeats 2000000 in
theorem ct_X7_requireActiveHold {G : hl_G} {l : Launch} {a ca : Nat → Nat} {σ : LSt} {h : hl_H} {x : Int32} (hst : l.stackTraces = false) (q : LSr a ca σ h) :
    hl_Ct G l mX7_requireActiveHold 2 1 6 [.ref (a 0), .int x] (fun g => g = h) (fun r g => r = none ∧ g = h ∧ er_act σ x = none) (fun E g => g = h ∧ er_act σ x = some E) := by
  refine hl_body (by decide +kernel) (Nat.le_of_ble_eq_true rfl) ?_
  intro p e s m args below meth c B g hg
  rw [hg]
  refine hl_seg B okX7_requireActiveHold (fun q => nomatch q) 0 1000 rfl ?_
  simp only [pX7_requireActiveHold, List.drop_zero, List.drop_succ_cons, hl_wp, hs_ii, hs_i1, hs_ll, hs_l1, hs_ff, hs_g1, hs_dd, hs_d1, hs_r1, hs_rv, hs_rv0, hs_n1, hs_n0, hs_v1i, hs_v1r, hs_a1, hs_d2l, hs_d2i, hs_ri, hs_rl, hs_rg, hs_rd8, hs_rr, hs_rn, hs_ov, hs_gf, hs_po, hs_pfi, hs_pfr, hs_ia, hs_la, hs_da, hs_qa, hs_al, hs_is, hs_ls, hs_ds, hs_iso, hs_lso, hs_dso, hs_rd, hs_f1, hs_f10, hs_f2, hs_f20, hs_in0, hs_in1, hs_lt, hs_le, hs_ge, hs_gt, hs_eq, hs_10, hs_00, hs_01, true_and, and_true, true_imp_iff, false_imp_iff, not_true_eq_false, not_false_eq_true, hs_av, hs_ai, hs_ar, hs_an, hs_aj, hs_ci, hs_cr, hs_cn, hs_cj, hs_cd, hs_cf, hs_q0, hs_q1, reduceIte, Nat.reduceEqDiff, Nat.reduceAdd, Nat.reduceLT, eq_self, List.getElem?_cons_zero, List.getElem?_cons_succ, List.set_cons_zero, List.set_cons_succ, List.length_cons, List.length_nil, Option.toList_some, Option.toList_none, List.cons_append, List.nil_append, Nat.zero_add, Nat.add_zero, List.map_nil, List.sum_nil, List.map_cons, List.sum_cons, Nat.zero_le, hs_set1, q.f0, q.f3]
  refine hl_callV B (As := [.int _]) (ct_X7_requireHold hst q) mtX7_requireHold (hl_dec okX7_requireActiveHold 2 rfl) (kk := 710) (by decide +kernel) rfl rfl (q.f0) rfl (Nat.le_of_ble_eq_true rfl) (by decide) (by decide) (by decide) (by decide) rfl (fun r9 h9 hq => ?_) (fun E9 h9 hx => ?_)
  · skip
    obtain ⟨rfl, rfl, e1⟩ := hq
    refine hl_seg B okX7_requireActiveHold (fun q => nomatch q) 3 1000 rfl ?_
    simp only [pX7_requireActiveHold, List.drop_zero, List.drop_succ_cons, hl_wp, hs_ii, hs_i1, hs_ll, hs_l1, hs_ff, hs_g1, hs_dd, hs_d1, hs_r1, hs_rv, hs_rv0, hs_n1, hs_n0, hs_v1i, hs_v1r, hs_a1, hs_d2l, hs_d2i, hs_ri, hs_rl, hs_rg, hs_rd8, hs_rr, hs_rn, hs_ov, hs_gf, hs_po, hs_pfi, hs_pfr, hs_ia, hs_la, hs_da, hs_qa, hs_al, hs_is, hs_ls, hs_ds, hs_iso, hs_lso, hs_dso, hs_rd, hs_f1, hs_f10, hs_f2, hs_f20, hs_in0, hs_in1, hs_lt, hs_le, hs_ge, hs_gt, hs_eq, hs_10, hs_00, hs_01, true_and, and_true, true_imp_iff, false_imp_iff, not_true_eq_false, not_false_eq_true, hs_av, hs_ai, hs_ar, hs_an, hs_aj, hs_ci, hs_cr, hs_cn, hs_cj, hs_cd, hs_cf, hs_q0, hs_q1, reduceIte, Nat.reduceEqDiff, Nat.reduceAdd, Nat.reduceLT, eq_self, List.getElem?_cons_zero, List.getElem?_cons_succ, List.set_cons_zero, List.set_cons_succ, List.length_cons, List.length_nil, Option.toList_some, Option.toList_none, List.cons_append, List.nil_append, Nat.zero_add, Nat.add_zero, List.map_nil, List.sum_nil, List.map_cons, List.sum_cons, Nat.zero_le, hs_set1, q.f0, q.f3]
    refine hl_callR B (As := [.int _]) (ct_X3_isActive q) mtX3_isActive (hl_dec okX7_requireActiveHold 6 rfl) (kk := 715) (by decide +kernel) rfl (q.f3) rfl (Nat.le_of_ble_eq_true rfl) (by decide) (by decide) (by decide) (by decide) ?_
    by_cases c2 : row_at (ls_len 17) (σ.1 17) x = 97
    · skip
      refine hl_seg B okX7_requireActiveHold (fun q => nomatch q) 7 1000 rfl ?_
      simp only [pX7_requireActiveHold, List.drop_zero, List.drop_succ_cons, hl_wp, hs_ii, hs_i1, hs_ll, hs_l1, hs_ff, hs_g1, hs_dd, hs_d1, hs_r1, hs_rv, hs_rv0, hs_n1, hs_n0, hs_v1i, hs_v1r, hs_a1, hs_d2l, hs_d2i, hs_ri, hs_rl, hs_rg, hs_rd8, hs_rr, hs_rn, hs_ov, hs_gf, hs_po, hs_pfi, hs_pfr, hs_ia, hs_la, hs_da, hs_qa, hs_al, hs_is, hs_ls, hs_ds, hs_iso, hs_lso, hs_dso, hs_rd, hs_f1, hs_f10, hs_f2, hs_f20, hs_in0, hs_in1, hs_lt, hs_le, hs_ge, hs_gt, hs_eq, hs_10, hs_00, hs_01, true_and, and_true, true_imp_iff, false_imp_iff, not_true_eq_false, not_false_eq_true, hs_av, hs_ai, hs_ar, hs_an, hs_aj, hs_ci, hs_cr, hs_cn, hs_cj, hs_cd, hs_cf, hs_q0, hs_q1, reduceIte, Nat.reduceEqDiff, Nat.reduceAdd, Nat.reduceLT, eq_self, List.getElem?_cons_zero, List.getElem?_cons_succ, List.set_cons_zero, List.set_cons_succ, List.length_cons, List.length_nil, Option.toList_some, Option.toList_none, List.cons_append, List.nil_append, Nat.zero_add, Nat.add_zero, List.map_nil, List.sum_nil, List.map_cons, List.sum_cons, Nat.zero_le, hs_set1, if_pos c2, q.f0, q.f3]
      exact hl_vret B rfl (hl_dec okX7_requireActiveHold 13 rfl) (by decide) (by decide) ⟨rfl, rfl, by simp only [er_act, ls_or_n, ls_or_s, e1, if_pos c2]⟩
    · skip
      refine hl_seg B okX7_requireActiveHold (fun q => nomatch q) 7 1000 rfl ?_
      simp only [pX7_requireActiveHold, List.drop_zero, List.drop_succ_cons, hl_wp, hs_ii, hs_i1, hs_ll, hs_l1, hs_ff, hs_g1, hs_dd, hs_d1, hs_r1, hs_rv, hs_rv0, hs_n1, hs_n0, hs_v1i, hs_v1r, hs_a1, hs_d2l, hs_d2i, hs_ri, hs_rl, hs_rg, hs_rd8, hs_rr, hs_rn, hs_ov, hs_gf, hs_po, hs_pfi, hs_pfr, hs_ia, hs_la, hs_da, hs_qa, hs_al, hs_is, hs_ls, hs_ds, hs_iso, hs_lso, hs_dso, hs_rd, hs_f1, hs_f10, hs_f2, hs_f20, hs_in0, hs_in1, hs_lt, hs_le, hs_ge, hs_gt, hs_eq, hs_10, hs_00, hs_01, true_and, and_true, true_imp_iff, false_imp_iff, not_true_eq_false, not_false_eq_true, hs_av, hs_ai, hs_ar, hs_an, hs_aj, hs_ci, hs_cr, hs_cn, hs_cj, hs_cd, hs_cf, hs_q0, hs_q1, reduceIte, Nat.reduceEqDiff, Nat.reduceAdd, Nat.reduceLT, eq_self, List.getElem?_cons_zero, List.getElem?_cons_succ, List.set_cons_zero, List.set_cons_succ, List.length_cons, List.length_nil, Option.toList_some, Option.toList_none, List.cons_append, List.nil_append, Nat.zero_add, Nat.add_zero, List.map_nil, List.sum_nil, List.map_cons, List.sum_cons, Nat.zero_le, hs_set1, if_neg c2, q.f0, q.f3]
      exact hl_throwNW B rfl hst (kk := 716) (ks := 725) (by decide +kernel) (by decide +kernel) (hl_dec okX7_requireActiveHold 8 rfl) (hl_dec okX7_requireActiveHold 9 rfl) (hl_dec okX7_requireActiveHold 10 rfl) (hl_dec okX7_requireActiveHold 11 rfl) (hl_dec okX7_requireActiveHold 12 rfl) (by decide) (by decide) ⟨rfl, by simp only [er_act, ls_or_n, ls_or_s, e1, if_neg c2]⟩
  · skip
    obtain ⟨rfl, e1⟩ := hx
    exact hl_out B (by decide) (by decide) ⟨rfl, by simp only [er_act, ls_or_n, ls_or_s, e1]⟩
def ls_av (σ : LSt) (x : Int32) : Int64 := row_at (ls_len 2) (σ.1 2) x + row_at (ls_len 1) (σ.1 1) x - ls_held σ x
set_option maxRecDepth 20000 in
set_option maxHeartbeats 2000000 in
theorem ct_X7_spendable {G : hl_G} {l : Launch} {a ca : Nat → Nat} {σ : LSt} {h : hl_H} {x : Int32} (q : LSr a ca σ h) (hz : ∀ j : Nat, σ.2.1 j < 2 ^ 30) :
    hl_Ct G l mX7_spendable 3 0 0 [.ref (a 0), .int x] (fun g => g = h) (fun r g => r = some (.long (ls_av σ x)) ∧ g = h) (fun _ _ => False) := by
  refine hl_body (by decide +kernel) (Nat.le_of_ble_eq_true rfl) ?_
  intro p e s m args below meth c B g hg
  rw [hg]
  refine hl_seg B okX7_spendable (fun q => nomatch q) 0 1000 rfl ?_
  simp only [pX7_spendable, List.drop_zero, List.drop_succ_cons, hl_wp, hs_ii, hs_i1, hs_ll, hs_l1, hs_ff, hs_g1, hs_dd, hs_d1, hs_r1, hs_rv, hs_rv0, hs_n1, hs_n0, hs_v1i, hs_v1r, hs_a1, hs_d2l, hs_d2i, hs_ri, hs_rl, hs_rg, hs_rd8, hs_rr, hs_rn, hs_ov, hs_gf, hs_po, hs_pfi, hs_pfr, hs_ia, hs_la, hs_da, hs_qa, hs_al, hs_is, hs_ls, hs_ds, hs_iso, hs_lso, hs_dso, hs_rd, hs_f1, hs_f10, hs_f2, hs_f20, hs_in0, hs_in1, hs_lt, hs_le, hs_ge, hs_gt, hs_eq, hs_10, hs_00, hs_01, true_and, and_true, true_imp_iff, false_imp_iff, not_true_eq_false, not_false_eq_true, hs_av, hs_ai, hs_ar, hs_an, hs_aj, hs_ci, hs_cr, hs_cn, hs_cj, hs_cd, hs_cf, hs_q0, hs_q1, reduceIte, Nat.reduceEqDiff, Nat.reduceAdd, Nat.reduceLT, eq_self, List.getElem?_cons_zero, List.getElem?_cons_succ, List.set_cons_zero, List.set_cons_succ, List.length_cons, List.length_nil, Option.toList_some, Option.toList_none, List.cons_append, List.nil_append, Nat.zero_add, Nat.add_zero, List.map_nil, List.sum_nil, List.map_cons, List.sum_cons, Nat.zero_le, hs_set1, q.f0, q.f1]
  refine hl_callR B (As := [.int _]) (ls_at q 2 (by decide) _) mtX6_at (hl_dec okX7_spendable 4 rfl) (kk := 301) (by decide +kernel) rfl (q.fr 2 (by decide)) rfl (Nat.le_of_ble_eq_true rfl) (by decide) (by decide) (by decide) (by decide) ?_
  refine hl_seg B okX7_spendable (fun q => nomatch q) 5 1000 rfl ?_
  simp only [pX7_spendable, List.drop_zero, List.drop_succ_cons, hl_wp, hs_ii, hs_i1, hs_ll, hs_l1, hs_ff, hs_g1, hs_dd, hs_d1, hs_r1, hs_rv, hs_rv0, hs_n1, hs_n0, hs_v1i, hs_v1r, hs_a1, hs_d2l, hs_d2i, hs_ri, hs_rl, hs_rg, hs_rd8, hs_rr, hs_rn, hs_ov, hs_gf, hs_po, hs_pfi, hs_pfr, hs_ia, hs_la, hs_da, hs_qa, hs_al, hs_is, hs_ls, hs_ds, hs_iso, hs_lso, hs_dso, hs_rd, hs_f1, hs_f10, hs_f2, hs_f20, hs_in0, hs_in1, hs_lt, hs_le, hs_ge, hs_gt, hs_eq, hs_10, hs_00, hs_01, true_and, and_true, true_imp_iff, false_imp_iff, not_true_eq_false, not_false_eq_true, hs_av, hs_ai, hs_ar, hs_an, hs_aj, hs_ci, hs_cr, hs_cn, hs_cj, hs_cd, hs_cf, hs_q0, hs_q1, reduceIte, Nat.reduceEqDiff, Nat.reduceAdd, Nat.reduceLT, eq_self, List.getElem?_cons_zero, List.getElem?_cons_succ, List.set_cons_zero, List.set_cons_succ, List.length_cons, List.length_nil, Option.toList_some, Option.toList_none, List.cons_append, List.nil_append, Nat.zero_add, Nat.add_zero, List.map_nil, List.sum_nil, List.map_cons, List.sum_cons, Nat.zero_le, hs_set1, q.f0, q.f1]
  refine hl_callR B (As := [.int _]) (ls_at q 1 (by decide) _) mtX6_at (hl_dec okX7_spendable 9 rfl) (kk := 301) (by decide +kernel) rfl (q.fr 1 (by decide)) rfl (Nat.le_of_ble_eq_true rfl) (by decide) (by decide) (by decide) (by decide) ?_
  refine hl_seg B okX7_spendable (fun q => nomatch q) 10 1000 rfl ?_
  simp only [pX7_spendable, List.drop_zero, List.drop_succ_cons, hl_wp, hs_ii, hs_i1, hs_ll, hs_l1, hs_ff, hs_g1, hs_dd, hs_d1, hs_r1, hs_rv, hs_rv0, hs_n1, hs_n0, hs_v1i, hs_v1r, hs_a1, hs_d2l, hs_d2i, hs_ri, hs_rl, hs_rg, hs_rd8, hs_rr, hs_rn, hs_ov, hs_gf, hs_po, hs_pfi, hs_pfr, hs_ia, hs_la, hs_da, hs_qa, hs_al, hs_is, hs_ls, hs_ds, hs_iso, hs_lso, hs_dso, hs_rd, hs_f1, hs_f10, hs_f2, hs_f20, hs_in0, hs_in1, hs_lt, hs_le, hs_ge, hs_gt, hs_eq, hs_10, hs_00, hs_01, true_and, and_true, true_imp_iff, false_imp_iff, not_true_eq_false, not_false_eq_true, hs_av, hs_ai, hs_ar, hs_an, hs_aj, hs_ci, hs_cr, hs_cn, hs_cj, hs_cd, hs_cf, hs_q0, hs_q1, reduceIte, Nat.reduceEqDiff, Nat.reduceAdd, Nat.reduceLT, eq_self, List.getElem?_cons_zero, List.getElem?_cons_succ, List.set_cons_zero, List.set_cons_succ, List.length_cons, List.length_nil, Option.toList_some, Option.toList_none, List.cons_append, List.nil_append, Nat.zero_add, Nat.add_zero, List.map_nil, List.sum_nil, List.map_cons, List.sum_cons, Nat.zero_le, hs_set1, q.f0, q.f1]
  refine hl_callR B (As := [.int _]) (ct_X3_heldFrom q hz) mtX3_heldFrom (hl_dec okX7_spendable 14 rfl) (kk := 302) (by decide +kernel) rfl (q.f3) rfl (Nat.le_of_ble_eq_true rfl) (by decide) (by decide) (by decide) (by decide) ?_
  refine hl_seg B okX7_spendable (fun q => nomatch q) 15 1000 rfl ?_
  simp only [pX7_spendable, List.drop_zero, List.drop_succ_cons, hl_wp, hs_ii, hs_i1, hs_ll, hs_l1, hs_ff, hs_g1, hs_dd, hs_d1, hs_r1, hs_rv, hs_rv0, hs_n1, hs_n0, hs_v1i, hs_v1r, hs_a1, hs_d2l, hs_d2i, hs_ri, hs_rl, hs_rg, hs_rd8, hs_rr, hs_rn, hs_ov, hs_gf, hs_po, hs_pfi, hs_pfr, hs_ia, hs_la, hs_da, hs_qa, hs_al, hs_is, hs_ls, hs_ds, hs_iso, hs_lso, hs_dso, hs_rd, hs_f1, hs_f10, hs_f2, hs_f20, hs_in0, hs_in1, hs_lt, hs_le, hs_ge, hs_gt, hs_eq, hs_10, hs_00, hs_01, true_and, and_true, true_imp_iff, false_imp_iff, not_true_eq_false, not_false_eq_true, hs_av, hs_ai, hs_ar, hs_an, hs_aj, hs_ci, hs_cr, hs_cn, hs_cj, hs_cd, hs_cf, hs_q0, hs_q1, reduceIte, Nat.reduceEqDiff, Nat.reduceAdd, Nat.reduceLT, eq_self, List.getElem?_cons_zero, List.getElem?_cons_succ, List.set_cons_zero, List.set_cons_succ, List.length_cons, List.length_nil, Option.toList_some, Option.toList_none, List.cons_append, List.nil_append, Nat.zero_add, Nat.add_zero, List.map_nil, List.sum_nil, List.map_cons, List.sum_cons, Nat.zero_le, hs_set1, q.f0, q.f1]
  exact hl_lret B rfl (hl_dec okX7_spendable 16 rfl) (by decide) (by decide) ⟨rfl, rfl⟩
def er_spe (σ : LSt) (x v : Int32) : Option String := if v.toInt64 ≤ ls_av σ x then none else some xUOE
set_option maxRecDepth 20000 in
set_option maxHeartbeats 2000000 in
theorem ct_X7_requireSpendable {G : hl_G} {l : Launch} {a ca : Nat → Nat} {σ : LSt} {h : hl_H} {x v : Int32} (hst : l.stackTraces = false) (q : LSr a ca σ h) (hz : ∀ j : Nat, σ.2.1 j < 2 ^ 30) :
    hl_Ct G l mX7_requireSpendable 4 1 6 [.ref (a 0), .int x, .int v] (fun g => g = h) (fun r g => r = none ∧ g = h ∧ er_spe σ x v = none) (fun E g => g = h ∧ er_spe σ x v = some E) := by
  refine hl_body (by decide +kernel) (Nat.le_of_ble_eq_true rfl) ?_
  intro p e s m args below meth c B g hg
  rw [hg]
  refine hl_seg B okX7_requireSpendable (fun q => nomatch q) 0 1000 rfl ?_
  simp only [pX7_requireSpendable, List.drop_zero, List.drop_succ_cons, hl_wp, hs_ii, hs_i1, hs_ll, hs_l1, hs_ff, hs_g1, hs_dd, hs_d1, hs_r1, hs_rv, hs_rv0, hs_n1, hs_n0, hs_v1i, hs_v1r, hs_a1, hs_d2l, hs_d2i, hs_ri, hs_rl, hs_rg, hs_rd8, hs_rr, hs_rn, hs_ov, hs_gf, hs_po, hs_pfi, hs_pfr, hs_ia, hs_la, hs_da, hs_qa, hs_al, hs_is, hs_ls, hs_ds, hs_iso, hs_lso, hs_dso, hs_rd, hs_f1, hs_f10, hs_f2, hs_f20, hs_in0, hs_in1, hs_lt, hs_le, hs_ge, hs_gt, hs_eq, hs_10, hs_00, hs_01, true_and, and_true, true_imp_iff, false_imp_iff, not_true_eq_false, not_false_eq_true, hs_av, hs_ai, hs_ar, hs_an, hs_aj, hs_ci, hs_cr, hs_cn, hs_cj, hs_cd, hs_cf, hs_q0, hs_q1, reduceIte, Nat.reduceEqDiff, Nat.reduceAdd, Nat.reduceLT, eq_self, List.getElem?_cons_zero, List.getElem?_cons_succ, List.set_cons_zero, List.set_cons_succ, List.length_cons, List.length_nil, Option.toList_some, Option.toList_none, List.cons_append, List.nil_append, Nat.zero_add, Nat.add_zero, List.map_nil, List.sum_nil, List.map_cons, List.sum_cons, Nat.zero_le, hs_set1, q.f0]
  refine hl_callR B (As := [.int _]) (ct_X7_spendable q hz) mtX7_spendable (hl_dec okX7_requireSpendable 4 rfl) (kk := 297) (by decide +kernel) rfl (q.f0) rfl (Nat.le_of_ble_eq_true rfl) (by decide) (by decide) (by decide) (by decide) ?_
  refine hl_seg B okX7_requireSpendable (fun q => nomatch q) 5 1000 rfl ?_
  simp only [pX7_requireSpendable, List.drop_zero, List.drop_succ_cons, hl_wp, hs_ii, hs_i1, hs_ll, hs_l1, hs_ff, hs_g1, hs_dd, hs_d1, hs_r1, hs_rv, hs_rv0, hs_n1, hs_n0, hs_v1i, hs_v1r, hs_a1, hs_d2l, hs_d2i, hs_ri, hs_rl, hs_rg, hs_rd8, hs_rr, hs_rn, hs_ov, hs_gf, hs_po, hs_pfi, hs_pfr, hs_ia, hs_la, hs_da, hs_qa, hs_al, hs_is, hs_ls, hs_ds, hs_iso, hs_lso, hs_dso, hs_rd, hs_f1, hs_f10, hs_f2, hs_f20, hs_in0, hs_in1, hs_lt, hs_le, hs_ge, hs_gt, hs_eq, hs_10, hs_00, hs_01, true_and, and_true, true_imp_iff, false_imp_iff, not_true_eq_false, not_false_eq_true, hs_av, hs_ai, hs_ar, hs_an, hs_aj, hs_ci, hs_cr, hs_cn, hs_cj, hs_cd, hs_cf, hs_q0, hs_q1, reduceIte, Nat.reduceEqDiff, Nat.reduceAdd, Nat.reduceLT, eq_self, List.getElem?_cons_zero, List.getElem?_cons_succ, List.set_cons_zero, List.set_cons_succ, List.length_cons, List.length_nil, Option.toList_some, Option.toList_none, List.cons_append, List.nil_append, Nat.zero_add, Nat.add_zero, List.map_nil, List.sum_nil, List.map_cons, List.sum_cons, Nat.zero_le, hs_set1, q.f0]
  refine ⟨fun c1 => ?_, fun c1 => ?_⟩
  · skip
    exact hl_vret B rfl (hl_dec okX7_requireSpendable 12 rfl) (by decide) (by decide) ⟨rfl, rfl, by simp only [er_spe, ls_or_n, ls_or_s, if_pos c1]⟩
  · skip
    exact hl_throwW B rfl hst th_UOE (kk := 532) (ks := 667) (by decide +kernel) (by decide +kernel) (hl_dec okX7_requireSpendable 7 rfl) (hl_dec okX7_requireSpendable 8 rfl) (hl_dec okX7_requireSpendable 9 rfl) (hl_dec okX7_requireSpendable 10 rfl) (hl_dec okX7_requireSpendable 11 rfl) (by decide) (by decide) ⟨rfl, by simp only [er_spe, ls_or_n, ls_or_s, if_neg c1]⟩
def ls_rcv (σ : LSt) (i : Int32) : Int32 := ls_recv σ (row_intAt (ls_len 18) (σ.1 18) i) (row_intAt (ls_len 19) (σ.1 19) i) (row_intAt (ls_len 20) (σ.1 20) i)
set_option maxRecDepth 20000 in
set_option maxHeartbeats 2000000 in
theorem ct_X7_receivedByPayment {G : hl_G} {l : Launch} {a ca : Nat → Nat} {σ : LSt} {h : hl_H} {x : Int32} (q : LSr a ca σ h) :
    hl_Ct G l mX7_receivedByPayment 2 0 0 [.ref (a 0), .int x] (fun g => g = h) (fun r g => r = some (.int (ls_rcv σ x)) ∧ g = h) (fun _ _ => False) := by
  refine hl_body (by decide +kernel) (Nat.le_of_ble_eq_true rfl) ?_
  intro p e s m args below meth c B g hg
  rw [hg]
  refine hl_seg B okX7_receivedByPayment (fun q => nomatch q) 0 1000 rfl ?_
  simp only [pX7_receivedByPayment, List.drop_zero, List.drop_succ_cons, hl_wp, hs_ii, hs_i1, hs_ll, hs_l1, hs_ff, hs_g1, hs_dd, hs_d1, hs_r1, hs_rv, hs_rv0, hs_n1, hs_n0, hs_v1i, hs_v1r, hs_a1, hs_d2l, hs_d2i, hs_ri, hs_rl, hs_rg, hs_rd8, hs_rr, hs_rn, hs_ov, hs_gf, hs_po, hs_pfi, hs_pfr, hs_ia, hs_la, hs_da, hs_qa, hs_al, hs_is, hs_ls, hs_ds, hs_iso, hs_lso, hs_dso, hs_rd, hs_f1, hs_f10, hs_f2, hs_f20, hs_in0, hs_in1, hs_lt, hs_le, hs_ge, hs_gt, hs_eq, hs_10, hs_00, hs_01, true_and, and_true, true_imp_iff, false_imp_iff, not_true_eq_false, not_false_eq_true, hs_av, hs_ai, hs_ar, hs_an, hs_aj, hs_ci, hs_cr, hs_cn, hs_cj, hs_cd, hs_cf, hs_q0, hs_q1, reduceIte, Nat.reduceEqDiff, Nat.reduceAdd, Nat.reduceLT, eq_self, List.getElem?_cons_zero, List.getElem?_cons_succ, List.set_cons_zero, List.set_cons_succ, List.length_cons, List.length_nil, Option.toList_some, Option.toList_none, List.cons_append, List.nil_append, Nat.zero_add, Nat.add_zero, List.map_nil, List.sum_nil, List.map_cons, List.sum_cons, Nat.zero_le, hs_set1, q.f0, q.f4]
  refine hl_callR B (As := [.int _]) (ls_intAt q 18 (by decide) _) mtX6_intAt (hl_dec okX7_receivedByPayment 6 rfl) (kk := 314) (by decide +kernel) rfl (q.fr 18 (by decide)) rfl (Nat.le_of_ble_eq_true rfl) (by decide) (by decide) (by decide) (by decide) ?_
  refine hl_seg B okX7_receivedByPayment (fun q => nomatch q) 7 1000 rfl ?_
  simp only [pX7_receivedByPayment, List.drop_zero, List.drop_succ_cons, hl_wp, hs_ii, hs_i1, hs_ll, hs_l1, hs_ff, hs_g1, hs_dd, hs_d1, hs_r1, hs_rv, hs_rv0, hs_n1, hs_n0, hs_v1i, hs_v1r, hs_a1, hs_d2l, hs_d2i, hs_ri, hs_rl, hs_rg, hs_rd8, hs_rr, hs_rn, hs_ov, hs_gf, hs_po, hs_pfi, hs_pfr, hs_ia, hs_la, hs_da, hs_qa, hs_al, hs_is, hs_ls, hs_ds, hs_iso, hs_lso, hs_dso, hs_rd, hs_f1, hs_f10, hs_f2, hs_f20, hs_in0, hs_in1, hs_lt, hs_le, hs_ge, hs_gt, hs_eq, hs_10, hs_00, hs_01, true_and, and_true, true_imp_iff, false_imp_iff, not_true_eq_false, not_false_eq_true, hs_av, hs_ai, hs_ar, hs_an, hs_aj, hs_ci, hs_cr, hs_cn, hs_cj, hs_cd, hs_cf, hs_q0, hs_q1, reduceIte, Nat.reduceEqDiff, Nat.reduceAdd, Nat.reduceLT, eq_self, List.getElem?_cons_zero, List.getElem?_cons_succ, List.set_cons_zero, List.set_cons_succ, List.length_cons, List.length_nil, Option.toList_some, Option.toList_none, List.cons_append, List.nil_append, Nat.zero_add, Nat.add_zero, List.map_nil, List.sum_nil, List.map_cons, List.sum_cons, Nat.zero_le, hs_set1, q.f0, q.f4]
  refine hl_callR B (As := [.int _]) (ls_intAt q 19 (by decide) _) mtX6_intAt (hl_dec okX7_receivedByPayment 11 rfl) (kk := 314) (by decide +kernel) rfl (q.fr 19 (by decide)) rfl (Nat.le_of_ble_eq_true rfl) (by decide) (by decide) (by decide) (by decide) ?_
  refine hl_seg B okX7_receivedByPayment (fun q => nomatch q) 12 1000 rfl ?_
  simp only [pX7_receivedByPayment, List.drop_zero, List.drop_succ_cons, hl_wp, hs_ii, hs_i1, hs_ll, hs_l1, hs_ff, hs_g1, hs_dd, hs_d1, hs_r1, hs_rv, hs_rv0, hs_n1, hs_n0, hs_v1i, hs_v1r, hs_a1, hs_d2l, hs_d2i, hs_ri, hs_rl, hs_rg, hs_rd8, hs_rr, hs_rn, hs_ov, hs_gf, hs_po, hs_pfi, hs_pfr, hs_ia, hs_la, hs_da, hs_qa, hs_al, hs_is, hs_ls, hs_ds, hs_iso, hs_lso, hs_dso, hs_rd, hs_f1, hs_f10, hs_f2, hs_f20, hs_in0, hs_in1, hs_lt, hs_le, hs_ge, hs_gt, hs_eq, hs_10, hs_00, hs_01, true_and, and_true, true_imp_iff, false_imp_iff, not_true_eq_false, not_false_eq_true, hs_av, hs_ai, hs_ar, hs_an, hs_aj, hs_ci, hs_cr, hs_cn, hs_cj, hs_cd, hs_cf, hs_q0, hs_q1, reduceIte, Nat.reduceEqDiff, Nat.reduceAdd, Nat.reduceLT, eq_self, List.getElem?_cons_zero, List.getElem?_cons_succ, List.set_cons_zero, List.set_cons_succ, List.length_cons, List.length_nil, Option.toList_some, Option.toList_none, List.cons_append, List.nil_append, Nat.zero_add, Nat.add_zero, List.map_nil, List.sum_nil, List.map_cons, List.sum_cons, Nat.zero_le, hs_set1, q.f0, q.f4]
  refine hl_callR B (As := [.int _]) (ls_intAt q 20 (by decide) _) mtX6_intAt (hl_dec okX7_receivedByPayment 16 rfl) (kk := 314) (by decide +kernel) rfl (q.fr 20 (by decide)) rfl (Nat.le_of_ble_eq_true rfl) (by decide) (by decide) (by decide) (by decide) ?_
  refine hl_seg B okX7_receivedByPayment (fun q => nomatch q) 17 1000 rfl ?_
  simp only [pX7_receivedByPayment, List.drop_zero, List.drop_succ_cons, hl_wp, hs_ii, hs_i1, hs_ll, hs_l1, hs_ff, hs_g1, hs_dd, hs_d1, hs_r1, hs_rv, hs_rv0, hs_n1, hs_n0, hs_v1i, hs_v1r, hs_a1, hs_d2l, hs_d2i, hs_ri, hs_rl, hs_rg, hs_rd8, hs_rr, hs_rn, hs_ov, hs_gf, hs_po, hs_pfi, hs_pfr, hs_ia, hs_la, hs_da, hs_qa, hs_al, hs_is, hs_ls, hs_ds, hs_iso, hs_lso, hs_dso, hs_rd, hs_f1, hs_f10, hs_f2, hs_f20, hs_in0, hs_in1, hs_lt, hs_le, hs_ge, hs_gt, hs_eq, hs_10, hs_00, hs_01, true_and, and_true, true_imp_iff, false_imp_iff, not_true_eq_false, not_false_eq_true, hs_av, hs_ai, hs_ar, hs_an, hs_aj, hs_ci, hs_cr, hs_cn, hs_cj, hs_cd, hs_cf, hs_q0, hs_q1, reduceIte, Nat.reduceEqDiff, Nat.reduceAdd, Nat.reduceLT, eq_self, List.getElem?_cons_zero, List.getElem?_cons_succ, List.set_cons_zero, List.set_cons_succ, List.length_cons, List.length_nil, Option.toList_some, Option.toList_none, List.cons_append, List.nil_append, Nat.zero_add, Nat.add_zero, List.map_nil, List.sum_nil, List.map_cons, List.sum_cons, Nat.zero_le, hs_set1, q.f0, q.f4]
  refine hl_callR B (As := [.int _, .int _, .int _]) (ct_X1_receivedFor q) mtX1_receivedFor (hl_dec okX7_receivedByPayment 17 rfl) (kk := 318) (by decide +kernel) rfl (q.f1) rfl (Nat.le_of_ble_eq_true rfl) (by decide) (by decide) (by decide) (by decide) ?_
  exact hl_iret B rfl rfl (hl_dec okX7_receivedByPayment 18 rfl) (by decide) (by decide) ⟨rfl, rfl⟩
def ls_post (σ : LSt) (kd x y p r : Int32) : LSt := ls_app (ls_move σ x y p r) kd x y p r (nI (σ.2.1 5))
theorem ls_chg_z (σ : LSt) (x c v : Int32) : (ls_chg σ x c v).2 = σ.2 := by
  unfold ls_chg
  split <;> rfl
theorem ls_move_z (σ : LSt) (x y p r : Int32) : (ls_move σ x y p r).2 = σ.2 := by
  unfold ls_move ls_mv1
  split
  · rw [ls_chg_z, ls_chg_z]
  · show (ls_chg (ls_chg σ x (ls_from σ x y) (-p)) y (ls_from σ y x) r).2 = σ.2
    rw [ls_chg_z, ls_chg_z]
set_option maxRecDepth 20000 in
set_option maxHeartbeats 2000000 in
theorem ct_X7_post {G : hl_G} {l : Launch} {a ca : Nat → Nat} {σ : LSt} {h0 : hl_H} {kd x y p1 r1 : Int32}  :
    hl_Ct G l mX7_post 3 0 0 [.ref (a 0), .int kd, .int x, .int y, .int p1, .int r1] (LSw a ca σ h0) (fun r g => r = some (.int (nI (σ.2.1 1))) ∧ LSw a ca (ls_post σ kd x y p1 r1) h0 g) (fun _ _ => False) := by
  refine hl_body (by decide +kernel) (Nat.le_of_ble_eq_true rfl) ?_
  intro p e s m args below meth c B g hg
  have q := hg.1
  have w := hg
  refine hl_seg B okX7_post (fun q => nomatch q) 0 1000 rfl ?_
  simp only [pX7_post, List.drop_zero, List.drop_succ_cons, hl_wp, hs_ii, hs_i1, hs_ll, hs_l1, hs_ff, hs_g1, hs_dd, hs_d1, hs_r1, hs_rv, hs_rv0, hs_n1, hs_n0, hs_v1i, hs_v1r, hs_a1, hs_d2l, hs_d2i, hs_ri, hs_rl, hs_rg, hs_rd8, hs_rr, hs_rn, hs_ov, hs_gf, hs_po, hs_pfi, hs_pfr, hs_ia, hs_la, hs_da, hs_qa, hs_al, hs_is, hs_ls, hs_ds, hs_iso, hs_lso, hs_dso, hs_rd, hs_f1, hs_f10, hs_f2, hs_f20, hs_in0, hs_in1, hs_lt, hs_le, hs_ge, hs_gt, hs_eq, hs_10, hs_00, hs_01, true_and, and_true, true_imp_iff, false_imp_iff, not_true_eq_false, not_false_eq_true, hs_av, hs_ai, hs_ar, hs_an, hs_aj, hs_ci, hs_cr, hs_cn, hs_cj, hs_cd, hs_cf, hs_q0, hs_q1, reduceIte, Nat.reduceEqDiff, Nat.reduceAdd, Nat.reduceLT, eq_self, List.getElem?_cons_zero, List.getElem?_cons_succ, List.set_cons_zero, List.set_cons_succ, List.length_cons, List.length_nil, Option.toList_some, Option.toList_none, List.cons_append, List.nil_append, Nat.zero_add, Nat.add_zero, List.map_nil, List.sum_nil, List.map_cons, List.sum_cons, Nat.zero_le, hs_set1, ls_move_z, q.f0]
  refine hl_callV B (As := [.int _, .int _, .int _, .int _]) (ct_X1_move) mtX1_move (hl_dec okX7_post 6 rfl) (kk := 637) (by decide +kernel) rfl rfl (q.f1) rfl (Nat.le_of_ble_eq_true rfl) (by decide) (by decide) (by decide) (by decide) w (fun r9 h9 hq => ?_) (fun _ _ hx => hx.elim)
  obtain ⟨rfl, w1⟩ := hq
  have qw1 := w1.1
  refine hl_seg B okX7_post (fun q => nomatch q) 7 1000 rfl ?_
  simp only [pX7_post, List.drop_zero, List.drop_succ_cons, hl_wp, hs_ii, hs_i1, hs_ll, hs_l1, hs_ff, hs_g1, hs_dd, hs_d1, hs_r1, hs_rv, hs_rv0, hs_n1, hs_n0, hs_v1i, hs_v1r, hs_a1, hs_d2l, hs_d2i, hs_ri, hs_rl, hs_rg, hs_rd8, hs_rr, hs_rn, hs_ov, hs_gf, hs_po, hs_pfi, hs_pfr, hs_ia, hs_la, hs_da, hs_qa, hs_al, hs_is, hs_ls, hs_ds, hs_iso, hs_lso, hs_dso, hs_rd, hs_f1, hs_f10, hs_f2, hs_f20, hs_in0, hs_in1, hs_lt, hs_le, hs_ge, hs_gt, hs_eq, hs_10, hs_00, hs_01, true_and, and_true, true_imp_iff, false_imp_iff, not_true_eq_false, not_false_eq_true, hs_av, hs_ai, hs_ar, hs_an, hs_aj, hs_ci, hs_cr, hs_cn, hs_cj, hs_cd, hs_cf, hs_q0, hs_q1, reduceIte, Nat.reduceEqDiff, Nat.reduceAdd, Nat.reduceLT, eq_self, List.getElem?_cons_zero, List.getElem?_cons_succ, List.set_cons_zero, List.set_cons_succ, List.length_cons, List.length_nil, Option.toList_some, Option.toList_none, List.cons_append, List.nil_append, Nat.zero_add, Nat.add_zero, List.map_nil, List.sum_nil, List.map_cons, List.sum_cons, Nat.zero_le, hs_set1, ls_move_z, qw1.f0]
  refine hl_callV B (As := [.int _, .int _, .int _, .int _, .int _, .int _]) (ct_X4_append) mtX4_append (hl_dec okX7_post 16 rfl) (kk := 646) (by decide +kernel) rfl rfl (qw1.f2) rfl (Nat.le_of_ble_eq_true rfl) (by decide) (by decide) (by decide) (by decide) w1 (fun r9 h9 hq => ?_) (fun _ _ hx => hx.elim)
  obtain ⟨rfl, w2⟩ := hq
  have qw2 := w2.1
  exact hl_iret B rfl rfl (hl_dec okX7_post 17 rfl) (by decide) (by decide) ⟨by rw [ls_move_z], w2⟩
