/-! PART 22: the reference's sums, days and cuts -/
def md_bsum (μ : LMt) (c : Nat) : Nat → Int64
  | 0 => μ.2.1 4 c + μ.2.1 5 c
  | k + 1 => md_bsum μ c k + (if μ.1 0 k = nI c then μ.2.1 3 k else 0)
def md_bal (μ : LMt) : Nat → Nat → Bool
  | 0, _ => true
  | k + 1, i => if md_bsum μ i (μ.2.2.1 0) = 0 then md_bal μ k (i + 1) else false
def md_isBalanced (μ : LMt) : MRes := (lm_T μ 0, .int (if md_bal μ 4 0 = true then 1 else 0))
set_option maxRecDepth 20000 in
set_option maxHeartbeats 2000000 in
theorem cr_isBalanced {G : hl_G} {l : Launch} {b : Nat → Nat} {μ : LMt} {h0 : hl_H} (hM : MInv μ) :
    hl_Ct G l mX8_isBalanced 6 0 0 [.ref (b 0)] (LMw b μ h0) (md_Q b h0 (md_isBalanced μ)) (fun _ _ => False) := by
  refine hl_body (by decide +kernel) (Nat.le_of_ble_eq_true rfl) ?_
  intro p e s m args below meth c B g hg
  have qw := hg.1
  have w := hg
  obtain ⟨hb0, hb1, hb2, hb3, hb4, hcur, hrat, hpr, hpe, hpp, hho, hta, hbp, hbe⟩ := id hM
  have loop : ∀ (k9 i : Nat) (g9 : hl_H), i + k9 = 4 → (LMw b (lm_T μ 0) h0 g9) → (md_bal μ 4 0 = md_bal μ k9 i) → hl_GM G mX8_isBalanced 6 0 0 (md_Q b h0 (md_isBalanced μ)) (fun _ _ => False) p l e s m args below meth c 7 [(0, .ref (b 0)), (1, .int (nI i))] [] g9 0 0 := by
    intro k9
    induction k9 with
    | zero =>
      intro i g9  hi w9 hx
      have hle : (4 : Int32) ≤ nI i := nI_le (a := 4) (by omega) (by omega)
      have qw9 := w9.1
      refine hl_seg B okX8_isBalanced (fun q => nomatch q) 5 1000 rfl ?_
      simp only [pX8_isBalanced, List.drop_zero, List.drop_succ_cons, hl_wp, hs_ii, hs_i1, hs_ll, hs_l1, hs_ff, hs_g1, hs_dd, hs_d1, hs_r1, hs_rv, hs_rv0, hs_n1, hs_n0, hs_v1i, hs_v1r, hs_a1, hs_d2l, hs_d2i, hs_ri, hs_rl, hs_rg, hs_rd8, hs_rr, hs_rn, hs_ov, hs_gf, hs_po, hs_pfi, hs_pfr, hs_ia, hs_la, hs_da, hs_qa, hs_al, hs_is, hs_ls, hs_ds, hs_iso, hs_lso, hs_dso, hs_rd, hs_f1, hs_f10, hs_f2, hs_f20, hs_in0, hs_in1, hs_lt, hs_le, hs_ge, hs_gt, hs_eq, hs_10, hs_00, hs_01, true_and, and_true, true_imp_iff, false_imp_iff, not_true_eq_false, not_false_eq_true, hs_av, hs_ai, hs_ar, hs_an, hs_aj, hs_ci, hs_cr, hs_cn, hs_cj, hs_cd, hs_cf, hs_q0, hs_q1, reduceIte, Nat.reduceEqDiff, Nat.reduceAdd, Nat.reduceLT, eq_self, List.getElem?_cons_zero, List.getElem?_cons_succ, List.set_cons_zero, List.set_cons_succ, List.length_cons, List.length_nil, Option.toList_some, Option.toList_none, List.cons_append, List.nil_append, Nat.zero_add, Nat.add_zero, List.map_nil, List.sum_nil, List.map_cons, List.sum_cons, Nat.zero_le, hs_set1, lm_I1, lm_I2, lm_I3, lm_I4, lm_J1, lm_J2, lm_J3, lm_J4, lm_N1, lm_N2, lm_N3, lm_N4, lm_T1, lm_T2, lm_T3, lm_T4, Int32.reduceLE, Int32.reduceLT, qw9.f0, qw9.a0, qw9.a3, qw9.a4, qw9.a5, hle]
      refine hl_seg B okX8_isBalanced (fun q => nomatch q) 49 1000 rfl ?_
      simp only [pX8_isBalanced, List.drop_zero, List.drop_succ_cons, hl_wp, hs_ii, hs_i1, hs_ll, hs_l1, hs_ff, hs_g1, hs_dd, hs_d1, hs_r1, hs_rv, hs_rv0, hs_n1, hs_n0, hs_v1i, hs_v1r, hs_a1, hs_d2l, hs_d2i, hs_ri, hs_rl, hs_rg, hs_rd8, hs_rr, hs_rn, hs_ov, hs_gf, hs_po, hs_pfi, hs_pfr, hs_ia, hs_la, hs_da, hs_qa, hs_al, hs_is, hs_ls, hs_ds, hs_iso, hs_lso, hs_dso, hs_rd, hs_f1, hs_f10, hs_f2, hs_f20, hs_in0, hs_in1, hs_lt, hs_le, hs_ge, hs_gt, hs_eq, hs_10, hs_00, hs_01, true_and, and_true, true_imp_iff, false_imp_iff, not_true_eq_false, not_false_eq_true, hs_av, hs_ai, hs_ar, hs_an, hs_aj, hs_ci, hs_cr, hs_cn, hs_cj, hs_cd, hs_cf, hs_q0, hs_q1, reduceIte, Nat.reduceEqDiff, Nat.reduceAdd, Nat.reduceLT, eq_self, List.getElem?_cons_zero, List.getElem?_cons_succ, List.set_cons_zero, List.set_cons_succ, List.length_cons, List.length_nil, Option.toList_some, Option.toList_none, List.cons_append, List.nil_append, Nat.zero_add, Nat.add_zero, List.map_nil, List.sum_nil, List.map_cons, List.sum_cons, Nat.zero_le, hs_set1, lm_I1, lm_I2, lm_I3, lm_I4, lm_J1, lm_J2, lm_J3, lm_J4, lm_N1, lm_N2, lm_N3, lm_N4, lm_T1, lm_T2, lm_T3, lm_T4, Int32.reduceLE, Int32.reduceLT, qw9.f0, qw9.a0, qw9.a3, qw9.a4, qw9.a5, hle]
      exact hl_iret B rfl (by first | rfl | decide | (split <;> rfl)) (hl_dec okX8_isBalanced 50 rfl) (by decide) (by decide) (md_ok (by unfold md_isBalanced; rw [hx]; simp only [md_bal, Bool.false_eq_true, if_false, if_true]) w9)
    | succ k9 ih =>
      intro i g9  hi w9 hx
      have hlt : ¬ (4 : Int32) ≤ nI i := nI_ge (b := 4) (by omega) (by omega)
      have qw9 := w9.1
      have hcl : (nI i).toNatClampNeg = i := nI_clamp (by omega)
      have loop2 : ∀ (k8 j : Nat), j + k8 = μ.2.2.1 0 → hl_GM G mX8_isBalanced 6 0 0 (md_Q b h0 (md_isBalanced μ)) (fun _ _ => False) p l e s m args below meth c 29 [(0, .ref (b 0)), (1, .int (nI i)), (2, .long (md_bsum μ i j)), (4, .int (nI j))] [] g9 0 0 := by
        intro k8
        induction k8 with
        | zero =>
          intro j  hj 
          have hle : nI (μ.2.2.1 0) ≤ nI j := nI_le (by omega) (by have := hb0; omega)
          have hje : j = μ.2.2.1 0 := by omega
          subst hje
          refine hl_seg B okX8_isBalanced (fun q => nomatch q) 20 1000 rfl ?_
          simp only [pX8_isBalanced, List.drop_zero, List.drop_succ_cons, hl_wp, hs_ii, hs_i1, hs_ll, hs_l1, hs_ff, hs_g1, hs_dd, hs_d1, hs_r1, hs_rv, hs_rv0, hs_n1, hs_n0, hs_v1i, hs_v1r, hs_a1, hs_d2l, hs_d2i, hs_ri, hs_rl, hs_rg, hs_rd8, hs_rr, hs_rn, hs_ov, hs_gf, hs_po, hs_pfi, hs_pfr, hs_ia, hs_la, hs_da, hs_qa, hs_al, hs_is, hs_ls, hs_ds, hs_iso, hs_lso, hs_dso, hs_rd, hs_f1, hs_f10, hs_f2, hs_f20, hs_in0, hs_in1, hs_lt, hs_le, hs_ge, hs_gt, hs_eq, hs_10, hs_00, hs_01, true_and, and_true, true_imp_iff, false_imp_iff, not_true_eq_false, not_false_eq_true, hs_av, hs_ai, hs_ar, hs_an, hs_aj, hs_ci, hs_cr, hs_cn, hs_cj, hs_cd, hs_cf, hs_q0, hs_q1, reduceIte, Nat.reduceEqDiff, Nat.reduceAdd, Nat.reduceLT, eq_self, List.getElem?_cons_zero, List.getElem?_cons_succ, List.set_cons_zero, List.set_cons_succ, List.length_cons, List.length_nil, Option.toList_some, Option.toList_none, List.cons_append, List.nil_append, Nat.zero_add, Nat.add_zero, List.map_nil, List.sum_nil, List.map_cons, List.sum_cons, Nat.zero_le, hs_set1, lm_I1, lm_I2, lm_I3, lm_I4, lm_J1, lm_J2, lm_J3, lm_J4, lm_N1, lm_N2, lm_N3, lm_N4, lm_T1, lm_T2, lm_T3, lm_T4, Int32.reduceLE, Int32.reduceLT, qw9.f0, qw9.a0, qw9.a3, qw9.a4, qw9.a5, hle]
          refine hl_seg B okX8_isBalanced (fun q => nomatch q) 41 1000 rfl ?_
          simp only [pX8_isBalanced, List.drop_zero, List.drop_succ_cons, hl_wp, hs_ii, hs_i1, hs_ll, hs_l1, hs_ff, hs_g1, hs_dd, hs_d1, hs_r1, hs_rv, hs_rv0, hs_n1, hs_n0, hs_v1i, hs_v1r, hs_a1, hs_d2l, hs_d2i, hs_ri, hs_rl, hs_rg, hs_rd8, hs_rr, hs_rn, hs_ov, hs_gf, hs_po, hs_pfi, hs_pfr, hs_ia, hs_la, hs_da, hs_qa, hs_al, hs_is, hs_ls, hs_ds, hs_iso, hs_lso, hs_dso, hs_rd, hs_f1, hs_f10, hs_f2, hs_f20, hs_in0, hs_in1, hs_lt, hs_le, hs_ge, hs_gt, hs_eq, hs_10, hs_00, hs_01, true_and, and_true, true_imp_iff, false_imp_iff, not_true_eq_false, not_false_eq_true, hs_av, hs_ai, hs_ar, hs_an, hs_aj, hs_ci, hs_cr, hs_cn, hs_cj, hs_cd, hs_cf, hs_q0, hs_q1, reduceIte, Nat.reduceEqDiff, Nat.reduceAdd, Nat.reduceLT, eq_self, List.getElem?_cons_zero, List.getElem?_cons_succ, List.set_cons_zero, List.set_cons_succ, List.length_cons, List.length_nil, Option.toList_some, Option.toList_none, List.cons_append, List.nil_append, Nat.zero_add, Nat.add_zero, List.map_nil, List.sum_nil, List.map_cons, List.sum_cons, Nat.zero_le, hs_set1, lm_I1, lm_I2, lm_I3, lm_I4, lm_J1, lm_J2, lm_J3, lm_J4, lm_N1, lm_N2, lm_N3, lm_N4, lm_T1, lm_T2, lm_T3, lm_T4, Int32.reduceLE, Int32.reduceLT, qw9.f0, qw9.a0, qw9.a3, qw9.a4, qw9.a5, hle]
          refine ⟨fun c1 => ?_, fun c1 => ?_⟩
          · skip
            refine hl_seg B okX8_isBalanced (fun q => nomatch q) 47 1000 rfl ?_
            simp only [pX8_isBalanced, List.drop_zero, List.drop_succ_cons, hl_wp, hs_ii, hs_i1, hs_ll, hs_l1, hs_ff, hs_g1, hs_dd, hs_d1, hs_r1, hs_rv, hs_rv0, hs_n1, hs_n0, hs_v1i, hs_v1r, hs_a1, hs_d2l, hs_d2i, hs_ri, hs_rl, hs_rg, hs_rd8, hs_rr, hs_rn, hs_ov, hs_gf, hs_po, hs_pfi, hs_pfr, hs_ia, hs_la, hs_da, hs_qa, hs_al, hs_is, hs_ls, hs_ds, hs_iso, hs_lso, hs_dso, hs_rd, hs_f1, hs_f10, hs_f2, hs_f20, hs_in0, hs_in1, hs_lt, hs_le, hs_ge, hs_gt, hs_eq, hs_10, hs_00, hs_01, true_and, and_true, true_imp_iff, false_imp_iff, not_true_eq_false, not_false_eq_true, hs_av, hs_ai, hs_ar, hs_an, hs_aj, hs_ci, hs_cr, hs_cn, hs_cj, hs_cd, hs_cf, hs_q0, hs_q1, reduceIte, Nat.reduceEqDiff, Nat.reduceAdd, Nat.reduceLT, eq_self, List.getElem?_cons_zero, List.getElem?_cons_succ, List.set_cons_zero, List.set_cons_succ, List.length_cons, List.length_nil, Option.toList_some, Option.toList_none, List.cons_append, List.nil_append, Nat.zero_add, Nat.add_zero, List.map_nil, List.sum_nil, List.map_cons, List.sum_cons, Nat.zero_le, hs_set1, lm_I1, lm_I2, lm_I3, lm_I4, lm_J1, lm_J2, lm_J3, lm_J4, lm_N1, lm_N2, lm_N3, lm_N4, lm_T1, lm_T2, lm_T3, lm_T4, Int32.reduceLE, Int32.reduceLT, qw9.f0, qw9.a0, qw9.a3, qw9.a4, qw9.a5, hle]
            have hcs : nI i + 1 = nI (i + 1) := nI_1 i
            simp only [hcs]
            exact hl_drop B _ (by simp) (ih (i + 1) _ (by omega) w9 (by rw [hx]; simp only [md_bal, if_pos c1]))
          · skip
            exact hl_iret B rfl (by first | rfl | decide | (split <;> rfl)) (hl_dec okX8_isBalanced 46 rfl) (by decide) (by decide) (md_ok (by unfold md_isBalanced; rw [hx]; simp only [md_bal, if_neg c1, Bool.false_eq_true, if_false, if_true]) w9)
        | succ k8 ih2 =>
          intro j  hj 
          have hlt : ¬ nI (μ.2.2.1 0) ≤ nI j := nI_ge (by omega) (by have := hb0; omega)
          have hcj : (nI j).toNatClampNeg = j := nI_clamp (by omega)
          refine hl_seg B okX8_isBalanced (fun q => nomatch q) 20 1000 rfl ?_
          simp only [pX8_isBalanced, List.drop_zero, List.drop_succ_cons, hl_wp, hs_ii, hs_i1, hs_ll, hs_l1, hs_ff, hs_g1, hs_dd, hs_d1, hs_r1, hs_rv, hs_rv0, hs_n1, hs_n0, hs_v1i, hs_v1r, hs_a1, hs_d2l, hs_d2i, hs_ri, hs_rl, hs_rg, hs_rd8, hs_rr, hs_rn, hs_ov, hs_gf, hs_po, hs_pfi, hs_pfr, hs_ia, hs_la, hs_da, hs_qa, hs_al, hs_is, hs_ls, hs_ds, hs_iso, hs_lso, hs_dso, hs_rd, hs_f1, hs_f10, hs_f2, hs_f20, hs_in0, hs_in1, hs_lt, hs_le, hs_ge, hs_gt, hs_eq, hs_10, hs_00, hs_01, true_and, and_true, true_imp_iff, false_imp_iff, not_true_eq_false, not_false_eq_true, hs_av, hs_ai, hs_ar, hs_an, hs_aj, hs_ci, hs_cr, hs_cn, hs_cj, hs_cd, hs_cf, hs_q0, hs_q1, reduceIte, Nat.reduceEqDiff, Nat.reduceAdd, Nat.reduceLT, eq_self, List.getElem?_cons_zero, List.getElem?_cons_succ, List.set_cons_zero, List.set_cons_succ, List.length_cons, List.length_nil, Option.toList_some, Option.toList_none, List.cons_append, List.nil_append, Nat.zero_add, Nat.add_zero, List.map_nil, List.sum_nil, List.map_cons, List.sum_cons, Nat.zero_le, hs_set1, lm_I1, lm_I2, lm_I3, lm_I4, lm_J1, lm_J2, lm_J3, lm_J4, lm_N1, lm_N2, lm_N3, lm_N4, lm_T1, lm_T2, lm_T3, lm_T4, Int32.reduceLE, Int32.reduceLT, qw9.f0, qw9.a0, qw9.a3, qw9.a4, qw9.a5, hlt, hcj]
          refine ⟨by first | with_reducible assumption | ((with_reducible refine vp_in_nI ?_ ?_) <;> omega) | with_reducible exact hcur _ | with_reducible exact hho _ | with_reducible exact hta _ | with_reducible exact hbp _ | with_reducible exact hbe _, ?_⟩
          refine ⟨fun c2 => ?_, fun c2 => ?_⟩
          · skip
            refine hl_seg B okX8_isBalanced (fun q => nomatch q) 36 1000 rfl ?_
            simp only [pX8_isBalanced, List.drop_zero, List.drop_succ_cons, hl_wp, hs_ii, hs_i1, hs_ll, hs_l1, hs_ff, hs_g1, hs_dd, hs_d1, hs_r1, hs_rv, hs_rv0, hs_n1, hs_n0, hs_v1i, hs_v1r, hs_a1, hs_d2l, hs_d2i, hs_ri, hs_rl, hs_rg, hs_rd8, hs_rr, hs_rn, hs_ov, hs_gf, hs_po, hs_pfi, hs_pfr, hs_ia, hs_la, hs_da, hs_qa, hs_al, hs_is, hs_ls, hs_ds, hs_iso, hs_lso, hs_dso, hs_rd, hs_f1, hs_f10, hs_f2, hs_f20, hs_in0, hs_in1, hs_lt, hs_le, hs_ge, hs_gt, hs_eq, hs_10, hs_00, hs_01, true_and, and_true, true_imp_iff, false_imp_iff, not_true_eq_false, not_false_eq_true, hs_av, hs_ai, hs_ar, hs_an, hs_aj, hs_ci, hs_cr, hs_cn, hs_cj, hs_cd, hs_cf, hs_q0, hs_q1, reduceIte, Nat.reduceEqDiff, Nat.reduceAdd, Nat.reduceLT, eq_self, List.getElem?_cons_zero, List.getElem?_cons_succ, List.set_cons_zero, List.set_cons_succ, List.length_cons, List.length_nil, Option.toList_some, Option.toList_none, List.cons_append, List.nil_append, Nat.zero_add, Nat.add_zero, List.map_nil, List.sum_nil, List.map_cons, List.sum_cons, Nat.zero_le, hs_set1, lm_I1, lm_I2, lm_I3, lm_I4, lm_J1, lm_J2, lm_J3, lm_J4, lm_N1, lm_N2, lm_N3, lm_N4, lm_T1, lm_T2, lm_T3, lm_T4, Int32.reduceLE, Int32.reduceLT, qw9.f0, qw9.a0, qw9.a3, qw9.a4, qw9.a5, hlt, hcj]
            have hcs : nI j + 1 = nI (j + 1) := nI_1 j
            simp only [hcs]
            have e1 := ih2 (j + 1) (by omega)
            simp only [md_bsum, if_neg c2] at e1
            exact e1
          · skip
            refine ⟨by first | with_reducible assumption | ((with_reducible refine vp_in_nI ?_ ?_) <;> omega) | with_reducible exact hcur _ | with_reducible exact hho _ | with_reducible exact hta _ | with_reducible exact hbp _ | with_reducible exact hbe _, ?_⟩
            refine hl_seg B okX8_isBalanced (fun q => nomatch q) 37 1000 rfl ?_
            simp only [pX8_isBalanced, List.drop_zero, List.drop_succ_cons, hl_wp, hs_ii, hs_i1, hs_ll, hs_l1, hs_ff, hs_g1, hs_dd, hs_d1, hs_r1, hs_rv, hs_rv0, hs_n1, hs_n0, hs_v1i, hs_v1r, hs_a1, hs_d2l, hs_d2i, hs_ri, hs_rl, hs_rg, hs_rd8, hs_rr, hs_rn, hs_ov, hs_gf, hs_po, hs_pfi, hs_pfr, hs_ia, hs_la, hs_da, hs_qa, hs_al, hs_is, hs_ls, hs_ds, hs_iso, hs_lso, hs_dso, hs_rd, hs_f1, hs_f10, hs_f2, hs_f20, hs_in0, hs_in1, hs_lt, hs_le, hs_ge, hs_gt, hs_eq, hs_10, hs_00, hs_01, true_and, and_true, true_imp_iff, false_imp_iff, not_true_eq_false, not_false_eq_true, hs_av, hs_ai, hs_ar, hs_an, hs_aj, hs_ci, hs_cr, hs_cn, hs_cj, hs_cd, hs_cf, hs_q0, hs_q1, reduceIte, Nat.reduceEqDiff, Nat.reduceAdd, Nat.reduceLT, eq_self, List.getElem?_cons_zero, List.getElem?_cons_succ, List.set_cons_zero, List.set_cons_succ, List.length_cons, List.length_nil, Option.toList_some, Option.toList_none, List.cons_append, List.nil_append, Nat.zero_add, Nat.add_zero, List.map_nil, List.sum_nil, List.map_cons, List.sum_cons, Nat.zero_le, hs_set1, lm_I1, lm_I2, lm_I3, lm_I4, lm_J1, lm_J2, lm_J3, lm_J4, lm_N1, lm_N2, lm_N3, lm_N4, lm_T1, lm_T2, lm_T3, lm_T4, Int32.reduceLE, Int32.reduceLT, qw9.f0, qw9.a0, qw9.a3, qw9.a4, qw9.a5, hlt, hcj]
            have hcs : nI j + 1 = nI (j + 1) := nI_1 j
            simp only [hcs]
            have e1 := ih2 (j + 1) (by omega)
            simp only [md_bsum, if_pos c2] at e1
            exact e1
      refine hl_seg B okX8_isBalanced (fun q => nomatch q) 5 15 rfl ?_
      simp only [pX8_isBalanced, List.drop_zero, List.drop_succ_cons, hl_wp, hs_ii, hs_i1, hs_ll, hs_l1, hs_ff, hs_g1, hs_dd, hs_d1, hs_r1, hs_rv, hs_rv0, hs_n1, hs_n0, hs_v1i, hs_v1r, hs_a1, hs_d2l, hs_d2i, hs_ri, hs_rl, hs_rg, hs_rd8, hs_rr, hs_rn, hs_ov, hs_gf, hs_po, hs_pfi, hs_pfr, hs_ia, hs_la, hs_da, hs_qa, hs_al, hs_is, hs_ls, hs_ds, hs_iso, hs_lso, hs_dso, hs_rd, hs_f1, hs_f10, hs_f2, hs_f20, hs_in0, hs_in1, hs_lt, hs_le, hs_ge, hs_gt, hs_eq, hs_10, hs_00, hs_01, true_and, and_true, true_imp_iff, false_imp_iff, not_true_eq_false, not_false_eq_true, hs_av, hs_ai, hs_ar, hs_an, hs_aj, hs_ci, hs_cr, hs_cn, hs_cj, hs_cd, hs_cf, hs_q0, hs_q1, reduceIte, Nat.reduceEqDiff, Nat.reduceAdd, Nat.reduceLT, eq_self, List.getElem?_cons_zero, List.getElem?_cons_succ, List.set_cons_zero, List.set_cons_succ, List.length_cons, List.length_nil, Option.toList_some, Option.toList_none, List.cons_append, List.nil_append, Nat.zero_add, Nat.add_zero, List.map_nil, List.sum_nil, List.map_cons, List.sum_cons, Nat.zero_le, hs_set1, lm_I1, lm_I2, lm_I3, lm_I4, lm_J1, lm_J2, lm_J3, lm_J4, lm_N1, lm_N2, lm_N3, lm_N4, lm_T1, lm_T2, lm_T3, lm_T4, Int32.reduceLE, Int32.reduceLT, qw9.f0, qw9.a0, qw9.a3, qw9.a4, qw9.a5, hlt, hcl]
      refine ⟨by first | with_reducible assumption | ((with_reducible refine vp_in_nI ?_ ?_) <;> omega) | with_reducible exact hcur _ | with_reducible exact hho _ | with_reducible exact hta _ | with_reducible exact hbp _ | with_reducible exact hbe _, ?_⟩
      refine ⟨by first | with_reducible assumption | ((with_reducible refine vp_in_nI ?_ ?_) <;> omega) | with_reducible exact hcur _ | with_reducible exact hho _ | with_reducible exact hta _ | with_reducible exact hbp _ | with_reducible exact hbe _, ?_⟩
      exact loop2 (μ.2.2.1 0) 0 (Nat.zero_add _)
  refine hl_seg B okX8_isBalanced (fun q => nomatch q) 0 3 rfl ?_
  simp only [pX8_isBalanced, List.drop_zero, List.drop_succ_cons, hl_wp, hs_ii, hs_i1, hs_ll, hs_l1, hs_ff, hs_g1, hs_dd, hs_d1, hs_r1, hs_rv, hs_rv0, hs_n1, hs_n0, hs_v1i, hs_v1r, hs_a1, hs_d2l, hs_d2i, hs_ri, hs_rl, hs_rg, hs_rd8, hs_rr, hs_rn, hs_ov, hs_gf, hs_po, hs_pfi, hs_pfr, hs_ia, hs_la, hs_da, hs_qa, hs_al, hs_is, hs_ls, hs_ds, hs_iso, hs_lso, hs_dso, hs_rd, hs_f1, hs_f10, hs_f2, hs_f20, hs_in0, hs_in1, hs_lt, hs_le, hs_ge, hs_gt, hs_eq, hs_10, hs_00, hs_01, true_and, and_true, true_imp_iff, false_imp_iff, not_true_eq_false, not_false_eq_true, hs_av, hs_ai, hs_ar, hs_an, hs_aj, hs_ci, hs_cr, hs_cn, hs_cj, hs_cd, hs_cf, hs_q0, hs_q1, reduceIte, Nat.reduceEqDiff, Nat.reduceAdd, Nat.reduceLT, eq_self, List.getElem?_cons_zero, List.getElem?_cons_succ, List.set_cons_zero, List.set_cons_succ, List.length_cons, List.length_nil, Option.toList_some, Option.toList_none, List.cons_append, List.nil_append, Nat.zero_add, Nat.add_zero, List.map_nil, List.sum_nil, List.map_cons, List.sum_cons, Nat.zero_le, hs_set1, lm_I1, lm_I2, lm_I3, lm_I4, lm_J1, lm_J2, lm_J3, lm_J4, lm_N1, lm_N2, lm_N3, lm_N4, lm_T1, lm_T2, lm_T3, lm_T4, Int32.reduceLE, Int32.reduceLT, qw.f0, qw.a0, qw.a3, qw.a4, qw.a5]
  refine hl_st (w.sT _) (fun gw3 w3 => ?_)
  have qw3 := w3.1
  refine hl_seg B okX8_isBalanced (fun q => nomatch q) 3 2 rfl ?_
  simp only [pX8_isBalanced, List.drop_zero, List.drop_succ_cons, hl_wp, hs_ii, hs_i1, hs_ll, hs_l1, hs_ff, hs_g1, hs_dd, hs_d1, hs_r1, hs_rv, hs_rv0, hs_n1, hs_n0, hs_v1i, hs_v1r, hs_a1, hs_d2l, hs_d2i, hs_ri, hs_rl, hs_rg, hs_rd8, hs_rr, hs_rn, hs_ov, hs_gf, hs_po, hs_pfi, hs_pfr, hs_ia, hs_la, hs_da, hs_qa, hs_al, hs_is, hs_ls, hs_ds, hs_iso, hs_lso, hs_dso, hs_rd, hs_f1, hs_f10, hs_f2, hs_f20, hs_in0, hs_in1, hs_lt, hs_le, hs_ge, hs_gt, hs_eq, hs_10, hs_00, hs_01, true_and, and_true, true_imp_iff, false_imp_iff, not_true_eq_false, not_false_eq_true, hs_av, hs_ai, hs_ar, hs_an, hs_aj, hs_ci, hs_cr, hs_cn, hs_cj, hs_cd, hs_cf, hs_q0, hs_q1, reduceIte, Nat.reduceEqDiff, Nat.reduceAdd, Nat.reduceLT, eq_self, List.getElem?_cons_zero, List.getElem?_cons_succ, List.set_cons_zero, List.set_cons_succ, List.length_cons, List.length_nil, Option.toList_some, Option.toList_none, List.cons_append, List.nil_append, Nat.zero_add, Nat.add_zero, List.map_nil, List.sum_nil, List.map_cons, List.sum_cons, Nat.zero_le, hs_set1, lm_I1, lm_I2, lm_I3, lm_I4, lm_J1, lm_J2, lm_J3, lm_J4, lm_N1, lm_N2, lm_N3, lm_N4, lm_T1, lm_T2, lm_T3, lm_T4, Int32.reduceLE, Int32.reduceLT, qw3.f0, qw3.a0, qw3.a3, qw3.a4, qw3.a5]
  exact loop 4 0 _ rfl w3 rfl
def md_rc (μ : LMt) (n : Nat) : Nat := ls_cnt (fun i => decide (¬ μ.1 13 i < 0)) n
def md_ps (μ : LMt) (n : Nat) : Int64 := ls_sum (fun i => (μ.1 10 i).toInt64) n
def md_reversedShare (μ : LMt) : MRes := (if nI (μ.2.2.1 1) ≤ 0 then (lm_T μ 1, .float FP.fconst0) else (lm_T μ 0, .float (FP.fdiv (FP.i2f (nI (md_rc μ (μ.2.2.1 1)))) (FP.i2f (nI (μ.2.2.1 1))))))
set_option maxRecDepth 20000 in
set_option maxHeartbeats 2000000 in
theorem cr_reversedShare {G : hl_G} {l : Launch} {b : Nat → Nat} {μ : LMt} {h0 : hl_H} (hM : MInv μ) (hfp : ¬ nI (μ.2.2.1 1) ≤ 0 → vf_n32 (FP.fdiv (FP.i2f (nI (md_rc μ (μ.2.2.1 1)))) (FP.i2f (nI (μ.2.2.1 1))))) :
    hl_Ct G l mX8_reversedShare 6 0 0 [.ref (b 0)] (LMw b μ h0) (md_Q b h0 (md_reversedShare μ)) (fun _ _ => False) := by
  refine hl_body (by decide +kernel) (Nat.le_of_ble_eq_true rfl) ?_
  intro p e s m args below meth c B g hg
  have qw := hg.1
  have w := hg
  obtain ⟨hb0, hb1, hb2, hb3, hb4, hcur, hrat, hpr, hpe, hpp, hho, hta, hbp, hbe⟩ := id hM
  have loop : ∀ (k9 i : Nat) (g9 : hl_H), i + k9 = μ.2.2.1 1 → (LMw b (lm_T μ 0) h0 g9) → (¬ nI (μ.2.2.1 1) ≤ 0) → hl_GM G mX8_reversedShare 6 0 0 (md_Q b h0 (md_reversedShare μ)) (fun _ _ => False) p l e s m args below meth c 25 [(0, .ref (b 0)), (1, .int (nI (md_rc μ i))), (2, .int (nI i))] [] g9 0 0 := by
    intro k9
    induction k9 with
    | zero =>
      intro i g9  hi w9 hm0
      have hle : nI (μ.2.2.1 1) ≤ nI i := nI_le (by omega) (by have := hb1; omega)
      have qw9 := w9.1
      have hie : i = μ.2.2.1 1 := by omega
      subst hie
      refine hl_seg B okX8_reversedShare (fun q => nomatch q) 15 1000 rfl ?_
      simp only [pX8_reversedShare, List.drop_zero, List.drop_succ_cons, hl_wp, hs_ii, hs_i1, hs_ll, hs_l1, hs_ff, hs_g1, hs_dd, hs_d1, hs_r1, hs_rv, hs_rv0, hs_n1, hs_n0, hs_v1i, hs_v1r, hs_a1, hs_d2l, hs_d2i, hs_ri, hs_rl, hs_rg, hs_rd8, hs_rr, hs_rn, hs_ov, hs_gf, hs_po, hs_pfi, hs_pfr, hs_ia, hs_la, hs_da, hs_qa, hs_al, hs_is, hs_ls, hs_ds, hs_iso, hs_lso, hs_dso, hs_rd, hs_f1, hs_f10, hs_f2, hs_f20, hs_in0, hs_in1, hs_lt, hs_le, hs_ge, hs_gt, hs_eq, hs_10, hs_00, hs_01, true_and, and_true, true_imp_iff, false_imp_iff, not_true_eq_false, not_false_eq_true, hs_av, hs_ai, hs_ar, hs_an, hs_aj, hs_ci, hs_cr, hs_cn, hs_cj, hs_cd, hs_cf, hs_q0, hs_q1, reduceIte, Nat.reduceEqDiff, Nat.reduceAdd, Nat.reduceLT, eq_self, List.getElem?_cons_zero, List.getElem?_cons_succ, List.set_cons_zero, List.set_cons_succ, List.length_cons, List.length_nil, Option.toList_some, Option.toList_none, List.cons_append, List.nil_append, Nat.zero_add, Nat.add_zero, List.map_nil, List.sum_nil, List.map_cons, List.sum_cons, Nat.zero_le, hs_set1, lm_I1, lm_I2, lm_I3, lm_I4, lm_J1, lm_J2, lm_J3, lm_J4, lm_N1, lm_N2, lm_N3, lm_N4, lm_T1, lm_T2, lm_T3, lm_T4, Int32.reduceLE, Int32.reduceLT, qw9.f0, qw9.a13, hle]
      refine hl_seg B okX8_reversedShare (fun q => nomatch q) 32 1000 rfl ?_
      simp only [pX8_reversedShare, List.drop_zero, List.drop_succ_cons, hl_wp, hs_ii, hs_i1, hs_ll, hs_l1, hs_ff, hs_g1, hs_dd, hs_d1, hs_r1, hs_rv, hs_rv0, hs_n1, hs_n0, hs_v1i, hs_v1r, hs_a1, hs_d2l, hs_d2i, hs_ri, hs_rl, hs_rg, hs_rd8, hs_rr, hs_rn, hs_ov, hs_gf, hs_po, hs_pfi, hs_pfr, hs_ia, hs_la, hs_da, hs_qa, hs_al, hs_is, hs_ls, hs_ds, hs_iso, hs_lso, hs_dso, hs_rd, hs_f1, hs_f10, hs_f2, hs_f20, hs_in0, hs_in1, hs_lt, hs_le, hs_ge, hs_gt, hs_eq, hs_10, hs_00, hs_01, true_and, and_true, true_imp_iff, false_imp_iff, not_true_eq_false, not_false_eq_true, hs_av, hs_ai, hs_ar, hs_an, hs_aj, hs_ci, hs_cr, hs_cn, hs_cj, hs_cd, hs_cf, hs_q0, hs_q1, reduceIte, Nat.reduceEqDiff, Nat.reduceAdd, Nat.reduceLT, eq_self, List.getElem?_cons_zero, List.getElem?_cons_succ, List.set_cons_zero, List.set_cons_succ, List.length_cons, List.length_nil, Option.toList_some, Option.toList_none, List.cons_append, List.nil_append, Nat.zero_add, Nat.add_zero, List.map_nil, List.sum_nil, List.map_cons, List.sum_cons, Nat.zero_le, hs_set1, lm_I1, lm_I2, lm_I3, lm_I4, lm_J1, lm_J2, lm_J3, lm_J4, lm_N1, lm_N2, lm_N3, lm_N4, lm_T1, lm_T2, lm_T3, lm_T4, Int32.reduceLE, Int32.reduceLT, qw9.f0, qw9.a13, hle]
      refine ⟨hfp hm0, ?_⟩
      exact hl_fret B rfl (hl_dec okX8_reversedShare 38 rfl) (by decide) (by decide) (md_ok (by simp only [md_reversedShare, if_neg hm0]) w9)
    | succ k9 ih =>
      intro i g9  hi w9 hm0
      have hlt : ¬ nI (μ.2.2.1 1) ≤ nI i := nI_ge (by omega) (by have := hb1; omega)
      have qw9 := w9.1
      have hcl : (nI i).toNatClampNeg = i := nI_clamp (by omega)
      refine hl_seg B okX8_reversedShare (fun q => nomatch q) 15 1000 rfl ?_
      simp only [pX8_reversedShare, List.drop_zero, List.drop_succ_cons, hl_wp, hs_ii, hs_i1, hs_ll, hs_l1, hs_ff, hs_g1, hs_dd, hs_d1, hs_r1, hs_rv, hs_rv0, hs_n1, hs_n0, hs_v1i, hs_v1r, hs_a1, hs_d2l, hs_d2i, hs_ri, hs_rl, hs_rg, hs_rd8, hs_rr, hs_rn, hs_ov, hs_gf, hs_po, hs_pfi, hs_pfr, hs_ia, hs_la, hs_da, hs_qa, hs_al, hs_is, hs_ls, hs_ds, hs_iso, hs_lso, hs_dso, hs_rd, hs_f1, hs_f10, hs_f2, hs_f20, hs_in0, hs_in1, hs_lt, hs_le, hs_ge, hs_gt, hs_eq, hs_10, hs_00, hs_01, true_and, and_true, true_imp_iff, false_imp_iff, not_true_eq_false, not_false_eq_true, hs_av, hs_ai, hs_ar, hs_an, hs_aj, hs_ci, hs_cr, hs_cn, hs_cj, hs_cd, hs_cf, hs_q0, hs_q1, reduceIte, Nat.reduceEqDiff, Nat.reduceAdd, Nat.reduceLT, eq_self, List.getElem?_cons_zero, List.getElem?_cons_succ, List.set_cons_zero, List.set_cons_succ, List.length_cons, List.length_nil, Option.toList_some, Option.toList_none, List.cons_append, List.nil_append, Nat.zero_add, Nat.add_zero, List.map_nil, List.sum_nil, List.map_cons, List.sum_cons, Nat.zero_le, hs_set1, lm_I1, lm_I2, lm_I3, lm_I4, lm_J1, lm_J2, lm_J3, lm_J4, lm_N1, lm_N2, lm_N3, lm_N4, lm_T1, lm_T2, lm_T3, lm_T4, Int32.reduceLE, Int32.reduceLT, qw9.f0, qw9.a13, hlt, hcl, Int32.add_zero]
      refine ⟨by first | with_reducible assumption | ((with_reducible refine vp_in_nI ?_ ?_) <;> omega) | with_reducible exact hcur _ | with_reducible exact hho _ | with_reducible exact hta _ | with_reducible exact hbp _ | with_reducible exact hbe _, ?_⟩
      refine ⟨fun c1 => ?_, fun c1 => ?_⟩
      · skip
        refine hl_seg B okX8_reversedShare (fun q => nomatch q) 27 1000 rfl ?_
        simp only [pX8_reversedShare, List.drop_zero, List.drop_succ_cons, hl_wp, hs_ii, hs_i1, hs_ll, hs_l1, hs_ff, hs_g1, hs_dd, hs_d1, hs_r1, hs_rv, hs_rv0, hs_n1, hs_n0, hs_v1i, hs_v1r, hs_a1, hs_d2l, hs_d2i, hs_ri, hs_rl, hs_rg, hs_rd8, hs_rr, hs_rn, hs_ov, hs_gf, hs_po, hs_pfi, hs_pfr, hs_ia, hs_la, hs_da, hs_qa, hs_al, hs_is, hs_ls, hs_ds, hs_iso, hs_lso, hs_dso, hs_rd, hs_f1, hs_f10, hs_f2, hs_f20, hs_in0, hs_in1, hs_lt, hs_le, hs_ge, hs_gt, hs_eq, hs_10, hs_00, hs_01, true_and, and_true, true_imp_iff, false_imp_iff, not_true_eq_false, not_false_eq_true, hs_av, hs_ai, hs_ar, hs_an, hs_aj, hs_ci, hs_cr, hs_cn, hs_cj, hs_cd, hs_cf, hs_q0, hs_q1, reduceIte, Nat.reduceEqDiff, Nat.reduceAdd, Nat.reduceLT, eq_self, List.getElem?_cons_zero, List.getElem?_cons_succ, List.set_cons_zero, List.set_cons_succ, List.length_cons, List.length_nil, Option.toList_some, Option.toList_none, List.cons_append, List.nil_append, Nat.zero_add, Nat.add_zero, List.map_nil, List.sum_nil, List.map_cons, List.sum_cons, Nat.zero_le, hs_set1, lm_I1, lm_I2, lm_I3, lm_I4, lm_J1, lm_J2, lm_J3, lm_J4, lm_N1, lm_N2, lm_N3, lm_N4, lm_T1, lm_T2, lm_T3, lm_T4, Int32.reduceLE, Int32.reduceLT, qw9.f0, qw9.a13, hlt, hcl, Int32.add_zero]
        have hcs : nI i + 1 = nI (i + 1) := nI_1 i
        simp only [hcs]
        have e1 := ih (i + 1) _ (by omega) w9 hm0
        simp only [md_rc, ls_cnt, decide_eq_true_eq, if_neg (not_not_intro c1)] at e1
        simp only [md_rc, nI_1]
        exact e1
      · skip
        refine hl_seg B okX8_reversedShare (fun q => nomatch q) 28 1000 rfl ?_
        simp only [pX8_reversedShare, List.drop_zero, List.drop_succ_cons, hl_wp, hs_ii, hs_i1, hs_ll, hs_l1, hs_ff, hs_g1, hs_dd, hs_d1, hs_r1, hs_rv, hs_rv0, hs_n1, hs_n0, hs_v1i, hs_v1r, hs_a1, hs_d2l, hs_d2i, hs_ri, hs_rl, hs_rg, hs_rd8, hs_rr, hs_rn, hs_ov, hs_gf, hs_po, hs_pfi, hs_pfr, hs_ia, hs_la, hs_da, hs_qa, hs_al, hs_is, hs_ls, hs_ds, hs_iso, hs_lso, hs_dso, hs_rd, hs_f1, hs_f10, hs_f2, hs_f20, hs_in0, hs_in1, hs_lt, hs_le, hs_ge, hs_gt, hs_eq, hs_10, hs_00, hs_01, true_and, and_true, true_imp_iff, false_imp_iff, not_true_eq_false, not_false_eq_true, hs_av, hs_ai, hs_ar, hs_an, hs_aj, hs_ci, hs_cr, hs_cn, hs_cj, hs_cd, hs_cf, hs_q0, hs_q1, reduceIte, Nat.reduceEqDiff, Nat.reduceAdd, Nat.reduceLT, eq_self, List.getElem?_cons_zero, List.getElem?_cons_succ, List.set_cons_zero, List.set_cons_succ, List.length_cons, List.length_nil, Option.toList_some, Option.toList_none, List.cons_append, List.nil_append, Nat.zero_add, Nat.add_zero, List.map_nil, List.sum_nil, List.map_cons, List.sum_cons, Nat.zero_le, hs_set1, lm_I1, lm_I2, lm_I3, lm_I4, lm_J1, lm_J2, lm_J3, lm_J4, lm_N1, lm_N2, lm_N3, lm_N4, lm_T1, lm_T2, lm_T3, lm_T4, Int32.reduceLE, Int32.reduceLT, qw9.f0, qw9.a13, hlt, hcl, Int32.add_zero]
        have hcs : nI i + 1 = nI (i + 1) := nI_1 i
        simp only [hcs]
        have e1 := ih (i + 1) _ (by omega) w9 hm0
        simp only [md_rc, ls_cnt, decide_eq_true_eq, if_pos c1] at e1
        simp only [md_rc, nI_1]
        exact e1
  refine hl_seg B okX8_reversedShare (fun q => nomatch q) 0 15 rfl ?_
  simp only [pX8_reversedShare, List.drop_zero, List.drop_succ_cons, hl_wp, hs_ii, hs_i1, hs_ll, hs_l1, hs_ff, hs_g1, hs_dd, hs_d1, hs_r1, hs_rv, hs_rv0, hs_n1, hs_n0, hs_v1i, hs_v1r, hs_a1, hs_d2l, hs_d2i, hs_ri, hs_rl, hs_rg, hs_rd8, hs_rr, hs_rn, hs_ov, hs_gf, hs_po, hs_pfi, hs_pfr, hs_ia, hs_la, hs_da, hs_qa, hs_al, hs_is, hs_ls, hs_ds, hs_iso, hs_lso, hs_dso, hs_rd, hs_f1, hs_f10, hs_f2, hs_f20, hs_in0, hs_in1, hs_lt, hs_le, hs_ge, hs_gt, hs_eq, hs_10, hs_00, hs_01, true_and, and_true, true_imp_iff, false_imp_iff, not_true_eq_false, not_false_eq_true, hs_av, hs_ai, hs_ar, hs_an, hs_aj, hs_ci, hs_cr, hs_cn, hs_cj, hs_cd, hs_cf, hs_q0, hs_q1, reduceIte, Nat.reduceEqDiff, Nat.reduceAdd, Nat.reduceLT, eq_self, List.getElem?_cons_zero, List.getElem?_cons_succ, List.set_cons_zero, List.set_cons_succ, List.length_cons, List.length_nil, Option.toList_some, Option.toList_none, List.cons_append, List.nil_append, Nat.zero_add, Nat.add_zero, List.map_nil, List.sum_nil, List.map_cons, List.sum_cons, Nat.zero_le, hs_set1, lm_I1, lm_I2, lm_I3, lm_I4, lm_J1, lm_J2, lm_J3, lm_J4, lm_N1, lm_N2, lm_N3, lm_N4, lm_T1, lm_T2, lm_T3, lm_T4, Int32.reduceLE, Int32.reduceLT, qw.f0, qw.a13]
  refine ⟨fun c2 => ?_, fun c2 => ?_⟩
  · skip
    refine hl_seg B okX8_reversedShare (fun q => nomatch q) 6 9 rfl ?_
    simp only [pX8_reversedShare, List.drop_zero, List.drop_succ_cons, hl_wp, hs_ii, hs_i1, hs_ll, hs_l1, hs_ff, hs_g1, hs_dd, hs_d1, hs_r1, hs_rv, hs_rv0, hs_n1, hs_n0, hs_v1i, hs_v1r, hs_a1, hs_d2l, hs_d2i, hs_ri, hs_rl, hs_rg, hs_rd8, hs_rr, hs_rn, hs_ov, hs_gf, hs_po, hs_pfi, hs_pfr, hs_ia, hs_la, hs_da, hs_qa, hs_al, hs_is, hs_ls, hs_ds, hs_iso, hs_lso, hs_dso, hs_rd, hs_f1, hs_f10, hs_f2, hs_f20, hs_in0, hs_in1, hs_lt, hs_le, hs_ge, hs_gt, hs_eq, hs_10, hs_00, hs_01, true_and, and_true, true_imp_iff, false_imp_iff, not_true_eq_false, not_false_eq_true, hs_av, hs_ai, hs_ar, hs_an, hs_aj, hs_ci, hs_cr, hs_cn, hs_cj, hs_cd, hs_cf, hs_q0, hs_q1, reduceIte, Nat.reduceEqDiff, Nat.reduceAdd, Nat.reduceLT, eq_self, List.getElem?_cons_zero, List.getElem?_cons_succ, List.set_cons_zero, List.set_cons_succ, List.length_cons, List.length_nil, Option.toList_some, Option.toList_none, List.cons_append, List.nil_append, Nat.zero_add, Nat.add_zero, List.map_nil, List.sum_nil, List.map_cons, List.sum_cons, Nat.zero_le, hs_set1, lm_I1, lm_I2, lm_I3, lm_I4, lm_J1, lm_J2, lm_J3, lm_J4, lm_N1, lm_N2, lm_N3, lm_N4, lm_T1, lm_T2, lm_T3, lm_T4, Int32.reduceLE, Int32.reduceLT, qw.f0, qw.a13]
    refine hl_callV B (As := [.int _]) (cr_checked0) mtX8_checked (hl_dec okX8_reversedShare 7 rfl) (kk := 1095) (by decide +kernel) rfl rfl (qw.f0) rfl (Nat.le_of_ble_eq_true rfl) (by decide) (by decide) (by decide) (by decide) w (fun r9 h9 hq => ?_) (fun _ _ hx => hx.elim)
    obtain ⟨rfl, w3⟩ := hq
    have qw3 := w3.1
    refine hl_seg B okX8_reversedShare (fun q => nomatch q) 8 7 rfl ?_
    simp only [pX8_reversedShare, List.drop_zero, List.drop_succ_cons, hl_wp, hs_ii, hs_i1, hs_ll, hs_l1, hs_ff, hs_g1, hs_dd, hs_d1, hs_r1, hs_rv, hs_rv0, hs_n1, hs_n0, hs_v1i, hs_v1r, hs_a1, hs_d2l, hs_d2i, hs_ri, hs_rl, hs_rg, hs_rd8, hs_rr, hs_rn, hs_ov, hs_gf, hs_po, hs_pfi, hs_pfr, hs_ia, hs_la, hs_da, hs_qa, hs_al, hs_is, hs_ls, hs_ds, hs_iso, hs_lso, hs_dso, hs_rd, hs_f1, hs_f10, hs_f2, hs_f20, hs_in0, hs_in1, hs_lt, hs_le, hs_ge, hs_gt, hs_eq, hs_10, hs_00, hs_01, true_and, and_true, true_imp_iff, false_imp_iff, not_true_eq_false, not_false_eq_true, hs_av, hs_ai, hs_ar, hs_an, hs_aj, hs_ci, hs_cr, hs_cn, hs_cj, hs_cd, hs_cf, hs_q0, hs_q1, reduceIte, Nat.reduceEqDiff, Nat.reduceAdd, Nat.reduceLT, eq_self, List.getElem?_cons_zero, List.getElem?_cons_succ, List.set_cons_zero, List.set_cons_succ, List.length_cons, List.length_nil, Option.toList_some, Option.toList_none, List.cons_append, List.nil_append, Nat.zero_add, Nat.add_zero, List.map_nil, List.sum_nil, List.map_cons, List.sum_cons, Nat.zero_le, hs_set1, lm_I1, lm_I2, lm_I3, lm_I4, lm_J1, lm_J2, lm_J3, lm_J4, lm_N1, lm_N2, lm_N3, lm_N4, lm_T1, lm_T2, lm_T3, lm_T4, Int32.reduceLE, Int32.reduceLT, qw3.f0, qw3.a13]
    exact hl_fret B rfl (hl_dec okX8_reversedShare 10 rfl) (by decide) (by decide) (md_ok (by simp only [md_reversedShare, if_pos c2]; try rfl) w3)
  · skip
    refine hl_seg B okX8_reversedShare (fun q => nomatch q) 7 8 rfl ?_
    simp only [pX8_reversedShare, List.drop_zero, List.drop_succ_cons, hl_wp, hs_ii, hs_i1, hs_ll, hs_l1, hs_ff, hs_g1, hs_dd, hs_d1, hs_r1, hs_rv, hs_rv0, hs_n1, hs_n0, hs_v1i, hs_v1r, hs_a1, hs_d2l, hs_d2i, hs_ri, hs_rl, hs_rg, hs_rd8, hs_rr, hs_rn, hs_ov, hs_gf, hs_po, hs_pfi, hs_pfr, hs_ia, hs_la, hs_da, hs_qa, hs_al, hs_is, hs_ls, hs_ds, hs_iso, hs_lso, hs_dso, hs_rd, hs_f1, hs_f10, hs_f2, hs_f20, hs_in0, hs_in1, hs_lt, hs_le, hs_ge, hs_gt, hs_eq, hs_10, hs_00, hs_01, true_and, and_true, true_imp_iff, false_imp_iff, not_true_eq_false, not_false_eq_true, hs_av, hs_ai, hs_ar, hs_an, hs_aj, hs_ci, hs_cr, hs_cn, hs_cj, hs_cd, hs_cf, hs_q0, hs_q1, reduceIte, Nat.reduceEqDiff, Nat.reduceAdd, Nat.reduceLT, eq_self, List.getElem?_cons_zero, List.getElem?_cons_succ, List.set_cons_zero, List.set_cons_succ, List.length_cons, List.length_nil, Option.toList_some, Option.toList_none, List.cons_append, List.nil_append, Nat.zero_add, Nat.add_zero, List.map_nil, List.sum_nil, List.map_cons, List.sum_cons, Nat.zero_le, hs_set1, lm_I1, lm_I2, lm_I3, lm_I4, lm_J1, lm_J2, lm_J3, lm_J4, lm_N1, lm_N2, lm_N3, lm_N4, lm_T1, lm_T2, lm_T3, lm_T4, Int32.reduceLE, Int32.reduceLT, qw.f0, qw.a13]
    refine hl_callV B (As := [.int _]) (cr_checked1) mtX8_checked (hl_dec okX8_reversedShare 7 rfl) (kk := 1095) (by decide +kernel) rfl rfl (qw.f0) rfl (Nat.le_of_ble_eq_true rfl) (by decide) (by decide) (by decide) (by decide) w (fun r9 h9 hq => ?_) (fun _ _ hx => hx.elim)
    obtain ⟨rfl, w4⟩ := hq
    have qw4 := w4.1
    refine hl_seg B okX8_reversedShare (fun q => nomatch q) 8 7 rfl ?_
    simp only [pX8_reversedShare, List.drop_zero, List.drop_succ_cons, hl_wp, hs_ii, hs_i1, hs_ll, hs_l1, hs_ff, hs_g1, hs_dd, hs_d1, hs_r1, hs_rv, hs_rv0, hs_n1, hs_n0, hs_v1i, hs_v1r, hs_a1, hs_d2l, hs_d2i, hs_ri, hs_rl, hs_rg, hs_rd8, hs_rr, hs_rn, hs_ov, hs_gf, hs_po, hs_pfi, hs_pfr, hs_ia, hs_la, hs_da, hs_qa, hs_al, hs_is, hs_ls, hs_ds, hs_iso, hs_lso, hs_dso, hs_rd, hs_f1, hs_f10, hs_f2, hs_f20, hs_in0, hs_in1, hs_lt, hs_le, hs_ge, hs_gt, hs_eq, hs_10, hs_00, hs_01, true_and, and_true, true_imp_iff, false_imp_iff, not_true_eq_false, not_false_eq_true, hs_av, hs_ai, hs_ar, hs_an, hs_aj, hs_ci, hs_cr, hs_cn, hs_cj, hs_cd, hs_cf, hs_q0, hs_q1, reduceIte, Nat.reduceEqDiff, Nat.reduceAdd, Nat.reduceLT, eq_self, List.getElem?_cons_zero, List.getElem?_cons_succ, List.set_cons_zero, List.set_cons_succ, List.length_cons, List.length_nil, Option.toList_some, Option.toList_none, List.cons_append, List.nil_append, Nat.zero_add, Nat.add_zero, List.map_nil, List.sum_nil, List.map_cons, List.sum_cons, Nat.zero_le, hs_set1, lm_I1, lm_I2, lm_I3, lm_I4, lm_J1, lm_J2, lm_J3, lm_J4, lm_N1, lm_N2, lm_N3, lm_N4, lm_T1, lm_T2, lm_T3, lm_T4, Int32.reduceLE, Int32.reduceLT, qw4.f0, qw4.a13]
    refine hl_seg B okX8_reversedShare (fun q => nomatch q) 11 4 rfl ?_
    simp only [pX8_reversedShare, List.drop_zero, List.drop_succ_cons, hl_wp, hs_ii, hs_i1, hs_ll, hs_l1, hs_ff, hs_g1, hs_dd, hs_d1, hs_r1, hs_rv, hs_rv0, hs_n1, hs_n0, hs_v1i, hs_v1r, hs_a1, hs_d2l, hs_d2i, hs_ri, hs_rl, hs_rg, hs_rd8, hs_rr, hs_rn, hs_ov, hs_gf, hs_po, hs_pfi, hs_pfr, hs_ia, hs_la, hs_da, hs_qa, hs_al, hs_is, hs_ls, hs_ds, hs_iso, hs_lso, hs_dso, hs_rd, hs_f1, hs_f10, hs_f2, hs_f20, hs_in0, hs_in1, hs_lt, hs_le, hs_ge, hs_gt, hs_eq, hs_10, hs_00, hs_01, true_and, and_true, true_imp_iff, false_imp_iff, not_true_eq_false, not_false_eq_true, hs_av, hs_ai, hs_ar, hs_an, hs_aj, hs_ci, hs_cr, hs_cn, hs_cj, hs_cd, hs_cf, hs_q0, hs_q1, reduceIte, Nat.reduceEqDiff, Nat.reduceAdd, Nat.reduceLT, eq_self, List.getElem?_cons_zero, List.getElem?_cons_succ, List.set_cons_zero, List.set_cons_succ, List.length_cons, List.length_nil, Option.toList_some, Option.toList_none, List.cons_append, List.nil_append, Nat.zero_add, Nat.add_zero, List.map_nil, List.sum_nil, List.map_cons, List.sum_cons, Nat.zero_le, hs_set1, lm_I1, lm_I2, lm_I3, lm_I4, lm_J1, lm_J2, lm_J3, lm_J4, lm_N1, lm_N2, lm_N3, lm_N4, lm_T1, lm_T2, lm_T3, lm_T4, Int32.reduceLE, Int32.reduceLT, qw4.f0, qw4.a13]
    exact loop (μ.2.2.1 1) 0 _ (Nat.zero_add _) w4 c2
def md_meanPaid (μ : LMt) : MRes := (if nI (μ.2.2.1 1) ≤ 0 then (lm_T μ 1, .double FP.dconst0) else (lm_T μ 0, .double (FP.ddiv (FP.l2d (md_ps μ (μ.2.2.1 1))) (FP.i2d (nI (μ.2.2.1 1))))))
set_option maxRecDepth 20000 in
set_option maxHeartbeats 2000000 in
theorem cr_meanPaid {G : hl_G} {l : Launch} {b : Nat → Nat} {μ : LMt} {h0 : hl_H} (hM : MInv μ) (hfp : ¬ nI (μ.2.2.1 1) ≤ 0 → vf_n64 (FP.ddiv (FP.l2d (md_ps μ (μ.2.2.1 1))) (FP.i2d (nI (μ.2.2.1 1))))) :
    hl_Ct G l mX8_meanPaid 6 0 0 [.ref (b 0)] (LMw b μ h0) (md_Q b h0 (md_meanPaid μ)) (fun _ _ => False) := by
  refine hl_body (by decide +kernel) (Nat.le_of_ble_eq_true rfl) ?_
  intro p e s m args below meth c B g hg
  have qw := hg.1
  have w := hg
  obtain ⟨hb0, hb1, hb2, hb3, hb4, hcur, hrat, hpr, hpe, hpp, hho, hta, hbp, hbe⟩ := id hM
  have loop : ∀ (k9 i : Nat) (g9 : hl_H), i + k9 = μ.2.2.1 1 → (LMw b (lm_T μ 0) h0 g9) → (¬ nI (μ.2.2.1 1) ≤ 0) → hl_GM G mX8_meanPaid 6 0 0 (md_Q b h0 (md_meanPaid μ)) (fun _ _ => False) p l e s m args below meth c 25 [(0, .ref (b 0)), (1, .long (md_ps μ i)), (3, .int (nI i))] [] g9 0 0 := by
    intro k9
    induction k9 with
    | zero =>
      intro i g9  hi w9 hm0
      have hle : nI (μ.2.2.1 1) ≤ nI i := nI_le (by omega) (by have := hb1; omega)
      have qw9 := w9.1
      have hie : i = μ.2.2.1 1 := by omega
      subst hie
      refine hl_seg B okX8_meanPaid (fun q => nomatch q) 15 1000 rfl ?_
      simp only [pX8_meanPaid, List.drop_zero, List.drop_succ_cons, hl_wp, hs_ii, hs_i1, hs_ll, hs_l1, hs_ff, hs_g1, hs_dd, hs_d1, hs_r1, hs_rv, hs_rv0, hs_n1, hs_n0, hs_v1i, hs_v1r, hs_a1, hs_d2l, hs_d2i, hs_ri, hs_rl, hs_rg, hs_rd8, hs_rr, hs_rn, hs_ov, hs_gf, hs_po, hs_pfi, hs_pfr, hs_ia, hs_la, hs_da, hs_qa, hs_al, hs_is, hs_ls, hs_ds, hs_iso, hs_lso, hs_dso, hs_rd, hs_f1, hs_f10, hs_f2, hs_f20, hs_in0, hs_in1, hs_lt, hs_le, hs_ge, hs_gt, hs_eq, hs_10, hs_00, hs_01, true_and, and_true, true_imp_iff, false_imp_iff, not_true_eq_false, not_false_eq_true, hs_av, hs_ai, hs_ar, hs_an, hs_aj, hs_ci, hs_cr, hs_cn, hs_cj, hs_cd, hs_cf, hs_q0, hs_q1, reduceIte, Nat.reduceEqDiff, Nat.reduceAdd, Nat.reduceLT, eq_self, List.getElem?_cons_zero, List.getElem?_cons_succ, List.set_cons_zero, List.set_cons_succ, List.length_cons, List.length_nil, Option.toList_some, Option.toList_none, List.cons_append, List.nil_append, Nat.zero_add, Nat.add_zero, List.map_nil, List.sum_nil, List.map_cons, List.sum_cons, Nat.zero_le, hs_set1, lm_I1, lm_I2, lm_I3, lm_I4, lm_J1, lm_J2, lm_J3, lm_J4, lm_N1, lm_N2, lm_N3, lm_N4, lm_T1, lm_T2, lm_T3, lm_T4, Int32.reduceLE, Int32.reduceLT, qw9.f0, qw9.a10, hle]
      refine hl_seg B okX8_meanPaid (fun q => nomatch q) 29 1000 rfl ?_
      simp only [pX8_meanPaid, List.drop_zero, List.drop_succ_cons, hl_wp, hs_ii, hs_i1, hs_ll, hs_l1, hs_ff, hs_g1, hs_dd, hs_d1, hs_r1, hs_rv, hs_rv0, hs_n1, hs_n0, hs_v1i, hs_v1r, hs_a1, hs_d2l, hs_d2i, hs_ri, hs_rl, hs_rg, hs_rd8, hs_rr, hs_rn, hs_ov, hs_gf, hs_po, hs_pfi, hs_pfr, hs_ia, hs_la, hs_da, hs_qa, hs_al, hs_is, hs_ls, hs_ds, hs_iso, hs_lso, hs_dso, hs_rd, hs_f1, hs_f10, hs_f2, hs_f20, hs_in0, hs_in1, hs_lt, hs_le, hs_ge, hs_gt, hs_eq, hs_10, hs_00, hs_01, true_and, and_true, true_imp_iff, false_imp_iff, not_true_eq_false, not_false_eq_true, hs_av, hs_ai, hs_ar, hs_an, hs_aj, hs_ci, hs_cr, hs_cn, hs_cj, hs_cd, hs_cf, hs_q0, hs_q1, reduceIte, Nat.reduceEqDiff, Nat.reduceAdd, Nat.reduceLT, eq_self, List.getElem?_cons_zero, List.getElem?_cons_succ, List.set_cons_zero, List.set_cons_succ, List.length_cons, List.length_nil, Option.toList_some, Option.toList_none, List.cons_append, List.nil_append, Nat.zero_add, Nat.add_zero, List.map_nil, List.sum_nil, List.map_cons, List.sum_cons, Nat.zero_le, hs_set1, lm_I1, lm_I2, lm_I3, lm_I4, lm_J1, lm_J2, lm_J3, lm_J4, lm_N1, lm_N2, lm_N3, lm_N4, lm_T1, lm_T2, lm_T3, lm_T4, Int32.reduceLE, Int32.reduceLT, qw9.f0, qw9.a10, hle]
      refine ⟨hfp hm0, ?_⟩
      exact hl_dret B rfl (hl_dec okX8_meanPaid 35 rfl) (by decide) (by decide) (md_ok (by simp only [md_meanPaid, if_neg hm0]) w9)
    | succ k9 ih =>
      intro i g9  hi w9 hm0
      have hlt : ¬ nI (μ.2.2.1 1) ≤ nI i := nI_ge (by omega) (by have := hb1; omega)
      have qw9 := w9.1
      have hcl : (nI i).toNatClampNeg = i := nI_clamp (by omega)
      refine hl_seg B okX8_meanPaid (fun q => nomatch q) 15 1000 rfl ?_
      simp only [pX8_meanPaid, List.drop_zero, List.drop_succ_cons, hl_wp, hs_ii, hs_i1, hs_ll, hs_l1, hs_ff, hs_g1, hs_dd, hs_d1, hs_r1, hs_rv, hs_rv0, hs_n1, hs_n0, hs_v1i, hs_v1r, hs_a1, hs_d2l, hs_d2i, hs_ri, hs_rl, hs_rg, hs_rd8, hs_rr, hs_rn, hs_ov, hs_gf, hs_po, hs_pfi, hs_pfr, hs_ia, hs_la, hs_da, hs_qa, hs_al, hs_is, hs_ls, hs_ds, hs_iso, hs_lso, hs_dso, hs_rd, hs_f1, hs_f10, hs_f2, hs_f20, hs_in0, hs_in1, hs_lt, hs_le, hs_ge, hs_gt, hs_eq, hs_10, hs_00, hs_01, true_and, and_true, true_imp_iff, false_imp_iff, not_true_eq_false, not_false_eq_true, hs_av, hs_ai, hs_ar, hs_an, hs_aj, hs_ci, hs_cr, hs_cn, hs_cj, hs_cd, hs_cf, hs_q0, hs_q1, reduceIte, Nat.reduceEqDiff, Nat.reduceAdd, Nat.reduceLT, eq_self, List.getElem?_cons_zero, List.getElem?_cons_succ, List.set_cons_zero, List.set_cons_succ, List.length_cons, List.length_nil, Option.toList_some, Option.toList_none, List.cons_append, List.nil_append, Nat.zero_add, Nat.add_zero, List.map_nil, List.sum_nil, List.map_cons, List.sum_cons, Nat.zero_le, hs_set1, lm_I1, lm_I2, lm_I3, lm_I4, lm_J1, lm_J2, lm_J3, lm_J4, lm_N1, lm_N2, lm_N3, lm_N4, lm_T1, lm_T2, lm_T3, lm_T4, Int32.reduceLE, Int32.reduceLT, qw9.f0, qw9.a10, hlt, hcl]
      refine ⟨by first | with_reducible assumption | ((with_reducible refine vp_in_nI ?_ ?_) <;> omega) | with_reducible exact hcur _ | with_reducible exact hho _ | with_reducible exact hta _ | with_reducible exact hbp _ | with_reducible exact hbe _, ?_⟩
      have hcs : nI i + 1 = nI (i + 1) := nI_1 i
      simp only [hcs]
      exact ih (i + 1) _ (by omega) w9 hm0
  refine hl_seg B okX8_meanPaid (fun q => nomatch q) 0 15 rfl ?_
  simp only [pX8_meanPaid, List.drop_zero, List.drop_succ_cons, hl_wp, hs_ii, hs_i1, hs_ll, hs_l1, hs_ff, hs_g1, hs_dd, hs_d1, hs_r1, hs_rv, hs_rv0, hs_n1, hs_n0, hs_v1i, hs_v1r, hs_a1, hs_d2l, hs_d2i, hs_ri, hs_rl, hs_rg, hs_rd8, hs_rr, hs_rn, hs_ov, hs_gf, hs_po, hs_pfi, hs_pfr, hs_ia, hs_la, hs_da, hs_qa, hs_al, hs_is, hs_ls, hs_ds, hs_iso, hs_lso, hs_dso, hs_rd, hs_f1, hs_f10, hs_f2, hs_f20, hs_in0, hs_in1, hs_lt, hs_le, hs_ge, hs_gt, hs_eq, hs_10, hs_00, hs_01, true_and, and_true, true_imp_iff, false_imp_iff, not_true_eq_false, not_false_eq_true, hs_av, hs_ai, hs_ar, hs_an, hs_aj, hs_ci, hs_cr, hs_cn, hs_cj, hs_cd, hs_cf, hs_q0, hs_q1, reduceIte, Nat.reduceEqDiff, Nat.reduceAdd, Nat.reduceLT, eq_self, List.getElem?_cons_zero, List.getElem?_cons_succ, List.set_cons_zero, List.set_cons_succ, List.length_cons, List.length_nil, Option.toList_some, Option.toList_none, List.cons_append, List.nil_append, Nat.zero_add, Nat.add_zero, List.map_nil, List.sum_nil, List.map_cons, List.sum_cons, Nat.zero_le, hs_set1, lm_I1, lm_I2, lm_I3, lm_I4, lm_J1, lm_J2, lm_J3, lm_J4, lm_N1, lm_N2, lm_N3, lm_N4, lm_T1, lm_T2, lm_T3, lm_T4, Int32.reduceLE, Int32.reduceLT, qw.f0, qw.a10]
  refine ⟨fun c1 => ?_, fun c1 => ?_⟩
  · skip
    refine hl_seg B okX8_meanPaid (fun q => nomatch q) 6 9 rfl ?_
    simp only [pX8_meanPaid, List.drop_zero, List.drop_succ_cons, hl_wp, hs_ii, hs_i1, hs_ll, hs_l1, hs_ff, hs_g1, hs_dd, hs_d1, hs_r1, hs_rv, hs_rv0, hs_n1, hs_n0, hs_v1i, hs_v1r, hs_a1, hs_d2l, hs_d2i, hs_ri, hs_rl, hs_rg, hs_rd8, hs_rr, hs_rn, hs_ov, hs_gf, hs_po, hs_pfi, hs_pfr, hs_ia, hs_la, hs_da, hs_qa, hs_al, hs_is, hs_ls, hs_ds, hs_iso, hs_lso, hs_dso, hs_rd, hs_f1, hs_f10, hs_f2, hs_f20, hs_in0, hs_in1, hs_lt, hs_le, hs_ge, hs_gt, hs_eq, hs_10, hs_00, hs_01, true_and, and_true, true_imp_iff, false_imp_iff, not_true_eq_false, not_false_eq_true, hs_av, hs_ai, hs_ar, hs_an, hs_aj, hs_ci, hs_cr, hs_cn, hs_cj, hs_cd, hs_cf, hs_q0, hs_q1, reduceIte, Nat.reduceEqDiff, Nat.reduceAdd, Nat.reduceLT, eq_self, List.getElem?_cons_zero, List.getElem?_cons_succ, List.set_cons_zero, List.set_cons_succ, List.length_cons, List.length_nil, Option.toList_some, Option.toList_none, List.cons_append, List.nil_append, Nat.zero_add, Nat.add_zero, List.map_nil, List.sum_nil, List.map_cons, List.sum_cons, Nat.zero_le, hs_set1, lm_I1, lm_I2, lm_I3, lm_I4, lm_J1, lm_J2, lm_J3, lm_J4, lm_N1, lm_N2, lm_N3, lm_N4, lm_T1, lm_T2, lm_T3, lm_T4, Int32.reduceLE, Int32.reduceLT, qw.f0, qw.a10]
    refine hl_callV B (As := [.int _]) (cr_checked0) mtX8_checked (hl_dec okX8_meanPaid 7 rfl) (kk := 1095) (by decide +kernel) rfl rfl (qw.f0) rfl (Nat.le_of_ble_eq_true rfl) (by decide) (by decide) (by decide) (by decide) w (fun r9 h9 hq => ?_) (fun _ _ hx => hx.elim)
    obtain ⟨rfl, w2⟩ := hq
    have qw2 := w2.1
    refine hl_seg B okX8_meanPaid (fun q => nomatch q) 8 7 rfl ?_
    simp only [pX8_meanPaid, List.drop_zero, List.drop_succ_cons, hl_wp, hs_ii, hs_i1, hs_ll, hs_l1, hs_ff, hs_g1, hs_dd, hs_d1, hs_r1, hs_rv, hs_rv0, hs_n1, hs_n0, hs_v1i, hs_v1r, hs_a1, hs_d2l, hs_d2i, hs_ri, hs_rl, hs_rg, hs_rd8, hs_rr, hs_rn, hs_ov, hs_gf, hs_po, hs_pfi, hs_pfr, hs_ia, hs_la, hs_da, hs_qa, hs_al, hs_is, hs_ls, hs_ds, hs_iso, hs_lso, hs_dso, hs_rd, hs_f1, hs_f10, hs_f2, hs_f20, hs_in0, hs_in1, hs_lt, hs_le, hs_ge, hs_gt, hs_eq, hs_10, hs_00, hs_01, true_and, and_true, true_imp_iff, false_imp_iff, not_true_eq_false, not_false_eq_true, hs_av, hs_ai, hs_ar, hs_an, hs_aj, hs_ci, hs_cr, hs_cn, hs_cj, hs_cd, hs_cf, hs_q0, hs_q1, reduceIte, Nat.reduceEqDiff, Nat.reduceAdd, Nat.reduceLT, eq_self, List.getElem?_cons_zero, List.getElem?_cons_succ, List.set_cons_zero, List.set_cons_succ, List.length_cons, List.length_nil, Option.toList_some, Option.toList_none, List.cons_append, List.nil_append, Nat.zero_add, Nat.add_zero, List.map_nil, List.sum_nil, List.map_cons, List.sum_cons, Nat.zero_le, hs_set1, lm_I1, lm_I2, lm_I3, lm_I4, lm_J1, lm_J2, lm_J3, lm_J4, lm_N1, lm_N2, lm_N3, lm_N4, lm_T1, lm_T2, lm_T3, lm_T4, Int32.reduceLE, Int32.reduceLT, qw2.f0, qw2.a10]
    exact hl_dret B rfl (hl_dec okX8_meanPaid 10 rfl) (by decide) (by decide) (md_ok (by simp only [md_meanPaid, if_pos c1]; try rfl) w2)
  · skip
    refine hl_seg B okX8_meanPaid (fun q => nomatch q) 7 8 rfl ?_
    simp only [pX8_meanPaid, List.drop_zero, List.drop_succ_cons, hl_wp, hs_ii, hs_i1, hs_ll, hs_l1, hs_ff, hs_g1, hs_dd, hs_d1, hs_r1, hs_rv, hs_rv0, hs_n1, hs_n0, hs_v1i, hs_v1r, hs_a1, hs_d2l, hs_d2i, hs_ri, hs_rl, hs_rg, hs_rd8, hs_rr, hs_rn, hs_ov, hs_gf, hs_po, hs_pfi, hs_pfr, hs_ia, hs_la, hs_da, hs_qa, hs_al, hs_is, hs_ls, hs_ds, hs_iso, hs_lso, hs_dso, hs_rd, hs_f1, hs_f10, hs_f2, hs_f20, hs_in0, hs_in1, hs_lt, hs_le, hs_ge, hs_gt, hs_eq, hs_10, hs_00, hs_01, true_and, and_true, true_imp_iff, false_imp_iff, not_true_eq_false, not_false_eq_true, hs_av, hs_ai, hs_ar, hs_an, hs_aj, hs_ci, hs_cr, hs_cn, hs_cj, hs_cd, hs_cf, hs_q0, hs_q1, reduceIte, Nat.reduceEqDiff, Nat.reduceAdd, Nat.reduceLT, eq_self, List.getElem?_cons_zero, List.getElem?_cons_succ, List.set_cons_zero, List.set_cons_succ, List.length_cons, List.length_nil, Option.toList_some, Option.toList_none, List.cons_append, List.nil_append, Nat.zero_add, Nat.add_zero, List.map_nil, List.sum_nil, List.map_cons, List.sum_cons, Nat.zero_le, hs_set1, lm_I1, lm_I2, lm_I3, lm_I4, lm_J1, lm_J2, lm_J3, lm_J4, lm_N1, lm_N2, lm_N3, lm_N4, lm_T1, lm_T2, lm_T3, lm_T4, Int32.reduceLE, Int32.reduceLT, qw.f0, qw.a10]
    refine hl_callV B (As := [.int _]) (cr_checked1) mtX8_checked (hl_dec okX8_meanPaid 7 rfl) (kk := 1095) (by decide +kernel) rfl rfl (qw.f0) rfl (Nat.le_of_ble_eq_true rfl) (by decide) (by decide) (by decide) (by decide) w (fun r9 h9 hq => ?_) (fun _ _ hx => hx.elim)
    obtain ⟨rfl, w3⟩ := hq
    have qw3 := w3.1
    refine hl_seg B okX8_meanPaid (fun q => nomatch q) 8 7 rfl ?_
    simp only [pX8_meanPaid, List.drop_zero, List.drop_succ_cons, hl_wp, hs_ii, hs_i1, hs_ll, hs_l1, hs_ff, hs_g1, hs_dd, hs_d1, hs_r1, hs_rv, hs_rv0, hs_n1, hs_n0, hs_v1i, hs_v1r, hs_a1, hs_d2l, hs_d2i, hs_ri, hs_rl, hs_rg, hs_rd8, hs_rr, hs_rn, hs_ov, hs_gf, hs_po, hs_pfi, hs_pfr, hs_ia, hs_la, hs_da, hs_qa, hs_al, hs_is, hs_ls, hs_ds, hs_iso, hs_lso, hs_dso, hs_rd, hs_f1, hs_f10, hs_f2, hs_f20, hs_in0, hs_in1, hs_lt, hs_le, hs_ge, hs_gt, hs_eq, hs_10, hs_00, hs_01, true_and, and_true, true_imp_iff, false_imp_iff, not_true_eq_false, not_false_eq_true, hs_av, hs_ai, hs_ar, hs_an, hs_aj, hs_ci, hs_cr, hs_cn, hs_cj, hs_cd, hs_cf, hs_q0, hs_q1, reduceIte, Nat.reduceEqDiff, Nat.reduceAdd, Nat.reduceLT, eq_self, List.getElem?_cons_zero, List.getElem?_cons_succ, List.set_cons_zero, List.set_cons_succ, List.length_cons, List.length_nil, Option.toList_some, Option.toList_none, List.cons_append, List.nil_append, Nat.zero_add, Nat.add_zero, List.map_nil, List.sum_nil, List.map_cons, List.sum_cons, Nat.zero_le, hs_set1, lm_I1, lm_I2, lm_I3, lm_I4, lm_J1, lm_J2, lm_J3, lm_J4, lm_N1, lm_N2, lm_N3, lm_N4, lm_T1, lm_T2, lm_T3, lm_T4, Int32.reduceLE, Int32.reduceLT, qw3.f0, qw3.a10]
    refine hl_seg B okX8_meanPaid (fun q => nomatch q) 11 4 rfl ?_
    simp only [pX8_meanPaid, List.drop_zero, List.drop_succ_cons, hl_wp, hs_ii, hs_i1, hs_ll, hs_l1, hs_ff, hs_g1, hs_dd, hs_d1, hs_r1, hs_rv, hs_rv0, hs_n1, hs_n0, hs_v1i, hs_v1r, hs_a1, hs_d2l, hs_d2i, hs_ri, hs_rl, hs_rg, hs_rd8, hs_rr, hs_rn, hs_ov, hs_gf, hs_po, hs_pfi, hs_pfr, hs_ia, hs_la, hs_da, hs_qa, hs_al, hs_is, hs_ls, hs_ds, hs_iso, hs_lso, hs_dso, hs_rd, hs_f1, hs_f10, hs_f2, hs_f20, hs_in0, hs_in1, hs_lt, hs_le, hs_ge, hs_gt, hs_eq, hs_10, hs_00, hs_01, true_and, and_true, true_imp_iff, false_imp_iff, not_true_eq_false, not_false_eq_true, hs_av, hs_ai, hs_ar, hs_an, hs_aj, hs_ci, hs_cr, hs_cn, hs_cj, hs_cd, hs_cf, hs_q0, hs_q1, reduceIte, Nat.reduceEqDiff, Nat.reduceAdd, Nat.reduceLT, eq_self, List.getElem?_cons_zero, List.getElem?_cons_succ, List.set_cons_zero, List.set_cons_succ, List.length_cons, List.length_nil, Option.toList_some, Option.toList_none, List.cons_append, List.nil_append, Nat.zero_add, Nat.add_zero, List.map_nil, List.sum_nil, List.map_cons, List.sum_cons, Nat.zero_le, hs_set1, lm_I1, lm_I2, lm_I3, lm_I4, lm_J1, lm_J2, lm_J3, lm_J4, lm_N1, lm_N2, lm_N3, lm_N4, lm_T1, lm_T2, lm_T3, lm_T4, Int32.reduceLE, Int32.reduceLT, qw3.f0, qw3.a10]
    exact loop (μ.2.2.1 1) 0 _ (Nat.zero_add _) w3 c1
set_option maxRecDepth 20000 in
set_option maxHeartbeats 2000000 in
theorem cr_thrown {G : hl_G} {l : Launch} {b : Nat → Nat} {μ : LMt} {h0 : hl_H}  :
    hl_Ct G l mX8_thrown 0 0 0 [.ref (b 0)] (LMw b μ h0) (fun r g => r = some (.int μ.2.2.2) ∧ LMw b (μ) h0 g) (fun _ _ => False) := by
  refine hl_body (by decide +kernel) (Nat.le_of_ble_eq_true rfl) ?_
  intro p e s m args below meth c B g hg
  have qw := hg.1
  have w := hg
  refine hl_seg B okX8_thrown (fun q => nomatch q) 0 1000 rfl ?_
  simp only [pX8_thrown, List.drop_zero, List.drop_succ_cons, hl_wp, hs_ii, hs_i1, hs_ll, hs_l1, hs_ff, hs_g1, hs_dd, hs_d1, hs_r1, hs_rv, hs_rv0, hs_n1, hs_n0, hs_v1i, hs_v1r, hs_a1, hs_d2l, hs_d2i, hs_ri, hs_rl, hs_rg, hs_rd8, hs_rr, hs_rn, hs_ov, hs_gf, hs_po, hs_pfi, hs_pfr, hs_ia, hs_la, hs_da, hs_qa, hs_al, hs_is, hs_ls, hs_ds, hs_iso, hs_lso, hs_dso, hs_rd, hs_f1, hs_f10, hs_f2, hs_f20, hs_in0, hs_in1, hs_lt, hs_le, hs_ge, hs_gt, hs_eq, hs_10, hs_00, hs_01, true_and, and_true, true_imp_iff, false_imp_iff, not_true_eq_false, not_false_eq_true, hs_av, hs_ai, hs_ar, hs_an, hs_aj, hs_ci, hs_cr, hs_cn, hs_cj, hs_cd, hs_cf, hs_q0, hs_q1, reduceIte, Nat.reduceEqDiff, Nat.reduceAdd, Nat.reduceLT, eq_self, List.getElem?_cons_zero, List.getElem?_cons_succ, List.set_cons_zero, List.set_cons_succ, List.length_cons, List.length_nil, Option.toList_some, Option.toList_none, List.cons_append, List.nil_append, Nat.zero_add, Nat.add_zero, List.map_nil, List.sum_nil, List.map_cons, List.sum_cons, Nat.zero_le, hs_set1, lm_I1, lm_I2, lm_I3, lm_I4, lm_J1, lm_J2, lm_J3, lm_J4, lm_N1, lm_N2, lm_N3, lm_N4, lm_T1, lm_T2, lm_T3, lm_T4, Int32.reduceLE, Int32.reduceLT, qw.f0]
  exact hl_iret B rfl rfl (hl_dec okX8_thrown 2 rfl) (by decide) (by decide) ⟨rfl, w⟩
def md_ex (D : Nat) : Nat → Nat → LMt → Nat → LMt × Nat
  | 0, _, τ, c => (τ, c)
  | k + 1, i, τ, c => if τ.1 14 i = 97 then (if τ.1 18 i < nI D then md_ex D k (i + 1) (lm_I τ 14 (upd (τ.1 14) i 120)) (c + 1) else md_ex D k (i + 1) τ c) else md_ex D k (i + 1) τ c
def md_fg (D : Nat) : Nat → Nat → LMt → LMt
  | 0, _, τ => τ
  | k + 1, i, τ => md_fg D k (i + 1) (lm_I τ 22 (upd (τ.1 22) i (if nI D < τ.1 25 i + 3 then τ.1 22 i else 0)))
def md_exd (μ : LMt) : LMt × Nat := md_ex (μ.2.2.1 4 + 1) (μ.2.2.1 2) 0 (lm_N μ 4 (μ.2.2.1 4 + 1)) 0
def md_closeDay (μ : LMt) : MRes := (lm_T (md_fg (μ.2.2.1 4 + 1) 999 1 (md_exd μ).1) 0, .int (nI (md_exd μ).2))
set_option maxRecDepth 20000 in
set_option maxHeartbeats 2000000 in
theorem cr_closeDay {G : hl_G} {l : Launch} {b : Nat → Nat} {μ : LMt} {h0 : hl_H} (hM : MInv μ) :
    hl_Ct G l mX8_closeDay 6 0 0 [.ref (b 0)] (LMw b μ h0) (md_Q b h0 (md_closeDay μ)) (fun _ _ => False) := by
  refine hl_body (by decide +kernel) (Nat.le_of_ble_eq_true rfl) ?_
  intro p e s m args below meth c B g hg
  have qw := hg.1
  have w := hg
  obtain ⟨hb0, hb1, hb2, hb3, hb4, hcur, hrat, hpr, hpe, hpp, hho, hta, hbp, hbe⟩ := id hM
  have loop2 : ∀ (k9 i : Nat) (τ : LMt) (g9 : hl_H), i + k9 = 1000 → (LMw b τ h0 g9) → (md_fg (μ.2.2.1 4 + 1) 999 1 (md_exd μ).1 = md_fg (μ.2.2.1 4 + 1) k9 i τ) → (τ.2.2.1 2 = μ.2.2.1 2) → (τ.2.2.1 4 = μ.2.2.1 4 + 1) → hl_GM G mX8_closeDay 6 0 0 (md_Q b h0 (md_closeDay μ)) (fun _ _ => False) p l e s m args below meth c 68 [(0, .ref (b 0)), (1, .int (nI (md_exd μ).2)), (2, .int (nI i))] [] g9 0 0 := by
    intro k9
    induction k9 with
    | zero =>
      intro i τ g9  hi w9 hx hs2 hs4
      have hle : (999 : Int32) < nI i := nI_lt (a := 999) (by omega) (by omega)
      have qw9 := w9.1
      refine hl_seg B okX8_closeDay (fun q => nomatch q) 38 22 rfl ?_
      simp only [pX8_closeDay, List.drop_zero, List.drop_succ_cons, hl_wp, hs_ii, hs_i1, hs_ll, hs_l1, hs_ff, hs_g1, hs_dd, hs_d1, hs_r1, hs_rv, hs_rv0, hs_n1, hs_n0, hs_v1i, hs_v1r, hs_a1, hs_d2l, hs_d2i, hs_ri, hs_rl, hs_rg, hs_rd8, hs_rr, hs_rn, hs_ov, hs_gf, hs_po, hs_pfi, hs_pfr, hs_ia, hs_la, hs_da, hs_qa, hs_al, hs_is, hs_ls, hs_ds, hs_iso, hs_lso, hs_dso, hs_rd, hs_f1, hs_f10, hs_f2, hs_f20, hs_in0, hs_in1, hs_lt, hs_le, hs_ge, hs_gt, hs_eq, hs_10, hs_00, hs_01, true_and, and_true, true_imp_iff, false_imp_iff, not_true_eq_false, not_false_eq_true, hs_av, hs_ai, hs_ar, hs_an, hs_aj, hs_ci, hs_cr, hs_cn, hs_cj, hs_cd, hs_cf, hs_q0, hs_q1, reduceIte, Nat.reduceEqDiff, Nat.reduceAdd, Nat.reduceLT, eq_self, List.getElem?_cons_zero, List.getElem?_cons_succ, List.set_cons_zero, List.set_cons_succ, List.length_cons, List.length_nil, Option.toList_some, Option.toList_none, List.cons_append, List.nil_append, Nat.zero_add, Nat.add_zero, List.map_nil, List.sum_nil, List.map_cons, List.sum_cons, Nat.zero_le, hs_set1, lm_I1, lm_I2, lm_I3, lm_I4, lm_J1, lm_J2, lm_J3, lm_J4, lm_N1, lm_N2, lm_N3, lm_N4, lm_T1, lm_T2, lm_T3, lm_T4, Int32.reduceLE, Int32.reduceLT, qw9.f0, qw9.a14, qw9.a18, qw9.a22, qw9.a25, hs4, hle]
      refine hl_seg B okX8_closeDay (fun q => nomatch q) 62 1000 rfl ?_
      simp only [pX8_closeDay, List.drop_zero, List.drop_succ_cons, hl_wp, hs_ii, hs_i1, hs_ll, hs_l1, hs_ff, hs_g1, hs_dd, hs_d1, hs_r1, hs_rv, hs_rv0, hs_n1, hs_n0, hs_v1i, hs_v1r, hs_a1, hs_d2l, hs_d2i, hs_ri, hs_rl, hs_rg, hs_rd8, hs_rr, hs_rn, hs_ov, hs_gf, hs_po, hs_pfi, hs_pfr, hs_ia, hs_la, hs_da, hs_qa, hs_al, hs_is, hs_ls, hs_ds, hs_iso, hs_lso, hs_dso, hs_rd, hs_f1, hs_f10, hs_f2, hs_f20, hs_in0, hs_in1, hs_lt, hs_le, hs_ge, hs_gt, hs_eq, hs_10, hs_00, hs_01, true_and, and_true, true_imp_iff, false_imp_iff, not_true_eq_false, not_false_eq_true, hs_av, hs_ai, hs_ar, hs_an, hs_aj, hs_ci, hs_cr, hs_cn, hs_cj, hs_cd, hs_cf, hs_q0, hs_q1, reduceIte, Nat.reduceEqDiff, Nat.reduceAdd, Nat.reduceLT, eq_self, List.getElem?_cons_zero, List.getElem?_cons_succ, List.set_cons_zero, List.set_cons_succ, List.length_cons, List.length_nil, Option.toList_some, Option.toList_none, List.cons_append, List.nil_append, Nat.zero_add, Nat.add_zero, List.map_nil, List.sum_nil, List.map_cons, List.sum_cons, Nat.zero_le, hs_set1, lm_I1, lm_I2, lm_I3, lm_I4, lm_J1, lm_J2, lm_J3, lm_J4, lm_N1, lm_N2, lm_N3, lm_N4, lm_T1, lm_T2, lm_T3, lm_T4, Int32.reduceLE, Int32.reduceLT, qw9.f0, qw9.a14, qw9.a18, qw9.a22, qw9.a25, hs4, hle]
      refine hl_callV B (As := [.int _]) (cr_plain) mtX8_plain (hl_dec okX8_closeDay 64 rfl) (kk := 1107) (by decide +kernel) rfl rfl (qw9.f0) rfl (Nat.le_of_ble_eq_true rfl) (by decide) (by decide) (by decide) (by decide) w9 (fun r9 h9 hq => ?_) (fun _ _ hx => hx.elim)
      obtain ⟨rfl, w1⟩ := hq
      have qw1 := w1.1
      exact hl_iret B rfl rfl (hl_dec okX8_closeDay 65 rfl) (by decide) (by decide) (md_ok (by unfold md_closeDay; rw [hx]; rfl) w1)
    | succ k9 ih =>
      intro i τ g9  hi w9 hx hs2 hs4
      have hlt : ¬ (999 : Int32) < nI i := nI_nlt (a := 999) (by omega) (by decide)
      have qw9 := w9.1
      have hcl : (nI i).toNatClampNeg = i := nI_clamp (by omega)
      refine hl_seg B okX8_closeDay (fun q => nomatch q) 38 22 rfl ?_
      simp only [pX8_closeDay, List.drop_zero, List.drop_succ_cons, hl_wp, hs_ii, hs_i1, hs_ll, hs_l1, hs_ff, hs_g1, hs_dd, hs_d1, hs_r1, hs_rv, hs_rv0, hs_n1, hs_n0, hs_v1i, hs_v1r, hs_a1, hs_d2l, hs_d2i, hs_ri, hs_rl, hs_rg, hs_rd8, hs_rr, hs_rn, hs_ov, hs_gf, hs_po, hs_pfi, hs_pfr, hs_ia, hs_la, hs_da, hs_qa, hs_al, hs_is, hs_ls, hs_ds, hs_iso, hs_lso, hs_dso, hs_rd, hs_f1, hs_f10, hs_f2, hs_f20, hs_in0, hs_in1, hs_lt, hs_le, hs_ge, hs_gt, hs_eq, hs_10, hs_00, hs_01, true_and, and_true, true_imp_iff, false_imp_iff, not_true_eq_false, not_false_eq_true, hs_av, hs_ai, hs_ar, hs_an, hs_aj, hs_ci, hs_cr, hs_cn, hs_cj, hs_cd, hs_cf, hs_q0, hs_q1, reduceIte, Nat.reduceEqDiff, Nat.reduceAdd, Nat.reduceLT, eq_self, List.getElem?_cons_zero, List.getElem?_cons_succ, List.set_cons_zero, List.set_cons_succ, List.length_cons, List.length_nil, Option.toList_some, Option.toList_none, List.cons_append, List.nil_append, Nat.zero_add, Nat.add_zero, List.map_nil, List.sum_nil, List.map_cons, List.sum_cons, Nat.zero_le, hs_set1, lm_I1, lm_I2, lm_I3, lm_I4, lm_J1, lm_J2, lm_J3, lm_J4, lm_N1, lm_N2, lm_N3, lm_N4, lm_T1, lm_T2, lm_T3, lm_T4, Int32.reduceLE, Int32.reduceLT, qw9.f0, qw9.a14, qw9.a18, qw9.a22, qw9.a25, hs4, hlt, hcl]
      refine ⟨by first | with_reducible assumption | ((with_reducible refine vp_in_nI ?_ ?_) <;> omega) | with_reducible exact hcur _ | with_reducible exact hho _ | with_reducible exact hta _ | with_reducible exact hbp _ | with_reducible exact hbe _, ?_⟩
      refine ⟨fun c2 => ?_, fun c2 => ?_⟩
      · skip
        refine hl_seg B okX8_closeDay (fun q => nomatch q) 55 5 rfl ?_
        simp only [pX8_closeDay, List.drop_zero, List.drop_succ_cons, hl_wp, hs_ii, hs_i1, hs_ll, hs_l1, hs_ff, hs_g1, hs_dd, hs_d1, hs_r1, hs_rv, hs_rv0, hs_n1, hs_n0, hs_v1i, hs_v1r, hs_a1, hs_d2l, hs_d2i, hs_ri, hs_rl, hs_rg, hs_rd8, hs_rr, hs_rn, hs_ov, hs_gf, hs_po, hs_pfi, hs_pfr, hs_ia, hs_la, hs_da, hs_qa, hs_al, hs_is, hs_ls, hs_ds, hs_iso, hs_lso, hs_dso, hs_rd, hs_f1, hs_f10, hs_f2, hs_f20, hs_in0, hs_in1, hs_lt, hs_le, hs_ge, hs_gt, hs_eq, hs_10, hs_00, hs_01, true_and, and_true, true_imp_iff, false_imp_iff, not_true_eq_false, not_false_eq_true, hs_av, hs_ai, hs_ar, hs_an, hs_aj, hs_ci, hs_cr, hs_cn, hs_cj, hs_cd, hs_cf, hs_q0, hs_q1, reduceIte, Nat.reduceEqDiff, Nat.reduceAdd, Nat.reduceLT, eq_self, List.getElem?_cons_zero, List.getElem?_cons_succ, List.set_cons_zero, List.set_cons_succ, List.length_cons, List.length_nil, Option.toList_some, Option.toList_none, List.cons_append, List.nil_append, Nat.zero_add, Nat.add_zero, List.map_nil, List.sum_nil, List.map_cons, List.sum_cons, Nat.zero_le, hs_set1, lm_I1, lm_I2, lm_I3, lm_I4, lm_J1, lm_J2, lm_J3, lm_J4, lm_N1, lm_N2, lm_N3, lm_N4, lm_T1, lm_T2, lm_T3, lm_T4, Int32.reduceLE, Int32.reduceLT, qw9.f0, qw9.a14, qw9.a18, qw9.a22, qw9.a25, hs4, hlt, hcl]
        refine ⟨by first | with_reducible assumption | ((with_reducible refine vp_in_nI ?_ ?_) <;> omega) | with_reducible exact hcur _ | with_reducible exact hho _ | with_reducible exact hta _ | with_reducible exact hbp _ | with_reducible exact hbe _, ?_⟩
        refine ⟨by first | with_reducible assumption | ((with_reducible refine vp_in_nI ?_ ?_) <;> omega) | with_reducible exact hcur _ | with_reducible exact hho _ | with_reducible exact hta _ | with_reducible exact hbp _ | with_reducible exact hbe _, ?_⟩
        refine hl_st (w9.s22 _) (fun gw3 w3 => ?_)
        have qw3 := w3.1
        refine hl_seg B okX8_closeDay (fun q => nomatch q) 60 1000 rfl ?_
        simp only [pX8_closeDay, List.drop_zero, List.drop_succ_cons, hl_wp, hs_ii, hs_i1, hs_ll, hs_l1, hs_ff, hs_g1, hs_dd, hs_d1, hs_r1, hs_rv, hs_rv0, hs_n1, hs_n0, hs_v1i, hs_v1r, hs_a1, hs_d2l, hs_d2i, hs_ri, hs_rl, hs_rg, hs_rd8, hs_rr, hs_rn, hs_ov, hs_gf, hs_po, hs_pfi, hs_pfr, hs_ia, hs_la, hs_da, hs_qa, hs_al, hs_is, hs_ls, hs_ds, hs_iso, hs_lso, hs_dso, hs_rd, hs_f1, hs_f10, hs_f2, hs_f20, hs_in0, hs_in1, hs_lt, hs_le, hs_ge, hs_gt, hs_eq, hs_10, hs_00, hs_01, true_and, and_true, true_imp_iff, false_imp_iff, not_true_eq_false, not_false_eq_true, hs_av, hs_ai, hs_ar, hs_an, hs_aj, hs_ci, hs_cr, hs_cn, hs_cj, hs_cd, hs_cf, hs_q0, hs_q1, reduceIte, Nat.reduceEqDiff, Nat.reduceAdd, Nat.reduceLT, eq_self, List.getElem?_cons_zero, List.getElem?_cons_succ, List.set_cons_zero, List.set_cons_succ, List.length_cons, List.length_nil, Option.toList_some, Option.toList_none, List.cons_append, List.nil_append, Nat.zero_add, Nat.add_zero, List.map_nil, List.sum_nil, List.map_cons, List.sum_cons, Nat.zero_le, hs_set1, lm_I1, lm_I2, lm_I3, lm_I4, lm_J1, lm_J2, lm_J3, lm_J4, lm_N1, lm_N2, lm_N3, lm_N4, lm_T1, lm_T2, lm_T3, lm_T4, Int32.reduceLE, Int32.reduceLT, qw3.f0, qw3.a14, qw3.a18, qw3.a22, qw3.a25, hs4, hlt, hcl]
        have hcs : nI i + 1 = nI (i + 1) := nI_1 i
        simp only [hcs]
        exact ih (i + 1) _ _ (by omega) w3 (by rw [hx]; simp only [md_fg, if_pos c2]) hs2 hs4
      · skip
        refine hl_seg B okX8_closeDay (fun q => nomatch q) 59 1 rfl ?_
        simp only [pX8_closeDay, List.drop_zero, List.drop_succ_cons, hl_wp, hs_ii, hs_i1, hs_ll, hs_l1, hs_ff, hs_g1, hs_dd, hs_d1, hs_r1, hs_rv, hs_rv0, hs_n1, hs_n0, hs_v1i, hs_v1r, hs_a1, hs_d2l, hs_d2i, hs_ri, hs_rl, hs_rg, hs_rd8, hs_rr, hs_rn, hs_ov, hs_gf, hs_po, hs_pfi, hs_pfr, hs_ia, hs_la, hs_da, hs_qa, hs_al, hs_is, hs_ls, hs_ds, hs_iso, hs_lso, hs_dso, hs_rd, hs_f1, hs_f10, hs_f2, hs_f20, hs_in0, hs_in1, hs_lt, hs_le, hs_ge, hs_gt, hs_eq, hs_10, hs_00, hs_01, true_and, and_true, true_imp_iff, false_imp_iff, not_true_eq_false, not_false_eq_true, hs_av, hs_ai, hs_ar, hs_an, hs_aj, hs_ci, hs_cr, hs_cn, hs_cj, hs_cd, hs_cf, hs_q0, hs_q1, reduceIte, Nat.reduceEqDiff, Nat.reduceAdd, Nat.reduceLT, eq_self, List.getElem?_cons_zero, List.getElem?_cons_succ, List.set_cons_zero, List.set_cons_succ, List.length_cons, List.length_nil, Option.toList_some, Option.toList_none, List.cons_append, List.nil_append, Nat.zero_add, Nat.add_zero, List.map_nil, List.sum_nil, List.map_cons, List.sum_cons, Nat.zero_le, hs_set1, lm_I1, lm_I2, lm_I3, lm_I4, lm_J1, lm_J2, lm_J3, lm_J4, lm_N1, lm_N2, lm_N3, lm_N4, lm_T1, lm_T2, lm_T3, lm_T4, Int32.reduceLE, Int32.reduceLT, qw9.f0, qw9.a14, qw9.a18, qw9.a22, qw9.a25, hs4, hlt, hcl]
        refine ⟨by first | with_reducible assumption | ((with_reducible refine vp_in_nI ?_ ?_) <;> omega) | with_reducible exact hcur _ | with_reducible exact hho _ | with_reducible exact hta _ | with_reducible exact hbp _ | with_reducible exact hbe _, ?_⟩
        refine hl_st (w9.s22 _) (fun gw4 w4 => ?_)
        have qw4 := w4.1
        refine hl_seg B okX8_closeDay (fun q => nomatch q) 60 1000 rfl ?_
        simp only [pX8_closeDay, List.drop_zero, List.drop_succ_cons, hl_wp, hs_ii, hs_i1, hs_ll, hs_l1, hs_ff, hs_g1, hs_dd, hs_d1, hs_r1, hs_rv, hs_rv0, hs_n1, hs_n0, hs_v1i, hs_v1r, hs_a1, hs_d2l, hs_d2i, hs_ri, hs_rl, hs_rg, hs_rd8, hs_rr, hs_rn, hs_ov, hs_gf, hs_po, hs_pfi, hs_pfr, hs_ia, hs_la, hs_da, hs_qa, hs_al, hs_is, hs_ls, hs_ds, hs_iso, hs_lso, hs_dso, hs_rd, hs_f1, hs_f10, hs_f2, hs_f20, hs_in0, hs_in1, hs_lt, hs_le, hs_ge, hs_gt, hs_eq, hs_10, hs_00, hs_01, true_and, and_true, true_imp_iff, false_imp_iff, not_true_eq_false, not_false_eq_true, hs_av, hs_ai, hs_ar, hs_an, hs_aj, hs_ci, hs_cr, hs_cn, hs_cj, hs_cd, hs_cf, hs_q0, hs_q1, reduceIte, Nat.reduceEqDiff, Nat.reduceAdd, Nat.reduceLT, eq_self, List.getElem?_cons_zero, List.getElem?_cons_succ, List.set_cons_zero, List.set_cons_succ, List.length_cons, List.length_nil, Option.toList_some, Option.toList_none, List.cons_append, List.nil_append, Nat.zero_add, Nat.add_zero, List.map_nil, List.sum_nil, List.map_cons, List.sum_cons, Nat.zero_le, hs_set1, lm_I1, lm_I2, lm_I3, lm_I4, lm_J1, lm_J2, lm_J3, lm_J4, lm_N1, lm_N2, lm_N3, lm_N4, lm_T1, lm_T2, lm_T3, lm_T4, Int32.reduceLE, Int32.reduceLT, qw4.f0, qw4.a14, qw4.a18, qw4.a22, qw4.a25, hs4, hlt, hcl]
        have hcs : nI i + 1 = nI (i + 1) := nI_1 i
        simp only [hcs]
        exact ih (i + 1) _ _ (by omega) w4 (by rw [hx]; simp only [md_fg, if_neg c2]) hs2 hs4
  have loop1 : ∀ (k9 i : Nat) (τ : LMt) (c9 : Nat) (g9 : hl_H), i + k9 = μ.2.2.1 2 → (LMw b τ h0 g9) → (md_ex (μ.2.2.1 4 + 1) (μ.2.2.1 2) 0 (lm_N μ 4 (μ.2.2.1 4 + 1)) 0 = md_ex (μ.2.2.1 4 + 1) k9 i τ c9) → (τ.2.2.1 2 = μ.2.2.1 2) → (τ.2.2.1 4 = μ.2.2.1 4 + 1) → hl_GM G mX8_closeDay 6 0 0 (md_Q b h0 (md_closeDay μ)) (fun _ _ => False) p l e s m args below meth c 14 [(0, .ref (b 0)), (1, .int (nI c9)), (2, .int (nI i))] [] g9 0 0 := by
    intro k9
    induction k9 with
    | zero =>
      intro i τ c9 g9  hi w9 hx hs2 hs4
      have hle : nI (μ.2.2.1 2) ≤ nI i := nI_le (by omega) (by have := hb2; omega)
      have qw9 := w9.1
      refine hl_seg B okX8_closeDay (fun q => nomatch q) 10 23 rfl ?_
      simp only [pX8_closeDay, List.drop_zero, List.drop_succ_cons, hl_wp, hs_ii, hs_i1, hs_ll, hs_l1, hs_ff, hs_g1, hs_dd, hs_d1, hs_r1, hs_rv, hs_rv0, hs_n1, hs_n0, hs_v1i, hs_v1r, hs_a1, hs_d2l, hs_d2i, hs_ri, hs_rl, hs_rg, hs_rd8, hs_rr, hs_rn, hs_ov, hs_gf, hs_po, hs_pfi, hs_pfr, hs_ia, hs_la, hs_da, hs_qa, hs_al, hs_is, hs_ls, hs_ds, hs_iso, hs_lso, hs_dso, hs_rd, hs_f1, hs_f10, hs_f2, hs_f20, hs_in0, hs_in1, hs_lt, hs_le, hs_ge, hs_gt, hs_eq, hs_10, hs_00, hs_01, true_and, and_true, true_imp_iff, false_imp_iff, not_true_eq_false, not_false_eq_true, hs_av, hs_ai, hs_ar, hs_an, hs_aj, hs_ci, hs_cr, hs_cn, hs_cj, hs_cd, hs_cf, hs_q0, hs_q1, reduceIte, Nat.reduceEqDiff, Nat.reduceAdd, Nat.reduceLT, eq_self, List.getElem?_cons_zero, List.getElem?_cons_succ, List.set_cons_zero, List.set_cons_succ, List.length_cons, List.length_nil, Option.toList_some, Option.toList_none, List.cons_append, List.nil_append, Nat.zero_add, Nat.add_zero, List.map_nil, List.sum_nil, List.map_cons, List.sum_cons, Nat.zero_le, hs_set1, lm_I1, lm_I2, lm_I3, lm_I4, lm_J1, lm_J2, lm_J3, lm_J4, lm_N1, lm_N2, lm_N3, lm_N4, lm_T1, lm_T2, lm_T3, lm_T4, Int32.reduceLE, Int32.reduceLT, qw9.f0, qw9.a14, qw9.a18, qw9.a22, qw9.a25, hs2, hs4, hle]
      refine hl_seg B okX8_closeDay (fun q => nomatch q) 36 2 rfl ?_
      simp only [pX8_closeDay, List.drop_zero, List.drop_succ_cons, hl_wp, hs_ii, hs_i1, hs_ll, hs_l1, hs_ff, hs_g1, hs_dd, hs_d1, hs_r1, hs_rv, hs_rv0, hs_n1, hs_n0, hs_v1i, hs_v1r, hs_a1, hs_d2l, hs_d2i, hs_ri, hs_rl, hs_rg, hs_rd8, hs_rr, hs_rn, hs_ov, hs_gf, hs_po, hs_pfi, hs_pfr, hs_ia, hs_la, hs_da, hs_qa, hs_al, hs_is, hs_ls, hs_ds, hs_iso, hs_lso, hs_dso, hs_rd, hs_f1, hs_f10, hs_f2, hs_f20, hs_in0, hs_in1, hs_lt, hs_le, hs_ge, hs_gt, hs_eq, hs_10, hs_00, hs_01, true_and, and_true, true_imp_iff, false_imp_iff, not_true_eq_false, not_false_eq_true, hs_av, hs_ai, hs_ar, hs_an, hs_aj, hs_ci, hs_cr, hs_cn, hs_cj, hs_cd, hs_cf, hs_q0, hs_q1, reduceIte, Nat.reduceEqDiff, Nat.reduceAdd, Nat.reduceLT, eq_self, List.getElem?_cons_zero, List.getElem?_cons_succ, List.set_cons_zero, List.set_cons_succ, List.length_cons, List.length_nil, Option.toList_some, Option.toList_none, List.cons_append, List.nil_append, Nat.zero_add, Nat.add_zero, List.map_nil, List.sum_nil, List.map_cons, List.sum_cons, Nat.zero_le, hs_set1, lm_I1, lm_I2, lm_I3, lm_I4, lm_J1, lm_J2, lm_J3, lm_J4, lm_N1, lm_N2, lm_N3, lm_N4, lm_T1, lm_T2, lm_T3, lm_T4, Int32.reduceLE, Int32.reduceLT, qw9.f0, qw9.a14, qw9.a18, qw9.a22, qw9.a25, hs2, hs4, hle]
      have hc9 : (md_exd μ).2 = c9 := by unfold md_exd; rw [hx]; rfl
      rw [← hc9]
      exact loop2 999 1 _ _ rfl w9 (by unfold md_exd; rw [hx]; rfl) hs2 hs4
    | succ k9 ih =>
      intro i τ c9 g9  hi w9 hx hs2 hs4
      have hlt : ¬ nI (μ.2.2.1 2) ≤ nI i := nI_ge (by omega) (by have := hb2; omega)
      have qw9 := w9.1
      have hcl : (nI i).toNatClampNeg = i := nI_clamp (by omega)
      refine hl_seg B okX8_closeDay (fun q => nomatch q) 10 23 rfl ?_
      simp only [pX8_closeDay, List.drop_zero, List.drop_succ_cons, hl_wp, hs_ii, hs_i1, hs_ll, hs_l1, hs_ff, hs_g1, hs_dd, hs_d1, hs_r1, hs_rv, hs_rv0, hs_n1, hs_n0, hs_v1i, hs_v1r, hs_a1, hs_d2l, hs_d2i, hs_ri, hs_rl, hs_rg, hs_rd8, hs_rr, hs_rn, hs_ov, hs_gf, hs_po, hs_pfi, hs_pfr, hs_ia, hs_la, hs_da, hs_qa, hs_al, hs_is, hs_ls, hs_ds, hs_iso, hs_lso, hs_dso, hs_rd, hs_f1, hs_f10, hs_f2, hs_f20, hs_in0, hs_in1, hs_lt, hs_le, hs_ge, hs_gt, hs_eq, hs_10, hs_00, hs_01, true_and, and_true, true_imp_iff, false_imp_iff, not_true_eq_false, not_false_eq_true, hs_av, hs_ai, hs_ar, hs_an, hs_aj, hs_ci, hs_cr, hs_cn, hs_cj, hs_cd, hs_cf, hs_q0, hs_q1, reduceIte, Nat.reduceEqDiff, Nat.reduceAdd, Nat.reduceLT, eq_self, List.getElem?_cons_zero, List.getElem?_cons_succ, List.set_cons_zero, List.set_cons_succ, List.length_cons, List.length_nil, Option.toList_some, Option.toList_none, List.cons_append, List.nil_append, Nat.zero_add, Nat.add_zero, List.map_nil, List.sum_nil, List.map_cons, List.sum_cons, Nat.zero_le, hs_set1, lm_I1, lm_I2, lm_I3, lm_I4, lm_J1, lm_J2, lm_J3, lm_J4, lm_N1, lm_N2, lm_N3, lm_N4, lm_T1, lm_T2, lm_T3, lm_T4, Int32.reduceLE, Int32.reduceLT, qw9.f0, qw9.a14, qw9.a18, qw9.a22, qw9.a25, hs2, hs4, hlt, hcl]
      refine ⟨by first | with_reducible assumption | ((with_reducible refine vp_in_nI ?_ ?_) <;> omega) | with_reducible exact hcur _ | with_reducible exact hho _ | with_reducible exact hta _ | with_reducible exact hbp _ | with_reducible exact hbe _, ?_⟩
      refine ⟨fun c5 => ?_, fun c5 => ?_⟩
      · skip
        refine hl_seg B okX8_closeDay (fun q => nomatch q) 34 4 rfl ?_
        simp only [pX8_closeDay, List.drop_zero, List.drop_succ_cons, hl_wp, hs_ii, hs_i1, hs_ll, hs_l1, hs_ff, hs_g1, hs_dd, hs_d1, hs_r1, hs_rv, hs_rv0, hs_n1, hs_n0, hs_v1i, hs_v1r, hs_a1, hs_d2l, hs_d2i, hs_ri, hs_rl, hs_rg, hs_rd8, hs_rr, hs_rn, hs_ov, hs_gf, hs_po, hs_pfi, hs_pfr, hs_ia, hs_la, hs_da, hs_qa, hs_al, hs_is, hs_ls, hs_ds, hs_iso, hs_lso, hs_dso, hs_rd, hs_f1, hs_f10, hs_f2, hs_f20, hs_in0, hs_in1, hs_lt, hs_le, hs_ge, hs_gt, hs_eq, hs_10, hs_00, hs_01, true_and, and_true, true_imp_iff, false_imp_iff, not_true_eq_false, not_false_eq_true, hs_av, hs_ai, hs_ar, hs_an, hs_aj, hs_ci, hs_cr, hs_cn, hs_cj, hs_cd, hs_cf, hs_q0, hs_q1, reduceIte, Nat.reduceEqDiff, Nat.reduceAdd, Nat.reduceLT, eq_self, List.getElem?_cons_zero, List.getElem?_cons_succ, List.set_cons_zero, List.set_cons_succ, List.length_cons, List.length_nil, Option.toList_some, Option.toList_none, List.cons_append, List.nil_append, Nat.zero_add, Nat.add_zero, List.map_nil, List.sum_nil, List.map_cons, List.sum_cons, Nat.zero_le, hs_set1, lm_I1, lm_I2, lm_I3, lm_I4, lm_J1, lm_J2, lm_J3, lm_J4, lm_N1, lm_N2, lm_N3, lm_N4, lm_T1, lm_T2, lm_T3, lm_T4, Int32.reduceLE, Int32.reduceLT, qw9.f0, qw9.a14, qw9.a18, qw9.a22, qw9.a25, hs2, hs4, hlt, hcl]
        have hcs : nI i + 1 = nI (i + 1) := nI_1 i
        have hcc : nI c9 + 1 = nI (c9 + 1) := nI_1 c9
        simp only [hcs, hcc]
        exact ih (i + 1) _ _ _ (by omega) w9 (by rw [hx]; simp only [md_ex, if_neg c5]) hs2 hs4
      · skip
        refine ⟨by first | with_reducible assumption | ((with_reducible refine vp_in_nI ?_ ?_) <;> omega) | with_reducible exact hcur _ | with_reducible exact hho _ | with_reducible exact hta _ | with_reducible exact hbp _ | with_reducible exact hbe _, ?_⟩
        refine ⟨fun c6 => ?_, fun c6 => ?_⟩
        · skip
          refine hl_seg B okX8_closeDay (fun q => nomatch q) 28 5 rfl ?_
          simp only [pX8_closeDay, List.drop_zero, List.drop_succ_cons, hl_wp, hs_ii, hs_i1, hs_ll, hs_l1, hs_ff, hs_g1, hs_dd, hs_d1, hs_r1, hs_rv, hs_rv0, hs_n1, hs_n0, hs_v1i, hs_v1r, hs_a1, hs_d2l, hs_d2i, hs_ri, hs_rl, hs_rg, hs_rd8, hs_rr, hs_rn, hs_ov, hs_gf, hs_po, hs_pfi, hs_pfr, hs_ia, hs_la, hs_da, hs_qa, hs_al, hs_is, hs_ls, hs_ds, hs_iso, hs_lso, hs_dso, hs_rd, hs_f1, hs_f10, hs_f2, hs_f20, hs_in0, hs_in1, hs_lt, hs_le, hs_ge, hs_gt, hs_eq, hs_10, hs_00, hs_01, true_and, and_true, true_imp_iff, false_imp_iff, not_true_eq_false, not_false_eq_true, hs_av, hs_ai, hs_ar, hs_an, hs_aj, hs_ci, hs_cr, hs_cn, hs_cj, hs_cd, hs_cf, hs_q0, hs_q1, reduceIte, Nat.reduceEqDiff, Nat.reduceAdd, Nat.reduceLT, eq_self, List.getElem?_cons_zero, List.getElem?_cons_succ, List.set_cons_zero, List.set_cons_succ, List.length_cons, List.length_nil, Option.toList_some, Option.toList_none, List.cons_append, List.nil_append, Nat.zero_add, Nat.add_zero, List.map_nil, List.sum_nil, List.map_cons, List.sum_cons, Nat.zero_le, hs_set1, lm_I1, lm_I2, lm_I3, lm_I4, lm_J1, lm_J2, lm_J3, lm_J4, lm_N1, lm_N2, lm_N3, lm_N4, lm_T1, lm_T2, lm_T3, lm_T4, Int32.reduceLE, Int32.reduceLT, qw9.f0, qw9.a14, qw9.a18, qw9.a22, qw9.a25, hs2, hs4, hlt, hcl]
          refine ⟨by first | with_reducible assumption | ((with_reducible refine vp_in_nI ?_ ?_) <;> omega) | with_reducible exact hcur _ | with_reducible exact hho _ | with_reducible exact hta _ | with_reducible exact hbp _ | with_reducible exact hbe _, ?_⟩
          refine hl_st (w9.s14 _) (fun gw7 w7 => ?_)
          have qw7 := w7.1
          refine hl_seg B okX8_closeDay (fun q => nomatch q) 33 5 rfl ?_
          simp only [pX8_closeDay, List.drop_zero, List.drop_succ_cons, hl_wp, hs_ii, hs_i1, hs_ll, hs_l1, hs_ff, hs_g1, hs_dd, hs_d1, hs_r1, hs_rv, hs_rv0, hs_n1, hs_n0, hs_v1i, hs_v1r, hs_a1, hs_d2l, hs_d2i, hs_ri, hs_rl, hs_rg, hs_rd8, hs_rr, hs_rn, hs_ov, hs_gf, hs_po, hs_pfi, hs_pfr, hs_ia, hs_la, hs_da, hs_qa, hs_al, hs_is, hs_ls, hs_ds, hs_iso, hs_lso, hs_dso, hs_rd, hs_f1, hs_f10, hs_f2, hs_f20, hs_in0, hs_in1, hs_lt, hs_le, hs_ge, hs_gt, hs_eq, hs_10, hs_00, hs_01, true_and, and_true, true_imp_iff, false_imp_iff, not_true_eq_false, not_false_eq_true, hs_av, hs_ai, hs_ar, hs_an, hs_aj, hs_ci, hs_cr, hs_cn, hs_cj, hs_cd, hs_cf, hs_q0, hs_q1, reduceIte, Nat.reduceEqDiff, Nat.reduceAdd, Nat.reduceLT, eq_self, List.getElem?_cons_zero, List.getElem?_cons_succ, List.set_cons_zero, List.set_cons_succ, List.length_cons, List.length_nil, Option.toList_some, Option.toList_none, List.cons_append, List.nil_append, Nat.zero_add, Nat.add_zero, List.map_nil, List.sum_nil, List.map_cons, List.sum_cons, Nat.zero_le, hs_set1, lm_I1, lm_I2, lm_I3, lm_I4, lm_J1, lm_J2, lm_J3, lm_J4, lm_N1, lm_N2, lm_N3, lm_N4, lm_T1, lm_T2, lm_T3, lm_T4, Int32.reduceLE, Int32.reduceLT, qw7.f0, qw7.a14, qw7.a18, qw7.a22, qw7.a25, hs2, hs4, hlt, hcl]
          have hcs : nI i + 1 = nI (i + 1) := nI_1 i
          have hcc : nI c9 + 1 = nI (c9 + 1) := nI_1 c9
          simp only [hcs, hcc]
          exact ih (i + 1) _ _ _ (by omega) w7 (by rw [hx]; simp only [md_ex, if_pos c5, if_pos c6]) hs2 hs4
        · skip
          refine hl_seg B okX8_closeDay (fun q => nomatch q) 34 4 rfl ?_
          simp only [pX8_closeDay, List.drop_zero, List.drop_succ_cons, hl_wp, hs_ii, hs_i1, hs_ll, hs_l1, hs_ff, hs_g1, hs_dd, hs_d1, hs_r1, hs_rv, hs_rv0, hs_n1, hs_n0, hs_v1i, hs_v1r, hs_a1, hs_d2l, hs_d2i, hs_ri, hs_rl, hs_rg, hs_rd8, hs_rr, hs_rn, hs_ov, hs_gf, hs_po, hs_pfi, hs_pfr, hs_ia, hs_la, hs_da, hs_qa, hs_al, hs_is, hs_ls, hs_ds, hs_iso, hs_lso, hs_dso, hs_rd, hs_f1, hs_f10, hs_f2, hs_f20, hs_in0, hs_in1, hs_lt, hs_le, hs_ge, hs_gt, hs_eq, hs_10, hs_00, hs_01, true_and, and_true, true_imp_iff, false_imp_iff, not_true_eq_false, not_false_eq_true, hs_av, hs_ai, hs_ar, hs_an, hs_aj, hs_ci, hs_cr, hs_cn, hs_cj, hs_cd, hs_cf, hs_q0, hs_q1, reduceIte, Nat.reduceEqDiff, Nat.reduceAdd, Nat.reduceLT, eq_self, List.getElem?_cons_zero, List.getElem?_cons_succ, List.set_cons_zero, List.set_cons_succ, List.length_cons, List.length_nil, Option.toList_some, Option.toList_none, List.cons_append, List.nil_append, Nat.zero_add, Nat.add_zero, List.map_nil, List.sum_nil, List.map_cons, List.sum_cons, Nat.zero_le, hs_set1, lm_I1, lm_I2, lm_I3, lm_I4, lm_J1, lm_J2, lm_J3, lm_J4, lm_N1, lm_N2, lm_N3, lm_N4, lm_T1, lm_T2, lm_T3, lm_T4, Int32.reduceLE, Int32.reduceLT, qw9.f0, qw9.a14, qw9.a18, qw9.a22, qw9.a25, hs2, hs4, hlt, hcl]
          have hcs : nI i + 1 = nI (i + 1) := nI_1 i
          have hcc : nI c9 + 1 = nI (c9 + 1) := nI_1 c9
          simp only [hcs, hcc]
          exact ih (i + 1) _ _ _ (by omega) w9 (by rw [hx]; simp only [md_ex, if_pos c5, if_neg c6]) hs2 hs4
  refine hl_seg B okX8_closeDay (fun q => nomatch q) 0 8 rfl ?_
  simp only [pX8_closeDay, List.drop_zero, List.drop_succ_cons, hl_wp, hs_ii, hs_i1, hs_ll, hs_l1, hs_ff, hs_g1, hs_dd, hs_d1, hs_r1, hs_rv, hs_rv0, hs_n1, hs_n0, hs_v1i, hs_v1r, hs_a1, hs_d2l, hs_d2i, hs_ri, hs_rl, hs_rg, hs_rd8, hs_rr, hs_rn, hs_ov, hs_gf, hs_po, hs_pfi, hs_pfr, hs_ia, hs_la, hs_da, hs_qa, hs_al, hs_is, hs_ls, hs_ds, hs_iso, hs_lso, hs_dso, hs_rd, hs_f1, hs_f10, hs_f2, hs_f20, hs_in0, hs_in1, hs_lt, hs_le, hs_ge, hs_gt, hs_eq, hs_10, hs_00, hs_01, true_and, and_true, true_imp_iff, false_imp_iff, not_true_eq_false, not_false_eq_true, hs_av, hs_ai, hs_ar, hs_an, hs_aj, hs_ci, hs_cr, hs_cn, hs_cj, hs_cd, hs_cf, hs_q0, hs_q1, reduceIte, Nat.reduceEqDiff, Nat.reduceAdd, Nat.reduceLT, eq_self, List.getElem?_cons_zero, List.getElem?_cons_succ, List.set_cons_zero, List.set_cons_succ, List.length_cons, List.length_nil, Option.toList_some, Option.toList_none, List.cons_append, List.nil_append, Nat.zero_add, Nat.add_zero, List.map_nil, List.sum_nil, List.map_cons, List.sum_cons, Nat.zero_le, hs_set1, lm_I1, lm_I2, lm_I3, lm_I4, lm_J1, lm_J2, lm_J3, lm_J4, lm_N1, lm_N2, lm_N3, lm_N4, lm_T1, lm_T2, lm_T3, lm_T4, Int32.reduceLE, Int32.reduceLT, qw.f0, qw.a14, qw.a18, qw.a22, qw.a25]
  refine hl_st (w.iN4) (fun gw8 w8 => ?_)
  have qw8 := w8.1
  refine hl_seg B okX8_closeDay (fun q => nomatch q) 8 2 rfl ?_
  simp only [pX8_closeDay, List.drop_zero, List.drop_succ_cons, hl_wp, hs_ii, hs_i1, hs_ll, hs_l1, hs_ff, hs_g1, hs_dd, hs_d1, hs_r1, hs_rv, hs_rv0, hs_n1, hs_n0, hs_v1i, hs_v1r, hs_a1, hs_d2l, hs_d2i, hs_ri, hs_rl, hs_rg, hs_rd8, hs_rr, hs_rn, hs_ov, hs_gf, hs_po, hs_pfi, hs_pfr, hs_ia, hs_la, hs_da, hs_qa, hs_al, hs_is, hs_ls, hs_ds, hs_iso, hs_lso, hs_dso, hs_rd, hs_f1, hs_f10, hs_f2, hs_f20, hs_in0, hs_in1, hs_lt, hs_le, hs_ge, hs_gt, hs_eq, hs_10, hs_00, hs_01, true_and, and_true, true_imp_iff, false_imp_iff, not_true_eq_false, not_false_eq_true, hs_av, hs_ai, hs_ar, hs_an, hs_aj, hs_ci, hs_cr, hs_cn, hs_cj, hs_cd, hs_cf, hs_q0, hs_q1, reduceIte, Nat.reduceEqDiff, Nat.reduceAdd, Nat.reduceLT, eq_self, List.getElem?_cons_zero, List.getElem?_cons_succ, List.set_cons_zero, List.set_cons_succ, List.length_cons, List.length_nil, Option.toList_some, Option.toList_none, List.cons_append, List.nil_append, Nat.zero_add, Nat.add_zero, List.map_nil, List.sum_nil, List.map_cons, List.sum_cons, Nat.zero_le, hs_set1, lm_I1, lm_I2, lm_I3, lm_I4, lm_J1, lm_J2, lm_J3, lm_J4, lm_N1, lm_N2, lm_N3, lm_N4, lm_T1, lm_T2, lm_T3, lm_T4, Int32.reduceLE, Int32.reduceLT, qw8.f0, qw8.a14, qw8.a18, qw8.a22, qw8.a25]
  exact loop1 (μ.2.2.1 2) 0 _ 0 _ (Nat.zero_add _) w8 rfl rfl rfl
def md_rcv (μ : LMt) (x : Int32) : Int32 := md_recv μ (μ.1 19 x.toNatClampNeg) (μ.1 20 x.toNatClampNeg) (μ.1 21 x.toNatClampNeg)
theorem md_rcv_J {μ : LMt} {k : Nat} {f : Nat → Int64} {x : Int32} : md_rcv (lm_J μ k f) x = md_rcv μ x := rfl
set_option maxRecDepth 20000 in
set_option maxHeartbeats 2000000 in
theorem cr_receivedIn {G : hl_G} {l : Launch} {b : Nat → Nat} {μ : LMt} {h0 : hl_H} {x : Int32} (hx : vp_in x 12) (hcur : ∀ i, vp_in (μ.1 0 i) 4) (hrat : ∀ i, i < 4 → ¬ (μ.1 2 i).toInt64 = 0) (hbp : ∀ i, vp_in (μ.1 19 i) 10) (hbe : ∀ i, vp_in (μ.1 20 i) 10) :
    hl_Ct G l mX8_receivedIn 1 0 0 [.ref (b 0), .int x] (LMw b μ h0) (fun r g => r = some (.int (md_rcv μ x)) ∧ LMw b (μ) h0 g) (fun _ _ => False) := by
  refine hl_body (by decide +kernel) (Nat.le_of_ble_eq_true rfl) ?_
  intro p e s m args below meth c B g hg
  have qw := hg.1
  have w := hg
  refine hl_seg B okX8_receivedIn (fun q => nomatch q) 0 1000 rfl ?_
  simp only [pX8_receivedIn, List.drop_zero, List.drop_succ_cons, hl_wp, hs_ii, hs_i1, hs_ll, hs_l1, hs_ff, hs_g1, hs_dd, hs_d1, hs_r1, hs_rv, hs_rv0, hs_n1, hs_n0, hs_v1i, hs_v1r, hs_a1, hs_d2l, hs_d2i, hs_ri, hs_rl, hs_rg, hs_rd8, hs_rr, hs_rn, hs_ov, hs_gf, hs_po, hs_pfi, hs_pfr, hs_ia, hs_la, hs_da, hs_qa, hs_al, hs_is, hs_ls, hs_ds, hs_iso, hs_lso, hs_dso, hs_rd, hs_f1, hs_f10, hs_f2, hs_f20, hs_in0, hs_in1, hs_lt, hs_le, hs_ge, hs_gt, hs_eq, hs_10, hs_00, hs_01, true_and, and_true, true_imp_iff, false_imp_iff, not_true_eq_false, not_false_eq_true, hs_av, hs_ai, hs_ar, hs_an, hs_aj, hs_ci, hs_cr, hs_cn, hs_cj, hs_cd, hs_cf, hs_q0, hs_q1, reduceIte, Nat.reduceEqDiff, Nat.reduceAdd, Nat.reduceLT, eq_self, List.getElem?_cons_zero, List.getElem?_cons_succ, List.set_cons_zero, List.set_cons_succ, List.length_cons, List.length_nil, Option.toList_some, Option.toList_none, List.cons_append, List.nil_append, Nat.zero_add, Nat.add_zero, List.map_nil, List.sum_nil, List.map_cons, List.sum_cons, Nat.zero_le, hs_set1, lm_I1, lm_I2, lm_I3, lm_I4, lm_J1, lm_J2, lm_J3, lm_J4, lm_N1, lm_N2, lm_N3, lm_N4, lm_T1, lm_T2, lm_T3, lm_T4, Int32.reduceLE, Int32.reduceLT, qw.f0, qw.a19, qw.a20, qw.a21]
  refine ⟨by first | with_reducible assumption | ((with_reducible refine vp_in_nI ?_ ?_) <;> omega) | with_reducible exact hcur _ | with_reducible exact hho _ | with_reducible exact hta _ | with_reducible exact hbp _ | with_reducible exact hbe _, ?_⟩
  refine ⟨by first | with_reducible assumption | ((with_reducible refine vp_in_nI ?_ ?_) <;> omega) | with_reducible exact hcur _ | with_reducible exact hho _ | with_reducible exact hta _ | with_reducible exact hbp _ | with_reducible exact hbe _, ?_⟩
  refine ⟨by first | with_reducible assumption | ((with_reducible refine vp_in_nI ?_ ?_) <;> omega) | with_reducible exact hcur _ | with_reducible exact hho _ | with_reducible exact hta _ | with_reducible exact hbp _ | with_reducible exact hbe _, ?_⟩
  refine hl_callV B (As := [.int _, .int _, .int _]) (cr_receivedFor (by exact hbp _) (by exact hbe _) (by exact hcur) (by exact hrat)) mtX8_receivedFor (hl_dec okX8_receivedIn 13 rfl) (kk := 1138) (by decide +kernel) rfl rfl (qw.f0) rfl (Nat.le_of_ble_eq_true rfl) (by decide) (by decide) (by decide) (by decide) w (fun r9 h9 hq => ?_) (fun _ _ hx => hx.elim)
  obtain ⟨rfl, w1⟩ := hq
  have qw1 := w1.1
  exact hl_iret B rfl rfl (hl_dec okX8_receivedIn 14 rfl) (by decide) (by decide) ⟨rfl, w1⟩
def md_z : Nat → (Nat → Int64) → Nat → Int64
  | 0, f => f
  | i + 1, f => vp_updL (md_z i f) i 0
def md_nt1 (μ : LMt) (i : Nat) (f : Nat → Int64) : Nat → Int64 := vp_updL (vp_updL f (μ.1 19 i).toNatClampNeg (f (μ.1 19 i).toNatClampNeg - (μ.1 21 i).toInt64)) (μ.1 20 i).toNatClampNeg (vp_updL f (μ.1 19 i).toNatClampNeg (f (μ.1 19 i).toNatClampNeg - (μ.1 21 i).toInt64) (μ.1 20 i).toNatClampNeg + (md_rcv μ (nI i)).toInt64)
def md_nt (μ : LMt) : Nat → (Nat → Int64) → Nat → Int64
  | 0, f => f
  | i + 1, f => md_nt1 μ i (md_nt μ i f)
set_option maxRecDepth 20000 in
set_option maxHeartbeats 2000000 in
theorem cr_layNets {G : hl_G} {l : Launch} {b : Nat → Nat} {μ : LMt} {h0 : hl_H} {f0 : Nat → Int64} {cn : Nat} (hcn : cn ≤ 12) (hcur : ∀ i, vp_in (μ.1 0 i) 4) (hrat : ∀ i, i < 4 → ¬ (μ.1 2 i).toInt64 = 0) (hbp : ∀ i, vp_in (μ.1 19 i) 10) (hbe : ∀ i, vp_in (μ.1 20 i) 10) :
    hl_Ct G l mX8_layNets 2 0 0 [.ref (b 0), .int (nI cn)] (LMw b (lm_J μ 6 f0) h0) (fun r g => r = none ∧ LMw b (lm_J μ 6 (md_nt μ cn (md_z 10 f0))) h0 g) (fun _ _ => False) := by
  refine hl_body (by decide +kernel) (Nat.le_of_ble_eq_true rfl) ?_
  intro p e s m args below meth c B g hg
  have qw := hg.1
  have w := hg
  have loop2 : ∀ (k9 i : Nat) (g9 : hl_H), i + k9 = cn → (LMw b (lm_J μ 6 (md_nt μ i (md_z 10 f0))) h0 g9) → hl_GM G mX8_layNets 2 0 0 (fun r g => r = none ∧ LMw b (lm_J μ 6 (md_nt μ cn (md_z 10 f0))) h0 g) (fun _ _ => False) p l e s m args below meth c 23 [(0, .ref (b 0)), (1, .int (nI cn)), (2, .int (nI i))] [] g9 0 0 := by
    intro k9
    induction k9 with
    | zero =>
      intro i g9  hi w9
      have hle : nI (cn) ≤ nI i := nI_le (by omega) (by have := hcn; omega)
      have qw9 := w9.1
      have hie : i = cn := by omega
      subst hie
      refine hl_seg B okX8_layNets (fun q => nomatch q) 14 18 rfl ?_
      simp only [pX8_layNets, List.drop_zero, List.drop_succ_cons, hl_wp, hs_ii, hs_i1, hs_ll, hs_l1, hs_ff, hs_g1, hs_dd, hs_d1, hs_r1, hs_rv, hs_rv0, hs_n1, hs_n0, hs_v1i, hs_v1r, hs_a1, hs_d2l, hs_d2i, hs_ri, hs_rl, hs_rg, hs_rd8, hs_rr, hs_rn, hs_ov, hs_gf, hs_po, hs_pfi, hs_pfr, hs_ia, hs_la, hs_da, hs_qa, hs_al, hs_is, hs_ls, hs_ds, hs_iso, hs_lso, hs_dso, hs_rd, hs_f1, hs_f10, hs_f2, hs_f20, hs_in0, hs_in1, hs_lt, hs_le, hs_ge, hs_gt, hs_eq, hs_10, hs_00, hs_01, true_and, and_true, true_imp_iff, false_imp_iff, not_true_eq_false, not_false_eq_true, hs_av, hs_ai, hs_ar, hs_an, hs_aj, hs_ci, hs_cr, hs_cn, hs_cj, hs_cd, hs_cf, hs_q0, hs_q1, reduceIte, Nat.reduceEqDiff, Nat.reduceAdd, Nat.reduceLT, eq_self, List.getElem?_cons_zero, List.getElem?_cons_succ, List.set_cons_zero, List.set_cons_succ, List.length_cons, List.length_nil, Option.toList_some, Option.toList_none, List.cons_append, List.nil_append, Nat.zero_add, Nat.add_zero, List.map_nil, List.sum_nil, List.map_cons, List.sum_cons, Nat.zero_le, hs_set1, lm_I1, lm_I2, lm_I3, lm_I4, lm_J1, lm_J2, lm_J3, lm_J4, lm_N1, lm_N2, lm_N3, lm_N4, lm_T1, lm_T2, lm_T3, lm_T4, Int32.reduceLE, Int32.reduceLT, qw9.f0, qw9.a6, qw9.a19, qw9.a20, qw9.a21, hle]
      exact hl_vret B rfl (hl_dec okX8_layNets 48 rfl) (by decide) (by decide) ⟨rfl, w9⟩
    | succ k9 ih =>
      intro i g9  hi w9
      have hlt : ¬ nI (cn) ≤ nI i := nI_ge (by omega) (by have := hcn; omega)
      have qw9 := w9.1
      have hcl : (nI i).toNatClampNeg = i := nI_clamp (by omega)
      refine hl_seg B okX8_layNets (fun q => nomatch q) 14 18 rfl ?_
      simp only [pX8_layNets, List.drop_zero, List.drop_succ_cons, hl_wp, hs_ii, hs_i1, hs_ll, hs_l1, hs_ff, hs_g1, hs_dd, hs_d1, hs_r1, hs_rv, hs_rv0, hs_n1, hs_n0, hs_v1i, hs_v1r, hs_a1, hs_d2l, hs_d2i, hs_ri, hs_rl, hs_rg, hs_rd8, hs_rr, hs_rn, hs_ov, hs_gf, hs_po, hs_pfi, hs_pfr, hs_ia, hs_la, hs_da, hs_qa, hs_al, hs_is, hs_ls, hs_ds, hs_iso, hs_lso, hs_dso, hs_rd, hs_f1, hs_f10, hs_f2, hs_f20, hs_in0, hs_in1, hs_lt, hs_le, hs_ge, hs_gt, hs_eq, hs_10, hs_00, hs_01, true_and, and_true, true_imp_iff, false_imp_iff, not_true_eq_false, not_false_eq_true, hs_av, hs_ai, hs_ar, hs_an, hs_aj, hs_ci, hs_cr, hs_cn, hs_cj, hs_cd, hs_cf, hs_q0, hs_q1, reduceIte, Nat.reduceEqDiff, Nat.reduceAdd, Nat.reduceLT, eq_self, List.getElem?_cons_zero, List.getElem?_cons_succ, List.set_cons_zero, List.set_cons_succ, List.length_cons, List.length_nil, Option.toList_some, Option.toList_none, List.cons_append, List.nil_append, Nat.zero_add, Nat.add_zero, List.map_nil, List.sum_nil, List.map_cons, List.sum_cons, Nat.zero_le, hs_set1, lm_I1, lm_I2, lm_I3, lm_I4, lm_J1, lm_J2, lm_J3, lm_J4, lm_N1, lm_N2, lm_N3, lm_N4, lm_T1, lm_T2, lm_T3, lm_T4, Int32.reduceLE, Int32.reduceLT, qw9.f0, qw9.a6, qw9.a19, qw9.a20, qw9.a21, hlt, hcl]
      refine ⟨by first | with_reducible assumption | ((with_reducible refine vp_in_nI ?_ ?_) <;> omega) | with_reducible exact hcur _ | with_reducible exact hho _ | with_reducible exact hta _ | with_reducible exact hbp _ | with_reducible exact hbe _, ?_⟩
      refine ⟨by first | with_reducible assumption | ((with_reducible refine vp_in_nI ?_ ?_) <;> omega) | with_reducible exact hcur _ | with_reducible exact hho _ | with_reducible exact hta _ | with_reducible exact hbp _ | with_reducible exact hbe _, ?_⟩
      refine ⟨by first | with_reducible assumption | ((with_reducible refine vp_in_nI ?_ ?_) <;> omega) | with_reducible exact hcur _ | with_reducible exact hho _ | with_reducible exact hta _ | with_reducible exact hbp _ | with_reducible exact hbe _, ?_⟩
      refine ⟨by first | with_reducible assumption | ((with_reducible refine vp_in_nI ?_ ?_) <;> omega) | with_reducible exact hcur _ | with_reducible exact hho _ | with_reducible exact hta _ | with_reducible exact hbp _ | with_reducible exact hbe _, ?_⟩
      refine hl_st (w9.s6 _) (fun gw1 w1 => ?_)
      have qw1 := w1.1
      refine hl_seg B okX8_layNets (fun q => nomatch q) 32 14 rfl ?_
      simp only [pX8_layNets, List.drop_zero, List.drop_succ_cons, hl_wp, hs_ii, hs_i1, hs_ll, hs_l1, hs_ff, hs_g1, hs_dd, hs_d1, hs_r1, hs_rv, hs_rv0, hs_n1, hs_n0, hs_v1i, hs_v1r, hs_a1, hs_d2l, hs_d2i, hs_ri, hs_rl, hs_rg, hs_rd8, hs_rr, hs_rn, hs_ov, hs_gf, hs_po, hs_pfi, hs_pfr, hs_ia, hs_la, hs_da, hs_qa, hs_al, hs_is, hs_ls, hs_ds, hs_iso, hs_lso, hs_dso, hs_rd, hs_f1, hs_f10, hs_f2, hs_f20, hs_in0, hs_in1, hs_lt, hs_le, hs_ge, hs_gt, hs_eq, hs_10, hs_00, hs_01, true_and, and_true, true_imp_iff, false_imp_iff, not_true_eq_false, not_false_eq_true, hs_av, hs_ai, hs_ar, hs_an, hs_aj, hs_ci, hs_cr, hs_cn, hs_cj, hs_cd, hs_cf, hs_q0, hs_q1, reduceIte, Nat.reduceEqDiff, Nat.reduceAdd, Nat.reduceLT, eq_self, List.getElem?_cons_zero, List.getElem?_cons_succ, List.set_cons_zero, List.set_cons_succ, List.length_cons, List.length_nil, Option.toList_some, Option.toList_none, List.cons_append, List.nil_append, Nat.zero_add, Nat.add_zero, List.map_nil, List.sum_nil, List.map_cons, List.sum_cons, Nat.zero_le, hs_set1, lm_I1, lm_I2, lm_I3, lm_I4, lm_J1, lm_J2, lm_J3, lm_J4, lm_N1, lm_N2, lm_N3, lm_N4, lm_T1, lm_T2, lm_T3, lm_T4, Int32.reduceLE, Int32.reduceLT, qw1.f0, qw1.a6, qw1.a19, qw1.a20, qw1.a21, hlt, hcl]
      refine ⟨by first | with_reducible assumption | ((with_reducible refine vp_in_nI ?_ ?_) <;> omega) | with_reducible exact hcur _ | with_reducible exact hho _ | with_reducible exact hta _ | with_reducible exact hbp _ | with_reducible exact hbe _, ?_⟩
      refine ⟨by first | with_reducible assumption | ((with_reducible refine vp_in_nI ?_ ?_) <;> omega) | with_reducible exact hcur _ | with_reducible exact hho _ | with_reducible exact hta _ | with_reducible exact hbp _ | with_reducible exact hbe _, ?_⟩
      refine hl_callV B (As := [.int _]) (cr_receivedIn (by exact vp_in_nI (by omega) (by decide)) (by exact hcur) (by exact hrat) (by exact hbp) (by exact hbe)) mtX8_receivedIn (hl_dec okX8_layNets 42 rfl) (kk := 1206) (by decide +kernel) rfl rfl (qw1.f0) rfl (Nat.le_of_ble_eq_true rfl) (by decide) (by decide) (by decide) (by decide) w1 (fun r9 h9 hq => ?_) (fun _ _ hx => hx.elim)
      obtain ⟨rfl, w2⟩ := hq
      have qw2 := w2.1
      refine hl_seg B okX8_layNets (fun q => nomatch q) 43 3 rfl ?_
      simp only [pX8_layNets, List.drop_zero, List.drop_succ_cons, hl_wp, hs_ii, hs_i1, hs_ll, hs_l1, hs_ff, hs_g1, hs_dd, hs_d1, hs_r1, hs_rv, hs_rv0, hs_n1, hs_n0, hs_v1i, hs_v1r, hs_a1, hs_d2l, hs_d2i, hs_ri, hs_rl, hs_rg, hs_rd8, hs_rr, hs_rn, hs_ov, hs_gf, hs_po, hs_pfi, hs_pfr, hs_ia, hs_la, hs_da, hs_qa, hs_al, hs_is, hs_ls, hs_ds, hs_iso, hs_lso, hs_dso, hs_rd, hs_f1, hs_f10, hs_f2, hs_f20, hs_in0, hs_in1, hs_lt, hs_le, hs_ge, hs_gt, hs_eq, hs_10, hs_00, hs_01, true_and, and_true, true_imp_iff, false_imp_iff, not_true_eq_false, not_false_eq_true, hs_av, hs_ai, hs_ar, hs_an, hs_aj, hs_ci, hs_cr, hs_cn, hs_cj, hs_cd, hs_cf, hs_q0, hs_q1, reduceIte, Nat.reduceEqDiff, Nat.reduceAdd, Nat.reduceLT, eq_self, List.getElem?_cons_zero, List.getElem?_cons_succ, List.set_cons_zero, List.set_cons_succ, List.length_cons, List.length_nil, Option.toList_some, Option.toList_none, List.cons_append, List.nil_append, Nat.zero_add, Nat.add_zero, List.map_nil, List.sum_nil, List.map_cons, List.sum_cons, Nat.zero_le, hs_set1, lm_I1, lm_I2, lm_I3, lm_I4, lm_J1, lm_J2, lm_J3, lm_J4, lm_N1, lm_N2, lm_N3, lm_N4, lm_T1, lm_T2, lm_T3, lm_T4, Int32.reduceLE, Int32.reduceLT, qw2.f0, qw2.a6, qw2.a19, qw2.a20, qw2.a21, hlt, hcl]
      refine ⟨by first | with_reducible assumption | ((with_reducible refine vp_in_nI ?_ ?_) <;> omega) | with_reducible exact hcur _ | with_reducible exact hho _ | with_reducible exact hta _ | with_reducible exact hbp _ | with_reducible exact hbe _, ?_⟩
      refine hl_st (w2.s6 _) (fun gw3 w3 => ?_)
      have qw3 := w3.1
      refine hl_seg B okX8_layNets (fun q => nomatch q) 46 1000 rfl ?_
      simp only [pX8_layNets, List.drop_zero, List.drop_succ_cons, hl_wp, hs_ii, hs_i1, hs_ll, hs_l1, hs_ff, hs_g1, hs_dd, hs_d1, hs_r1, hs_rv, hs_rv0, hs_n1, hs_n0, hs_v1i, hs_v1r, hs_a1, hs_d2l, hs_d2i, hs_ri, hs_rl, hs_rg, hs_rd8, hs_rr, hs_rn, hs_ov, hs_gf, hs_po, hs_pfi, hs_pfr, hs_ia, hs_la, hs_da, hs_qa, hs_al, hs_is, hs_ls, hs_ds, hs_iso, hs_lso, hs_dso, hs_rd, hs_f1, hs_f10, hs_f2, hs_f20, hs_in0, hs_in1, hs_lt, hs_le, hs_ge, hs_gt, hs_eq, hs_10, hs_00, hs_01, true_and, and_true, true_imp_iff, false_imp_iff, not_true_eq_false, not_false_eq_true, hs_av, hs_ai, hs_ar, hs_an, hs_aj, hs_ci, hs_cr, hs_cn, hs_cj, hs_cd, hs_cf, hs_q0, hs_q1, reduceIte, Nat.reduceEqDiff, Nat.reduceAdd, Nat.reduceLT, eq_self, List.getElem?_cons_zero, List.getElem?_cons_succ, List.set_cons_zero, List.set_cons_succ, List.length_cons, List.length_nil, Option.toList_some, Option.toList_none, List.cons_append, List.nil_append, Nat.zero_add, Nat.add_zero, List.map_nil, List.sum_nil, List.map_cons, List.sum_cons, Nat.zero_le, hs_set1, lm_I1, lm_I2, lm_I3, lm_I4, lm_J1, lm_J2, lm_J3, lm_J4, lm_N1, lm_N2, lm_N3, lm_N4, lm_T1, lm_T2, lm_T3, lm_T4, Int32.reduceLE, Int32.reduceLT, qw3.f0, qw3.a6, qw3.a19, qw3.a20, qw3.a21, hlt, hcl]
      have hcs : nI i + 1 = nI (i + 1) := nI_1 i
      simp only [hcs]
      have w8 := w3
      rw [lm_JJ, lm_JJ] at w8
      exact ih (i + 1) _ (by omega) w8
  have loop1 : ∀ (k9 i : Nat) (g9 : hl_H), i + k9 = 10 → (LMw b (lm_J μ 6 (md_z i f0)) h0 g9) → hl_GM G mX8_layNets 2 0 0 (fun r g => r = none ∧ LMw b (lm_J μ 6 (md_nt μ cn (md_z 10 f0))) h0 g) (fun _ _ => False) p l e s m args below meth c 2 [(0, .ref (b 0)), (1, .int (nI cn)), (2, .int (nI i))] [] g9 0 0 := by
    intro k9
    induction k9 with
    | zero =>
      intro i g9  hi w9
      have hle : (10 : Int32) ≤ nI i := nI_le (a := 10) (by omega) (by omega)
      have qw9 := w9.1
      have hie : i = 10 := by omega
      subst hie
      refine hl_seg B okX8_layNets (fun q => nomatch q) 2 8 rfl ?_
      simp only [pX8_layNets, List.drop_zero, List.drop_succ_cons, hl_wp, hs_ii, hs_i1, hs_ll, hs_l1, hs_ff, hs_g1, hs_dd, hs_d1, hs_r1, hs_rv, hs_rv0, hs_n1, hs_n0, hs_v1i, hs_v1r, hs_a1, hs_d2l, hs_d2i, hs_ri, hs_rl, hs_rg, hs_rd8, hs_rr, hs_rn, hs_ov, hs_gf, hs_po, hs_pfi, hs_pfr, hs_ia, hs_la, hs_da, hs_qa, hs_al, hs_is, hs_ls, hs_ds, hs_iso, hs_lso, hs_dso, hs_rd, hs_f1, hs_f10, hs_f2, hs_f20, hs_in0, hs_in1, hs_lt, hs_le, hs_ge, hs_gt, hs_eq, hs_10, hs_00, hs_01, true_and, and_true, true_imp_iff, false_imp_iff, not_true_eq_false, not_false_eq_true, hs_av, hs_ai, hs_ar, hs_an, hs_aj, hs_ci, hs_cr, hs_cn, hs_cj, hs_cd, hs_cf, hs_q0, hs_q1, reduceIte, Nat.reduceEqDiff, Nat.reduceAdd, Nat.reduceLT, eq_self, List.getElem?_cons_zero, List.getElem?_cons_succ, List.set_cons_zero, List.set_cons_succ, List.length_cons, List.length_nil, Option.toList_some, Option.toList_none, List.cons_append, List.nil_append, Nat.zero_add, Nat.add_zero, List.map_nil, List.sum_nil, List.map_cons, List.sum_cons, Nat.zero_le, hs_set1, lm_I1, lm_I2, lm_I3, lm_I4, lm_J1, lm_J2, lm_J3, lm_J4, lm_N1, lm_N2, lm_N3, lm_N4, lm_T1, lm_T2, lm_T3, lm_T4, Int32.reduceLE, Int32.reduceLT, qw9.f0, qw9.a6, qw9.a19, qw9.a20, qw9.a21, hle]
      refine hl_seg B okX8_layNets (fun q => nomatch q) 12 2 rfl ?_
      simp only [pX8_layNets, List.drop_zero, List.drop_succ_cons, hl_wp, hs_ii, hs_i1, hs_ll, hs_l1, hs_ff, hs_g1, hs_dd, hs_d1, hs_r1, hs_rv, hs_rv0, hs_n1, hs_n0, hs_v1i, hs_v1r, hs_a1, hs_d2l, hs_d2i, hs_ri, hs_rl, hs_rg, hs_rd8, hs_rr, hs_rn, hs_ov, hs_gf, hs_po, hs_pfi, hs_pfr, hs_ia, hs_la, hs_da, hs_qa, hs_al, hs_is, hs_ls, hs_ds, hs_iso, hs_lso, hs_dso, hs_rd, hs_f1, hs_f10, hs_f2, hs_f20, hs_in0, hs_in1, hs_lt, hs_le, hs_ge, hs_gt, hs_eq, hs_10, hs_00, hs_01, true_and, and_true, true_imp_iff, false_imp_iff, not_true_eq_false, not_false_eq_true, hs_av, hs_ai, hs_ar, hs_an, hs_aj, hs_ci, hs_cr, hs_cn, hs_cj, hs_cd, hs_cf, hs_q0, hs_q1, reduceIte, Nat.reduceEqDiff, Nat.reduceAdd, Nat.reduceLT, eq_self, List.getElem?_cons_zero, List.getElem?_cons_succ, List.set_cons_zero, List.set_cons_succ, List.length_cons, List.length_nil, Option.toList_some, Option.toList_none, List.cons_append, List.nil_append, Nat.zero_add, Nat.add_zero, List.map_nil, List.sum_nil, List.map_cons, List.sum_cons, Nat.zero_le, hs_set1, lm_I1, lm_I2, lm_I3, lm_I4, lm_J1, lm_J2, lm_J3, lm_J4, lm_N1, lm_N2, lm_N3, lm_N4, lm_T1, lm_T2, lm_T3, lm_T4, Int32.reduceLE, Int32.reduceLT, qw9.f0, qw9.a6, qw9.a19, qw9.a20, qw9.a21, hle]
      exact loop2 cn 0 _ (Nat.zero_add _) w9
    | succ k9 ih =>
      intro i g9  hi w9
      have hlt : ¬ (10 : Int32) ≤ nI i := nI_ge (b := 10) (by omega) (by omega)
      have qw9 := w9.1
      have hcl : (nI i).toNatClampNeg = i := nI_clamp (by omega)
      refine hl_seg B okX8_layNets (fun q => nomatch q) 2 8 rfl ?_
      simp only [pX8_layNets, List.drop_zero, List.drop_succ_cons, hl_wp, hs_ii, hs_i1, hs_ll, hs_l1, hs_ff, hs_g1, hs_dd, hs_d1, hs_r1, hs_rv, hs_rv0, hs_n1, hs_n0, hs_v1i, hs_v1r, hs_a1, hs_d2l, hs_d2i, hs_ri, hs_rl, hs_rg, hs_rd8, hs_rr, hs_rn, hs_ov, hs_gf, hs_po, hs_pfi, hs_pfr, hs_ia, hs_la, hs_da, hs_qa, hs_al, hs_is, hs_ls, hs_ds, hs_iso, hs_lso, hs_dso, hs_rd, hs_f1, hs_f10, hs_f2, hs_f20, hs_in0, hs_in1, hs_lt, hs_le, hs_ge, hs_gt, hs_eq, hs_10, hs_00, hs_01, true_and, and_true, true_imp_iff, false_imp_iff, not_true_eq_false, not_false_eq_true, hs_av, hs_ai, hs_ar, hs_an, hs_aj, hs_ci, hs_cr, hs_cn, hs_cj, hs_cd, hs_cf, hs_q0, hs_q1, reduceIte, Nat.reduceEqDiff, Nat.reduceAdd, Nat.reduceLT, eq_self, List.getElem?_cons_zero, List.getElem?_cons_succ, List.set_cons_zero, List.set_cons_succ, List.length_cons, List.length_nil, Option.toList_some, Option.toList_none, List.cons_append, List.nil_append, Nat.zero_add, Nat.add_zero, List.map_nil, List.sum_nil, List.map_cons, List.sum_cons, Nat.zero_le, hs_set1, lm_I1, lm_I2, lm_I3, lm_I4, lm_J1, lm_J2, lm_J3, lm_J4, lm_N1, lm_N2, lm_N3, lm_N4, lm_T1, lm_T2, lm_T3, lm_T4, Int32.reduceLE, Int32.reduceLT, qw9.f0, qw9.a6, qw9.a19, qw9.a20, qw9.a21, hlt, hcl]
      refine ⟨by first | with_reducible assumption | ((with_reducible refine vp_in_nI ?_ ?_) <;> omega) | with_reducible exact hcur _ | with_reducible exact hho _ | with_reducible exact hta _ | with_reducible exact hbp _ | with_reducible exact hbe _, ?_⟩
      refine hl_st (w9.s6 _) (fun gw4 w4 => ?_)
      have qw4 := w4.1
      refine hl_seg B okX8_layNets (fun q => nomatch q) 10 4 rfl ?_
      simp only [pX8_layNets, List.drop_zero, List.drop_succ_cons, hl_wp, hs_ii, hs_i1, hs_ll, hs_l1, hs_ff, hs_g1, hs_dd, hs_d1, hs_r1, hs_rv, hs_rv0, hs_n1, hs_n0, hs_v1i, hs_v1r, hs_a1, hs_d2l, hs_d2i, hs_ri, hs_rl, hs_rg, hs_rd8, hs_rr, hs_rn, hs_ov, hs_gf, hs_po, hs_pfi, hs_pfr, hs_ia, hs_la, hs_da, hs_qa, hs_al, hs_is, hs_ls, hs_ds, hs_iso, hs_lso, hs_dso, hs_rd, hs_f1, hs_f10, hs_f2, hs_f20, hs_in0, hs_in1, hs_lt, hs_le, hs_ge, hs_gt, hs_eq, hs_10, hs_00, hs_01, true_and, and_true, true_imp_iff, false_imp_iff, not_true_eq_false, not_false_eq_true, hs_av, hs_ai, hs_ar, hs_an, hs_aj, hs_ci, hs_cr, hs_cn, hs_cj, hs_cd, hs_cf, hs_q0, hs_q1, reduceIte, Nat.reduceEqDiff, Nat.reduceAdd, Nat.reduceLT, eq_self, List.getElem?_cons_zero, List.getElem?_cons_succ, List.set_cons_zero, List.set_cons_succ, List.length_cons, List.length_nil, Option.toList_some, Option.toList_none, List.cons_append, List.nil_append, Nat.zero_add, Nat.add_zero, List.map_nil, List.sum_nil, List.map_cons, List.sum_cons, Nat.zero_le, hs_set1, lm_I1, lm_I2, lm_I3, lm_I4, lm_J1, lm_J2, lm_J3, lm_J4, lm_N1, lm_N2, lm_N3, lm_N4, lm_T1, lm_T2, lm_T3, lm_T4, Int32.reduceLE, Int32.reduceLT, qw4.f0, qw4.a6, qw4.a19, qw4.a20, qw4.a21, hlt, hcl]
      have hcs : nI i + 1 = nI (i + 1) := nI_1 i
      simp only [hcs]
      have w8 := w4
      rw [lm_JJ] at w8
      exact ih (i + 1) _ (by omega) w8
  refine hl_seg B okX8_layNets (fun q => nomatch q) 0 2 rfl ?_
  simp only [pX8_layNets, List.drop_zero, List.drop_succ_cons, hl_wp, hs_ii, hs_i1, hs_ll, hs_l1, hs_ff, hs_g1, hs_dd, hs_d1, hs_r1, hs_rv, hs_rv0, hs_n1, hs_n0, hs_v1i, hs_v1r, hs_a1, hs_d2l, hs_d2i, hs_ri, hs_rl, hs_rg, hs_rd8, hs_rr, hs_rn, hs_ov, hs_gf, hs_po, hs_pfi, hs_pfr, hs_ia, hs_la, hs_da, hs_qa, hs_al, hs_is, hs_ls, hs_ds, hs_iso, hs_lso, hs_dso, hs_rd, hs_f1, hs_f10, hs_f2, hs_f20, hs_in0, hs_in1, hs_lt, hs_le, hs_ge, hs_gt, hs_eq, hs_10, hs_00, hs_01, true_and, and_true, true_imp_iff, false_imp_iff, not_true_eq_false, not_false_eq_true, hs_av, hs_ai, hs_ar, hs_an, hs_aj, hs_ci, hs_cr, hs_cn, hs_cj, hs_cd, hs_cf, hs_q0, hs_q1, reduceIte, Nat.reduceEqDiff, Nat.reduceAdd, Nat.reduceLT, eq_self, List.getElem?_cons_zero, List.getElem?_cons_succ, List.set_cons_zero, List.set_cons_succ, List.length_cons, List.length_nil, Option.toList_some, Option.toList_none, List.cons_append, List.nil_append, Nat.zero_add, Nat.add_zero, List.map_nil, List.sum_nil, List.map_cons, List.sum_cons, Nat.zero_le, hs_set1, lm_I1, lm_I2, lm_I3, lm_I4, lm_J1, lm_J2, lm_J3, lm_J4, lm_N1, lm_N2, lm_N3, lm_N4, lm_T1, lm_T2, lm_T3, lm_T4, Int32.reduceLE, Int32.reduceLT, qw.f0, qw.a6, qw.a19, qw.a20, qw.a21]
  exact loop1 10 0 _ rfl w
def md_rk (μ : LMt) : Nat → Nat → Bool
  | 0, _ => true
  | k + 1, i => if md_rcv μ (nI i) = 0 then false else md_rk μ k (i + 1)
def md_ak (μ : LMt) (f : Nat → Int64) : Nat → Nat → Bool
  | 0, _ => true
  | k + 1, i => if 0 ≤ md_av μ (nI i) + f i then md_ak μ f k (i + 1) else false
def md_can (μ : LMt) (cn : Nat) : Bool := if nI (μ.2.2.1 1) + nI cn ≤ 150 then (if md_rk μ cn 0 = true then md_ak μ (md_nt μ cn (md_z 10 (fun _ => 0))) (μ.2.2.1 0) 0 else false) else false
theorem md_z_ag (f g : Nat → Int64) : ∀ i, ls_ag i (md_z i f) (md_z i g)
  | 0 => fun j hj => absurd hj (Nat.not_lt_zero j)
  | i + 1 => fun j hj => by
    by_cases e : j = i
    · subst e; simp [md_z, vp_updL]
    · simp [md_z, vp_updL, e, md_z_ag f g i j (by omega)]
theorem md_up_ag {n : Nat} {f g : Nat → Int64} (h : ls_ag n f g) (i : Nat) {v w : Int64} (hv : v = w) : ls_ag n (vp_updL f i v) (vp_updL g i w) := by
  intro j hj
  by_cases e : j = i
  · simp [vp_updL, e, hv]
  · simp [vp_updL, e, h j hj]
theorem md_nt_ag (μ : LMt) (hbp : ∀ i, vp_in (μ.1 19 i) 10) (hbe : ∀ i, vp_in (μ.1 20 i) 10) {f g : Nat → Int64} (h : ls_ag 10 f g) : ∀ i, ls_ag 10 (md_nt μ i f) (md_nt μ i g)
  | 0 => h
  | i + 1 => by
    have h1 := md_nt_ag μ hbp hbe h i
    simp only [md_nt, md_nt1]
    have h2 := md_up_ag h1 (μ.1 19 i).toNatClampNeg (v := md_nt μ i f (μ.1 19 i).toNatClampNeg - (μ.1 21 i).toInt64) (w := md_nt μ i g (μ.1 19 i).toNatClampNeg - (μ.1 21 i).toInt64) (by rw [h1 _ (vp_in_lt (hbp i))])
    exact md_up_ag h2 _ (by rw [h2 _ (vp_in_lt (hbe i))])
theorem md_ak_ag (μ : LMt) {f g : Nat → Int64} (h : ls_ag 10 f g) : ∀ k i, i + k ≤ 10 → md_ak μ f k i = md_ak μ g k i
  | 0, _, _ => rfl
  | k + 1, i, hi => by
    simp only [md_ak]
    rw [h i (by omega), md_ak_ag μ h k (i + 1) (by omega)]
theorem md_av_J {μ : LMt} {f : Nat → Int64} {x : Int32} : md_av (lm_J μ 6 f) x = md_av μ x := rfl
set_option maxRecDepth 20000 in
set_option maxHeartbeats 2000000 in
theorem cr_canSettle {G : hl_G} {l : Launch} {b : Nat → Nat} {μ : LMt} {h0 : hl_H} {f0 : Nat → Int64} {cn : Nat} (hcn : cn ≤ 12) (hb0 : μ.2.2.1 0 ≤ 10) (hb2 : μ.2.2.1 2 ≤ 30) (hcur : ∀ i, vp_in (μ.1 0 i) 4) (hrat : ∀ i, i < 4 → ¬ (μ.1 2 i).toInt64 = 0) (hbp : ∀ i, vp_in (μ.1 19 i) 10) (hbe : ∀ i, vp_in (μ.1 20 i) 10) :
    hl_Ct G l mX8_canSettle 5 0 0 [.ref (b 0), .int (nI cn)] (LMw b (lm_J μ 6 f0) h0) (fun r g => r = some (.int (if md_can μ cn = true then 1 else 0)) ∧ ∃ f : Nat → Int64, LMw b (lm_J (μ) 6 f) h0 g) (fun _ _ => False) := by
  refine hl_body (by decide +kernel) (Nat.le_of_ble_eq_true rfl) ?_
  intro p e s m args below meth c B g hg
  have qw := hg.1
  have w := hg
  have loop2 : ∀ (k9 i : Nat) (g9 : hl_H), i + k9 = μ.2.2.1 0 → (LMw b (lm_J μ 6 (md_nt μ cn (md_z 10 f0))) h0 g9) → (md_can μ cn = md_ak μ (md_nt μ cn (md_z 10 f0)) k9 i) → hl_GM G mX8_canSettle 5 0 0 (fun r g => r = some (.int (if md_can μ cn = true then 1 else 0)) ∧ ∃ f : Nat → Int64, LMw b (lm_J (μ) 6 f) h0 g) (fun _ _ => False) p l e s m args below meth c 44 [(0, .ref (b 0)), (1, .int (nI cn)), (2, .int (nI i))] [] g9 0 0 := by
    intro k9
    induction k9 with
    | zero =>
      intro i g9  hi w9 hx
      have hle : nI (μ.2.2.1 0) ≤ nI i := nI_le (by omega) (by have := hb0; omega)
      have qw9 := w9.1
      refine hl_seg B okX8_canSettle (fun q => nomatch q) 26 1000 rfl ?_
      simp only [pX8_canSettle, List.drop_zero, List.drop_succ_cons, hl_wp, hs_ii, hs_i1, hs_ll, hs_l1, hs_ff, hs_g1, hs_dd, hs_d1, hs_r1, hs_rv, hs_rv0, hs_n1, hs_n0, hs_v1i, hs_v1r, hs_a1, hs_d2l, hs_d2i, hs_ri, hs_rl, hs_rg, hs_rd8, hs_rr, hs_rn, hs_ov, hs_gf, hs_po, hs_pfi, hs_pfr, hs_ia, hs_la, hs_da, hs_qa, hs_al, hs_is, hs_ls, hs_ds, hs_iso, hs_lso, hs_dso, hs_rd, hs_f1, hs_f10, hs_f2, hs_f20, hs_in0, hs_in1, hs_lt, hs_le, hs_ge, hs_gt, hs_eq, hs_10, hs_00, hs_01, true_and, and_true, true_imp_iff, false_imp_iff, not_true_eq_false, not_false_eq_true, hs_av, hs_ai, hs_ar, hs_an, hs_aj, hs_ci, hs_cr, hs_cn, hs_cj, hs_cd, hs_cf, hs_q0, hs_q1, reduceIte, Nat.reduceEqDiff, Nat.reduceAdd, Nat.reduceLT, eq_self, List.getElem?_cons_zero, List.getElem?_cons_succ, List.set_cons_zero, List.set_cons_succ, List.length_cons, List.length_nil, Option.toList_some, Option.toList_none, List.cons_append, List.nil_append, Nat.zero_add, Nat.add_zero, List.map_nil, List.sum_nil, List.map_cons, List.sum_cons, Nat.zero_le, hs_set1, lm_I1, lm_I2, lm_I3, lm_I4, lm_J1, lm_J2, lm_J3, lm_J4, lm_N1, lm_N2, lm_N3, lm_N4, lm_T1, lm_T2, lm_T3, lm_T4, Int32.reduceLE, Int32.reduceLT, qw9.f0, qw9.a6, hle]
      refine hl_seg B okX8_canSettle (fun q => nomatch q) 45 1000 rfl ?_
      simp only [pX8_canSettle, List.drop_zero, List.drop_succ_cons, hl_wp, hs_ii, hs_i1, hs_ll, hs_l1, hs_ff, hs_g1, hs_dd, hs_d1, hs_r1, hs_rv, hs_rv0, hs_n1, hs_n0, hs_v1i, hs_v1r, hs_a1, hs_d2l, hs_d2i, hs_ri, hs_rl, hs_rg, hs_rd8, hs_rr, hs_rn, hs_ov, hs_gf, hs_po, hs_pfi, hs_pfr, hs_ia, hs_la, hs_da, hs_qa, hs_al, hs_is, hs_ls, hs_ds, hs_iso, hs_lso, hs_dso, hs_rd, hs_f1, hs_f10, hs_f2, hs_f20, hs_in0, hs_in1, hs_lt, hs_le, hs_ge, hs_gt, hs_eq, hs_10, hs_00, hs_01, true_and, and_true, true_imp_iff, false_imp_iff, not_true_eq_false, not_false_eq_true, hs_av, hs_ai, hs_ar, hs_an, hs_aj, hs_ci, hs_cr, hs_cn, hs_cj, hs_cd, hs_cf, hs_q0, hs_q1, reduceIte, Nat.reduceEqDiff, Nat.reduceAdd, Nat.reduceLT, eq_self, List.getElem?_cons_zero, List.getElem?_cons_succ, List.set_cons_zero, List.set_cons_succ, List.length_cons, List.length_nil, Option.toList_some, Option.toList_none, List.cons_append, List.nil_append, Nat.zero_add, Nat.add_zero, List.map_nil, List.sum_nil, List.map_cons, List.sum_cons, Nat.zero_le, hs_set1, lm_I1, lm_I2, lm_I3, lm_I4, lm_J1, lm_J2, lm_J3, lm_J4, lm_N1, lm_N2, lm_N3, lm_N4, lm_T1, lm_T2, lm_T3, lm_T4, Int32.reduceLE, Int32.reduceLT, qw9.f0, qw9.a6, hle]
      exact hl_iret B rfl (by first | rfl | decide | (split <;> rfl)) (hl_dec okX8_canSettle 46 rfl) (by decide) (by decide) ⟨by rw [hx]; simp only [md_ak, if_true], _, w9⟩
    | succ k9 ih =>
      intro i g9  hi w9 hx
      have hlt : ¬ nI (μ.2.2.1 0) ≤ nI i := nI_ge (by omega) (by have := hb0; omega)
      have qw9 := w9.1
      have hcl : (nI i).toNatClampNeg = i := nI_clamp (by omega)
      refine hl_seg B okX8_canSettle (fun q => nomatch q) 26 1000 rfl ?_
      simp only [pX8_canSettle, List.drop_zero, List.drop_succ_cons, hl_wp, hs_ii, hs_i1, hs_ll, hs_l1, hs_ff, hs_g1, hs_dd, hs_d1, hs_r1, hs_rv, hs_rv0, hs_n1, hs_n0, hs_v1i, hs_v1r, hs_a1, hs_d2l, hs_d2i, hs_ri, hs_rl, hs_rg, hs_rd8, hs_rr, hs_rn, hs_ov, hs_gf, hs_po, hs_pfi, hs_pfr, hs_ia, hs_la, hs_da, hs_qa, hs_al, hs_is, hs_ls, hs_ds, hs_iso, hs_lso, hs_dso, hs_rd, hs_f1, hs_f10, hs_f2, hs_f20, hs_in0, hs_in1, hs_lt, hs_le, hs_ge, hs_gt, hs_eq, hs_10, hs_00, hs_01, true_and, and_true, true_imp_iff, false_imp_iff, not_true_eq_false, not_false_eq_true, hs_av, hs_ai, hs_ar, hs_an, hs_aj, hs_ci, hs_cr, hs_cn, hs_cj, hs_cd, hs_cf, hs_q0, hs_q1, reduceIte, Nat.reduceEqDiff, Nat.reduceAdd, Nat.reduceLT, eq_self, List.getElem?_cons_zero, List.getElem?_cons_succ, List.set_cons_zero, List.set_cons_succ, List.length_cons, List.length_nil, Option.toList_some, Option.toList_none, List.cons_append, List.nil_append, Nat.zero_add, Nat.add_zero, List.map_nil, List.sum_nil, List.map_cons, List.sum_cons, Nat.zero_le, hs_set1, lm_I1, lm_I2, lm_I3, lm_I4, lm_J1, lm_J2, lm_J3, lm_J4, lm_N1, lm_N2, lm_N3, lm_N4, lm_T1, lm_T2, lm_T3, lm_T4, Int32.reduceLE, Int32.reduceLT, qw9.f0, qw9.a6, hlt, hcl, md_av_J]
      refine hl_callV B (As := [.int _]) (cr_availableOf (by exact hb2) (by exact vp_in_nI (by omega) (by decide))) mtX8_availableOf (hl_dec okX8_canSettle 32 rfl) (kk := 1083) (by decide +kernel) rfl rfl (qw9.f0) rfl (Nat.le_of_ble_eq_true rfl) (by decide) (by decide) (by decide) (by decide) w9 (fun r9 h9 hq => ?_) (fun _ _ hx => hx.elim)
      obtain ⟨rfl, w1⟩ := hq
      have qw1 := w1.1
      refine hl_seg B okX8_canSettle (fun q => nomatch q) 33 1000 rfl ?_
      simp only [pX8_canSettle, List.drop_zero, List.drop_succ_cons, hl_wp, hs_ii, hs_i1, hs_ll, hs_l1, hs_ff, hs_g1, hs_dd, hs_d1, hs_r1, hs_rv, hs_rv0, hs_n1, hs_n0, hs_v1i, hs_v1r, hs_a1, hs_d2l, hs_d2i, hs_ri, hs_rl, hs_rg, hs_rd8, hs_rr, hs_rn, hs_ov, hs_gf, hs_po, hs_pfi, hs_pfr, hs_ia, hs_la, hs_da, hs_qa, hs_al, hs_is, hs_ls, hs_ds, hs_iso, hs_lso, hs_dso, hs_rd, hs_f1, hs_f10, hs_f2, hs_f20, hs_in0, hs_in1, hs_lt, hs_le, hs_ge, hs_gt, hs_eq, hs_10, hs_00, hs_01, true_and, and_true, true_imp_iff, false_imp_iff, not_true_eq_false, not_false_eq_true, hs_av, hs_ai, hs_ar, hs_an, hs_aj, hs_ci, hs_cr, hs_cn, hs_cj, hs_cd, hs_cf, hs_q0, hs_q1, reduceIte, Nat.reduceEqDiff, Nat.reduceAdd, Nat.reduceLT, eq_self, List.getElem?_cons_zero, List.getElem?_cons_succ, List.set_cons_zero, List.set_cons_succ, List.length_cons, List.length_nil, Option.toList_some, Option.toList_none, List.cons_append, List.nil_append, Nat.zero_add, Nat.add_zero, List.map_nil, List.sum_nil, List.map_cons, List.sum_cons, Nat.zero_le, hs_set1, lm_I1, lm_I2, lm_I3, lm_I4, lm_J1, lm_J2, lm_J3, lm_J4, lm_N1, lm_N2, lm_N3, lm_N4, lm_T1, lm_T2, lm_T3, lm_T4, Int32.reduceLE, Int32.reduceLT, qw1.f0, qw1.a6, hlt, hcl, md_av_J]
      refine ⟨by first | with_reducible assumption | ((with_reducible refine vp_in_nI ?_ ?_) <;> omega) | with_reducible exact hcur _ | with_reducible exact hho _ | with_reducible exact hta _ | with_reducible exact hbp _ | with_reducible exact hbe _, ?_⟩
      refine ⟨fun c2 => ?_, fun c2 => ?_⟩
      · skip
        refine hl_seg B okX8_canSettle (fun q => nomatch q) 43 1000 rfl ?_
        simp only [pX8_canSettle, List.drop_zero, List.drop_succ_cons, hl_wp, hs_ii, hs_i1, hs_ll, hs_l1, hs_ff, hs_g1, hs_dd, hs_d1, hs_r1, hs_rv, hs_rv0, hs_n1, hs_n0, hs_v1i, hs_v1r, hs_a1, hs_d2l, hs_d2i, hs_ri, hs_rl, hs_rg, hs_rd8, hs_rr, hs_rn, hs_ov, hs_gf, hs_po, hs_pfi, hs_pfr, hs_ia, hs_la, hs_da, hs_qa, hs_al, hs_is, hs_ls, hs_ds, hs_iso, hs_lso, hs_dso, hs_rd, hs_f1, hs_f10, hs_f2, hs_f20, hs_in0, hs_in1, hs_lt, hs_le, hs_ge, hs_gt, hs_eq, hs_10, hs_00, hs_01, true_and, and_true, true_imp_iff, false_imp_iff, not_true_eq_false, not_false_eq_true, hs_av, hs_ai, hs_ar, hs_an, hs_aj, hs_ci, hs_cr, hs_cn, hs_cj, hs_cd, hs_cf, hs_q0, hs_q1, reduceIte, Nat.reduceEqDiff, Nat.reduceAdd, Nat.reduceLT, eq_self, List.getElem?_cons_zero, List.getElem?_cons_succ, List.set_cons_zero, List.set_cons_succ, List.length_cons, List.length_nil, Option.toList_some, Option.toList_none, List.cons_append, List.nil_append, Nat.zero_add, Nat.add_zero, List.map_nil, List.sum_nil, List.map_cons, List.sum_cons, Nat.zero_le, hs_set1, lm_I1, lm_I2, lm_I3, lm_I4, lm_J1, lm_J2, lm_J3, lm_J4, lm_N1, lm_N2, lm_N3, lm_N4, lm_T1, lm_T2, lm_T3, lm_T4, Int32.reduceLE, Int32.reduceLT, qw1.f0, qw1.a6, hlt, hcl, md_av_J]
        have hcs : nI i + 1 = nI (i + 1) := nI_1 i
        simp only [hcs]
        exact ih (i + 1) _ (by omega) w1 (by rw [hx]; simp only [md_ak, if_pos c2])
      · skip
        exact hl_iret B rfl (by first | rfl | decide | (split <;> rfl)) (hl_dec okX8_canSettle 42 rfl) (by decide) (by decide) ⟨by rw [hx]; simp only [md_ak, if_neg c2, Bool.false_eq_true, if_false], _, w1⟩
  have loop1 : ∀ (k9 i : Nat) (g9 : hl_H), i + k9 = cn → (LMw b (lm_J μ 6 f0) h0 g9) → ((nI (μ.2.2.1 1) + nI cn ≤ 150) = True) → (md_rk μ cn 0 = md_rk μ k9 i) → hl_GM G mX8_canSettle 5 0 0 (fun r g => r = some (.int (if md_can μ cn = true then 1 else 0)) ∧ ∃ f : Nat → Int64, LMw b (lm_J (μ) 6 f) h0 g) (fun _ _ => False) p l e s m args below meth c 16 [(0, .ref (b 0)), (1, .int (nI cn)), (2, .int (nI i))] [] g9 0 0 := by
    intro k9
    induction k9 with
    | zero =>
      intro i g9  hi w9 hr1 hx
      have hle : nI (cn) ≤ nI i := nI_le (by omega) (by have := hcn; omega)
      have qw9 := w9.1
      refine hl_seg B okX8_canSettle (fun q => nomatch q) 10 16 rfl ?_
      simp only [pX8_canSettle, List.drop_zero, List.drop_succ_cons, hl_wp, hs_ii, hs_i1, hs_ll, hs_l1, hs_ff, hs_g1, hs_dd, hs_d1, hs_r1, hs_rv, hs_rv0, hs_n1, hs_n0, hs_v1i, hs_v1r, hs_a1, hs_d2l, hs_d2i, hs_ri, hs_rl, hs_rg, hs_rd8, hs_rr, hs_rn, hs_ov, hs_gf, hs_po, hs_pfi, hs_pfr, hs_ia, hs_la, hs_da, hs_qa, hs_al, hs_is, hs_ls, hs_ds, hs_iso, hs_lso, hs_dso, hs_rd, hs_f1, hs_f10, hs_f2, hs_f20, hs_in0, hs_in1, hs_lt, hs_le, hs_ge, hs_gt, hs_eq, hs_10, hs_00, hs_01, true_and, and_true, true_imp_iff, false_imp_iff, not_true_eq_false, not_false_eq_true, hs_av, hs_ai, hs_ar, hs_an, hs_aj, hs_ci, hs_cr, hs_cn, hs_cj, hs_cd, hs_cf, hs_q0, hs_q1, reduceIte, Nat.reduceEqDiff, Nat.reduceAdd, Nat.reduceLT, eq_self, List.getElem?_cons_zero, List.getElem?_cons_succ, List.set_cons_zero, List.set_cons_succ, List.length_cons, List.length_nil, Option.toList_some, Option.toList_none, List.cons_append, List.nil_append, Nat.zero_add, Nat.add_zero, List.map_nil, List.sum_nil, List.map_cons, List.sum_cons, Nat.zero_le, hs_set1, lm_I1, lm_I2, lm_I3, lm_I4, lm_J1, lm_J2, lm_J3, lm_J4, lm_N1, lm_N2, lm_N3, lm_N4, lm_T1, lm_T2, lm_T3, lm_T4, Int32.reduceLE, Int32.reduceLT, qw9.f0, qw9.a6, hle]
      refine hl_seg B okX8_canSettle (fun q => nomatch q) 21 5 rfl ?_
      simp only [pX8_canSettle, List.drop_zero, List.drop_succ_cons, hl_wp, hs_ii, hs_i1, hs_ll, hs_l1, hs_ff, hs_g1, hs_dd, hs_d1, hs_r1, hs_rv, hs_rv0, hs_n1, hs_n0, hs_v1i, hs_v1r, hs_a1, hs_d2l, hs_d2i, hs_ri, hs_rl, hs_rg, hs_rd8, hs_rr, hs_rn, hs_ov, hs_gf, hs_po, hs_pfi, hs_pfr, hs_ia, hs_la, hs_da, hs_qa, hs_al, hs_is, hs_ls, hs_ds, hs_iso, hs_lso, hs_dso, hs_rd, hs_f1, hs_f10, hs_f2, hs_f20, hs_in0, hs_in1, hs_lt, hs_le, hs_ge, hs_gt, hs_eq, hs_10, hs_00, hs_01, true_and, and_true, true_imp_iff, false_imp_iff, not_true_eq_false, not_false_eq_true, hs_av, hs_ai, hs_ar, hs_an, hs_aj, hs_ci, hs_cr, hs_cn, hs_cj, hs_cd, hs_cf, hs_q0, hs_q1, reduceIte, Nat.reduceEqDiff, Nat.reduceAdd, Nat.reduceLT, eq_self, List.getElem?_cons_zero, List.getElem?_cons_succ, List.set_cons_zero, List.set_cons_succ, List.length_cons, List.length_nil, Option.toList_some, Option.toList_none, List.cons_append, List.nil_append, Nat.zero_add, Nat.add_zero, List.map_nil, List.sum_nil, List.map_cons, List.sum_cons, Nat.zero_le, hs_set1, lm_I1, lm_I2, lm_I3, lm_I4, lm_J1, lm_J2, lm_J3, lm_J4, lm_N1, lm_N2, lm_N3, lm_N4, lm_T1, lm_T2, lm_T3, lm_T4, Int32.reduceLE, Int32.reduceLT, qw9.f0, qw9.a6, hle]
      refine hl_callV B (As := [.int _]) (cr_layNets hcn (by exact hcur) (by exact hrat) (by exact hbp) (by exact hbe)) mtX8_layNets (hl_dec okX8_canSettle 23 rfl) (kk := 1210) (by decide +kernel) rfl rfl (qw9.f0) rfl (Nat.le_of_ble_eq_true rfl) (by decide) (by decide) (by decide) (by decide) w9 (fun r9 h9 hq => ?_) (fun _ _ hx => hx.elim)
      obtain ⟨rfl, w3⟩ := hq
      have qw3 := w3.1
      refine hl_seg B okX8_canSettle (fun q => nomatch q) 24 2 rfl ?_
      simp only [pX8_canSettle, List.drop_zero, List.drop_succ_cons, hl_wp, hs_ii, hs_i1, hs_ll, hs_l1, hs_ff, hs_g1, hs_dd, hs_d1, hs_r1, hs_rv, hs_rv0, hs_n1, hs_n0, hs_v1i, hs_v1r, hs_a1, hs_d2l, hs_d2i, hs_ri, hs_rl, hs_rg, hs_rd8, hs_rr, hs_rn, hs_ov, hs_gf, hs_po, hs_pfi, hs_pfr, hs_ia, hs_la, hs_da, hs_qa, hs_al, hs_is, hs_ls, hs_ds, hs_iso, hs_lso, hs_dso, hs_rd, hs_f1, hs_f10, hs_f2, hs_f20, hs_in0, hs_in1, hs_lt, hs_le, hs_ge, hs_gt, hs_eq, hs_10, hs_00, hs_01, true_and, and_true, true_imp_iff, false_imp_iff, not_true_eq_false, not_false_eq_true, hs_av, hs_ai, hs_ar, hs_an, hs_aj, hs_ci, hs_cr, hs_cn, hs_cj, hs_cd, hs_cf, hs_q0, hs_q1, reduceIte, Nat.reduceEqDiff, Nat.reduceAdd, Nat.reduceLT, eq_self, List.getElem?_cons_zero, List.getElem?_cons_succ, List.set_cons_zero, List.set_cons_succ, List.length_cons, List.length_nil, Option.toList_some, Option.toList_none, List.cons_append, List.nil_append, Nat.zero_add, Nat.add_zero, List.map_nil, List.sum_nil, List.map_cons, List.sum_cons, Nat.zero_le, hs_set1, lm_I1, lm_I2, lm_I3, lm_I4, lm_J1, lm_J2, lm_J3, lm_J4, lm_N1, lm_N2, lm_N3, lm_N4, lm_T1, lm_T2, lm_T3, lm_T4, Int32.reduceLE, Int32.reduceLT, qw3.f0, qw3.a6, hle]
      exact loop2 (μ.2.2.1 0) 0 _ (Nat.zero_add _) w3 (by rw [md_can, if_pos (of_eq_true hr1), hx]; simp only [md_rk, if_true]; exact (md_ak_ag μ (md_nt_ag μ hbp hbe (md_z_ag _ _ 10) cn) _ _ (by omega)))
    | succ k9 ih =>
      intro i g9  hi w9 hr1 hx
      have hlt : ¬ nI (cn) ≤ nI i := nI_ge (by omega) (by have := hcn; omega)
      have qw9 := w9.1
      have hcl : (nI i).toNatClampNeg = i := nI_clamp (by omega)
      refine hl_seg B okX8_canSettle (fun q => nomatch q) 10 16 rfl ?_
      simp only [pX8_canSettle, List.drop_zero, List.drop_succ_cons, hl_wp, hs_ii, hs_i1, hs_ll, hs_l1, hs_ff, hs_g1, hs_dd, hs_d1, hs_r1, hs_rv, hs_rv0, hs_n1, hs_n0, hs_v1i, hs_v1r, hs_a1, hs_d2l, hs_d2i, hs_ri, hs_rl, hs_rg, hs_rd8, hs_rr, hs_rn, hs_ov, hs_gf, hs_po, hs_pfi, hs_pfr, hs_ia, hs_la, hs_da, hs_qa, hs_al, hs_is, hs_ls, hs_ds, hs_iso, hs_lso, hs_dso, hs_rd, hs_f1, hs_f10, hs_f2, hs_f20, hs_in0, hs_in1, hs_lt, hs_le, hs_ge, hs_gt, hs_eq, hs_10, hs_00, hs_01, true_and, and_true, true_imp_iff, false_imp_iff, not_true_eq_false, not_false_eq_true, hs_av, hs_ai, hs_ar, hs_an, hs_aj, hs_ci, hs_cr, hs_cn, hs_cj, hs_cd, hs_cf, hs_q0, hs_q1, reduceIte, Nat.reduceEqDiff, Nat.reduceAdd, Nat.reduceLT, eq_self, List.getElem?_cons_zero, List.getElem?_cons_succ, List.set_cons_zero, List.set_cons_succ, List.length_cons, List.length_nil, Option.toList_some, Option.toList_none, List.cons_append, List.nil_append, Nat.zero_add, Nat.add_zero, List.map_nil, List.sum_nil, List.map_cons, List.sum_cons, Nat.zero_le, hs_set1, lm_I1, lm_I2, lm_I3, lm_I4, lm_J1, lm_J2, lm_J3, lm_J4, lm_N1, lm_N2, lm_N3, lm_N4, lm_T1, lm_T2, lm_T3, lm_T4, Int32.reduceLE, Int32.reduceLT, qw9.f0, qw9.a6, hlt, hcl, md_rcv_J]
      refine hl_callV B (As := [.int _]) (cr_receivedIn (by exact vp_in_nI (by omega) (by decide)) (by exact hcur) (by exact hrat) (by exact hbp) (by exact hbe)) mtX8_receivedIn (hl_dec okX8_canSettle 15 rfl) (kk := 1206) (by decide +kernel) rfl rfl (qw9.f0) rfl (Nat.le_of_ble_eq_true rfl) (by decide) (by decide) (by decide) (by decide) w9 (fun r9 h9 hq => ?_) (fun _ _ hx => hx.elim)
      obtain ⟨rfl, w4⟩ := hq
      have qw4 := w4.1
      refine hl_seg B okX8_canSettle (fun q => nomatch q) 16 10 rfl ?_
      simp only [pX8_canSettle, List.drop_zero, List.drop_succ_cons, hl_wp, hs_ii, hs_i1, hs_ll, hs_l1, hs_ff, hs_g1, hs_dd, hs_d1, hs_r1, hs_rv, hs_rv0, hs_n1, hs_n0, hs_v1i, hs_v1r, hs_a1, hs_d2l, hs_d2i, hs_ri, hs_rl, hs_rg, hs_rd8, hs_rr, hs_rn, hs_ov, hs_gf, hs_po, hs_pfi, hs_pfr, hs_ia, hs_la, hs_da, hs_qa, hs_al, hs_is, hs_ls, hs_ds, hs_iso, hs_lso, hs_dso, hs_rd, hs_f1, hs_f10, hs_f2, hs_f20, hs_in0, hs_in1, hs_lt, hs_le, hs_ge, hs_gt, hs_eq, hs_10, hs_00, hs_01, true_and, and_true, true_imp_iff, false_imp_iff, not_true_eq_false, not_false_eq_true, hs_av, hs_ai, hs_ar, hs_an, hs_aj, hs_ci, hs_cr, hs_cn, hs_cj, hs_cd, hs_cf, hs_q0, hs_q1, reduceIte, Nat.reduceEqDiff, Nat.reduceAdd, Nat.reduceLT, eq_self, List.getElem?_cons_zero, List.getElem?_cons_succ, List.set_cons_zero, List.set_cons_succ, List.length_cons, List.length_nil, Option.toList_some, Option.toList_none, List.cons_append, List.nil_append, Nat.zero_add, Nat.add_zero, List.map_nil, List.sum_nil, List.map_cons, List.sum_cons, Nat.zero_le, hs_set1, lm_I1, lm_I2, lm_I3, lm_I4, lm_J1, lm_J2, lm_J3, lm_J4, lm_N1, lm_N2, lm_N3, lm_N4, lm_T1, lm_T2, lm_T3, lm_T4, Int32.reduceLE, Int32.reduceLT, qw4.f0, qw4.a6, hlt, hcl, md_rcv_J]
      refine ⟨fun c5 => ?_, fun c5 => ?_⟩
      · skip
        refine hl_seg B okX8_canSettle (fun q => nomatch q) 19 7 rfl ?_
        simp only [pX8_canSettle, List.drop_zero, List.drop_succ_cons, hl_wp, hs_ii, hs_i1, hs_ll, hs_l1, hs_ff, hs_g1, hs_dd, hs_d1, hs_r1, hs_rv, hs_rv0, hs_n1, hs_n0, hs_v1i, hs_v1r, hs_a1, hs_d2l, hs_d2i, hs_ri, hs_rl, hs_rg, hs_rd8, hs_rr, hs_rn, hs_ov, hs_gf, hs_po, hs_pfi, hs_pfr, hs_ia, hs_la, hs_da, hs_qa, hs_al, hs_is, hs_ls, hs_ds, hs_iso, hs_lso, hs_dso, hs_rd, hs_f1, hs_f10, hs_f2, hs_f20, hs_in0, hs_in1, hs_lt, hs_le, hs_ge, hs_gt, hs_eq, hs_10, hs_00, hs_01, true_and, and_true, true_imp_iff, false_imp_iff, not_true_eq_false, not_false_eq_true, hs_av, hs_ai, hs_ar, hs_an, hs_aj, hs_ci, hs_cr, hs_cn, hs_cj, hs_cd, hs_cf, hs_q0, hs_q1, reduceIte, Nat.reduceEqDiff, Nat.reduceAdd, Nat.reduceLT, eq_self, List.getElem?_cons_zero, List.getElem?_cons_succ, List.set_cons_zero, List.set_cons_succ, List.length_cons, List.length_nil, Option.toList_some, Option.toList_none, List.cons_append, List.nil_append, Nat.zero_add, Nat.add_zero, List.map_nil, List.sum_nil, List.map_cons, List.sum_cons, Nat.zero_le, hs_set1, lm_I1, lm_I2, lm_I3, lm_I4, lm_J1, lm_J2, lm_J3, lm_J4, lm_N1, lm_N2, lm_N3, lm_N4, lm_T1, lm_T2, lm_T3, lm_T4, Int32.reduceLE, Int32.reduceLT, qw4.f0, qw4.a6, hlt, hcl, md_rcv_J]
        have hcs : nI i + 1 = nI (i + 1) := nI_1 i
        simp only [hcs]
        exact ih (i + 1) _ (by omega) w4 hr1 (by rw [hx]; simp only [md_rk, if_neg c5])
      · skip
        exact hl_iret B rfl (by first | rfl | decide | (split <;> rfl)) (hl_dec okX8_canSettle 18 rfl) (by decide) (by decide) ⟨by simp only [md_can, hr1, if_true, hx, md_rk, if_pos c5, Bool.false_eq_true, if_false], _, w4⟩
  refine hl_seg B okX8_canSettle (fun q => nomatch q) 0 10 rfl ?_
  simp only [pX8_canSettle, List.drop_zero, List.drop_succ_cons, hl_wp, hs_ii, hs_i1, hs_ll, hs_l1, hs_ff, hs_g1, hs_dd, hs_d1, hs_r1, hs_rv, hs_rv0, hs_n1, hs_n0, hs_v1i, hs_v1r, hs_a1, hs_d2l, hs_d2i, hs_ri, hs_rl, hs_rg, hs_rd8, hs_rr, hs_rn, hs_ov, hs_gf, hs_po, hs_pfi, hs_pfr, hs_ia, hs_la, hs_da, hs_qa, hs_al, hs_is, hs_ls, hs_ds, hs_iso, hs_lso, hs_dso, hs_rd, hs_f1, hs_f10, hs_f2, hs_f20, hs_in0, hs_in1, hs_lt, hs_le, hs_ge, hs_gt, hs_eq, hs_10, hs_00, hs_01, true_and, and_true, true_imp_iff, false_imp_iff, not_true_eq_false, not_false_eq_true, hs_av, hs_ai, hs_ar, hs_an, hs_aj, hs_ci, hs_cr, hs_cn, hs_cj, hs_cd, hs_cf, hs_q0, hs_q1, reduceIte, Nat.reduceEqDiff, Nat.reduceAdd, Nat.reduceLT, eq_self, List.getElem?_cons_zero, List.getElem?_cons_succ, List.set_cons_zero, List.set_cons_succ, List.length_cons, List.length_nil, Option.toList_some, Option.toList_none, List.cons_append, List.nil_append, Nat.zero_add, Nat.add_zero, List.map_nil, List.sum_nil, List.map_cons, List.sum_cons, Nat.zero_le, hs_set1, lm_I1, lm_I2, lm_I3, lm_I4, lm_J1, lm_J2, lm_J3, lm_J4, lm_N1, lm_N2, lm_N3, lm_N4, lm_T1, lm_T2, lm_T3, lm_T4, Int32.reduceLE, Int32.reduceLT, qw.f0, qw.a6]
  refine ⟨fun c6 => ?_, fun c6 => ?_⟩
  · skip
    refine hl_seg B okX8_canSettle (fun q => nomatch q) 8 2 rfl ?_
    simp only [pX8_canSettle, List.drop_zero, List.drop_succ_cons, hl_wp, hs_ii, hs_i1, hs_ll, hs_l1, hs_ff, hs_g1, hs_dd, hs_d1, hs_r1, hs_rv, hs_rv0, hs_n1, hs_n0, hs_v1i, hs_v1r, hs_a1, hs_d2l, hs_d2i, hs_ri, hs_rl, hs_rg, hs_rd8, hs_rr, hs_rn, hs_ov, hs_gf, hs_po, hs_pfi, hs_pfr, hs_ia, hs_la, hs_da, hs_qa, hs_al, hs_is, hs_ls, hs_ds, hs_iso, hs_lso, hs_dso, hs_rd, hs_f1, hs_f10, hs_f2, hs_f20, hs_in0, hs_in1, hs_lt, hs_le, hs_ge, hs_gt, hs_eq, hs_10, hs_00, hs_01, true_and, and_true, true_imp_iff, false_imp_iff, not_true_eq_false, not_false_eq_true, hs_av, hs_ai, hs_ar, hs_an, hs_aj, hs_ci, hs_cr, hs_cn, hs_cj, hs_cd, hs_cf, hs_q0, hs_q1, reduceIte, Nat.reduceEqDiff, Nat.reduceAdd, Nat.reduceLT, eq_self, List.getElem?_cons_zero, List.getElem?_cons_succ, List.set_cons_zero, List.set_cons_succ, List.length_cons, List.length_nil, Option.toList_some, Option.toList_none, List.cons_append, List.nil_append, Nat.zero_add, Nat.add_zero, List.map_nil, List.sum_nil, List.map_cons, List.sum_cons, Nat.zero_le, hs_set1, lm_I1, lm_I2, lm_I3, lm_I4, lm_J1, lm_J2, lm_J3, lm_J4, lm_N1, lm_N2, lm_N3, lm_N4, lm_T1, lm_T2, lm_T3, lm_T4, Int32.reduceLE, Int32.reduceLT, qw.f0, qw.a6]
    exact loop1 cn 0 _ (Nat.zero_add _) w (eq_true c6) rfl
  · skip
    exact hl_iret B rfl (by first | rfl | decide | (split <;> rfl)) (hl_dec okX8_canSettle 7 rfl) (by decide) (by decide) ⟨by simp only [md_can, if_neg c6, Bool.false_eq_true, if_false], _, w⟩
def md_cut (μ : LMt) : Nat → Nat
  | 0 => 0
  | c + 1 => if md_can μ (c + 1) = true then c + 1 else md_cut μ c
theorem nI_dec {c : Nat} : nI (c + 1) + -1 = nI c := by
  rw [← nI_pred c, Int32.sub_eq_add_neg]
theorem md_cut_le (μ : LMt) : ∀ c, md_cut μ c ≤ c
  | 0 => Nat.le_refl _
  | c + 1 => by
    simp only [md_cut]
    split
    · exact Nat.le_refl _
    · exact Nat.le_trans (md_cut_le μ c) (by omega)
theorem md_cut_can (μ : LMt) : ∀ c, 0 < md_cut μ c → md_can μ (md_cut μ c) = true
  | 0, h => absurd h (Nat.lt_irrefl 0)
  | c + 1, h => by
    simp only [md_cut] at h ⊢
    split
    · assumption
    · rename_i z
      rw [if_neg z] at h
      exact md_cut_can μ c h
theorem md_can_room {μ : LMt} {cn : Nat} (h : md_can μ cn = true) (h1 : μ.2.2.1 1 ≤ 150) (h2 : cn ≤ 12) : μ.2.2.1 1 + cn ≤ 150 := by
  unfold md_can at h
  split at h
  · rename_i c
    rw [nI_add] at c
    exact (nI_leI (a := μ.2.2.1 1 + cn) (b := 150) (by omega) (by decide)).mp c
  · cases h
theorem md_cut_room {μ : LMt} {c : Nat} (h1 : μ.2.2.1 1 ≤ 150) (h2 : c ≤ 12) : μ.2.2.1 1 + md_cut μ c ≤ 150 := by
  rcases Nat.eq_zero_or_pos (md_cut μ c) with z | z
  · omega
  · exact md_can_room (md_cut_can μ c z) h1 (Nat.le_trans (md_cut_le μ c) h2)
set_option maxRecDepth 20000 in
set_option maxHeartbeats 2000000 in
theorem cr_cutOf {G : hl_G} {l : Launch} {b : Nat → Nat} {μ : LMt} {h0 : hl_H} {f0 : Nat → Int64} (hb3 : μ.2.2.1 3 ≤ 12) (hb0 : μ.2.2.1 0 ≤ 10) (hb2 : μ.2.2.1 2 ≤ 30) (hcur : ∀ i, vp_in (μ.1 0 i) 4) (hrat : ∀ i, i < 4 → ¬ (μ.1 2 i).toInt64 = 0) (hbp : ∀ i, vp_in (μ.1 19 i) 10) (hbe : ∀ i, vp_in (μ.1 20 i) 10) :
    hl_Ct G l mX8_cutOf 6 0 0 [.ref (b 0)] (LMw b (lm_J μ 6 f0) h0) (fun r g => r = some (.int (nI (md_cut μ (μ.2.2.1 3)))) ∧ ∃ f : Nat → Int64, LMw b (lm_J (μ) 6 f) h0 g) (fun _ _ => False) := by
  refine hl_body (by decide +kernel) (Nat.le_of_ble_eq_true rfl) ?_
  intro p e s m args below meth c B g hg
  have qw := hg.1
  have w := hg
  have loop : ∀ (c9 : Nat) (g9 : hl_H) (f9 : Nat → Int64), c9 ≤ 12 → LMw b (lm_J μ 6 f9) h0 g9 → md_cut μ (μ.2.2.1 3) = md_cut μ c9 → hl_GM G mX8_cutOf 6 0 0 (fun r g => r = some (.int (nI (md_cut μ (μ.2.2.1 3)))) ∧ ∃ f : Nat → Int64, LMw b (lm_J (μ) 6 f) h0 g) (fun _ _ => False) p l e s m args below meth c 5 [(0, .ref (b 0)), (1, .int (nI c9))] [] g9 0 0 := by
    intro c9
    induction c9 with
    | zero =>
      intro g9 f9 hc9 w9 hx
      have qw9 := w9.1
      have hz0 : nI 0 ≤ (0 : Int32) := by decide
      refine hl_seg B okX8_cutOf (fun q => nomatch q) 3 1000 rfl ?_
      simp only [pX8_cutOf, List.drop_zero, List.drop_succ_cons, hl_wp, hs_ii, hs_i1, hs_ll, hs_l1, hs_ff, hs_g1, hs_dd, hs_d1, hs_r1, hs_rv, hs_rv0, hs_n1, hs_n0, hs_v1i, hs_v1r, hs_a1, hs_d2l, hs_d2i, hs_ri, hs_rl, hs_rg, hs_rd8, hs_rr, hs_rn, hs_ov, hs_gf, hs_po, hs_pfi, hs_pfr, hs_ia, hs_la, hs_da, hs_qa, hs_al, hs_is, hs_ls, hs_ds, hs_iso, hs_lso, hs_dso, hs_rd, hs_f1, hs_f10, hs_f2, hs_f20, hs_in0, hs_in1, hs_lt, hs_le, hs_ge, hs_gt, hs_eq, hs_10, hs_00, hs_01, true_and, and_true, true_imp_iff, false_imp_iff, not_true_eq_false, not_false_eq_true, hs_av, hs_ai, hs_ar, hs_an, hs_aj, hs_ci, hs_cr, hs_cn, hs_cj, hs_cd, hs_cf, hs_q0, hs_q1, reduceIte, Nat.reduceEqDiff, Nat.reduceAdd, Nat.reduceLT, eq_self, List.getElem?_cons_zero, List.getElem?_cons_succ, List.set_cons_zero, List.set_cons_succ, List.length_cons, List.length_nil, Option.toList_some, Option.toList_none, List.cons_append, List.nil_append, Nat.zero_add, Nat.add_zero, List.map_nil, List.sum_nil, List.map_cons, List.sum_cons, Nat.zero_le, hs_set1, lm_I1, lm_I2, lm_I3, lm_I4, lm_J1, lm_J2, lm_J3, lm_J4, lm_N1, lm_N2, lm_N3, lm_N4, lm_T1, lm_T2, lm_T3, lm_T4, Int32.reduceLE, Int32.reduceLT, qw9.f0, hz0]
      refine hl_seg B okX8_cutOf (fun q => nomatch q) 11 1000 rfl ?_
      simp only [pX8_cutOf, List.drop_zero, List.drop_succ_cons, hl_wp, hs_ii, hs_i1, hs_ll, hs_l1, hs_ff, hs_g1, hs_dd, hs_d1, hs_r1, hs_rv, hs_rv0, hs_n1, hs_n0, hs_v1i, hs_v1r, hs_a1, hs_d2l, hs_d2i, hs_ri, hs_rl, hs_rg, hs_rd8, hs_rr, hs_rn, hs_ov, hs_gf, hs_po, hs_pfi, hs_pfr, hs_ia, hs_la, hs_da, hs_qa, hs_al, hs_is, hs_ls, hs_ds, hs_iso, hs_lso, hs_dso, hs_rd, hs_f1, hs_f10, hs_f2, hs_f20, hs_in0, hs_in1, hs_lt, hs_le, hs_ge, hs_gt, hs_eq, hs_10, hs_00, hs_01, true_and, and_true, true_imp_iff, false_imp_iff, not_true_eq_false, not_false_eq_true, hs_av, hs_ai, hs_ar, hs_an, hs_aj, hs_ci, hs_cr, hs_cn, hs_cj, hs_cd, hs_cf, hs_q0, hs_q1, reduceIte, Nat.reduceEqDiff, Nat.reduceAdd, Nat.reduceLT, eq_self, List.getElem?_cons_zero, List.getElem?_cons_succ, List.set_cons_zero, List.set_cons_succ, List.length_cons, List.length_nil, Option.toList_some, Option.toList_none, List.cons_append, List.nil_append, Nat.zero_add, Nat.add_zero, List.map_nil, List.sum_nil, List.map_cons, List.sum_cons, Nat.zero_le, hs_set1, lm_I1, lm_I2, lm_I3, lm_I4, lm_J1, lm_J2, lm_J3, lm_J4, lm_N1, lm_N2, lm_N3, lm_N4, lm_T1, lm_T2, lm_T3, lm_T4, Int32.reduceLE, Int32.reduceLT, qw9.f0, hz0]
      exact hl_iret B rfl rfl (hl_dec okX8_cutOf 12 rfl) (by decide) (by decide) ⟨by rw [hx]; rfl, _, w9⟩
    | succ c9 ih =>
      intro g9 f9 hc9 w9 hx
      have qw9 := w9.1
      have hz1 : ¬ nI (c9 + 1) ≤ (0 : Int32) := nI_nle (by omega) (by omega)
      refine hl_seg B okX8_cutOf (fun q => nomatch q) 3 1000 rfl ?_
      simp only [pX8_cutOf, List.drop_zero, List.drop_succ_cons, hl_wp, hs_ii, hs_i1, hs_ll, hs_l1, hs_ff, hs_g1, hs_dd, hs_d1, hs_r1, hs_rv, hs_rv0, hs_n1, hs_n0, hs_v1i, hs_v1r, hs_a1, hs_d2l, hs_d2i, hs_ri, hs_rl, hs_rg, hs_rd8, hs_rr, hs_rn, hs_ov, hs_gf, hs_po, hs_pfi, hs_pfr, hs_ia, hs_la, hs_da, hs_qa, hs_al, hs_is, hs_ls, hs_ds, hs_iso, hs_lso, hs_dso, hs_rd, hs_f1, hs_f10, hs_f2, hs_f20, hs_in0, hs_in1, hs_lt, hs_le, hs_ge, hs_gt, hs_eq, hs_10, hs_00, hs_01, true_and, and_true, true_imp_iff, false_imp_iff, not_true_eq_false, not_false_eq_true, hs_av, hs_ai, hs_ar, hs_an, hs_aj, hs_ci, hs_cr, hs_cn, hs_cj, hs_cd, hs_cf, hs_q0, hs_q1, reduceIte, Nat.reduceEqDiff, Nat.reduceAdd, Nat.reduceLT, eq_self, List.getElem?_cons_zero, List.getElem?_cons_succ, List.set_cons_zero, List.set_cons_succ, List.length_cons, List.length_nil, Option.toList_some, Option.toList_none, List.cons_append, List.nil_append, Nat.zero_add, Nat.add_zero, List.map_nil, List.sum_nil, List.map_cons, List.sum_cons, Nat.zero_le, hs_set1, lm_I1, lm_I2, lm_I3, lm_I4, lm_J1, lm_J2, lm_J3, lm_J4, lm_N1, lm_N2, lm_N3, lm_N4, lm_T1, lm_T2, lm_T3, lm_T4, Int32.reduceLE, Int32.reduceLT, qw9.f0, hz1]
      refine hl_callV B (As := [.int _]) (cr_canSettle (by omega) (by exact hb0) (by exact hb2) (by exact hcur) (by exact hrat) (by exact hbp) (by exact hbe)) mtX8_canSettle (hl_dec okX8_cutOf 7 rfl) (kk := 1202) (by decide +kernel) rfl rfl (qw9.f0) rfl (Nat.le_of_ble_eq_true rfl) (by decide) (by decide) (by decide) (by decide) w9 (fun r9 h9 hq => ?_) (fun _ _ hx => hx.elim)
      obtain ⟨rfl, fw1, w1⟩ := hq
      have qw1 := w1.1
      by_cases c2 : md_can μ (c9 + 1) = true
      · skip
        refine hl_seg B okX8_cutOf (fun q => nomatch q) 8 1000 rfl ?_
        simp only [pX8_cutOf, List.drop_zero, List.drop_succ_cons, hl_wp, hs_ii, hs_i1, hs_ll, hs_l1, hs_ff, hs_g1, hs_dd, hs_d1, hs_r1, hs_rv, hs_rv0, hs_n1, hs_n0, hs_v1i, hs_v1r, hs_a1, hs_d2l, hs_d2i, hs_ri, hs_rl, hs_rg, hs_rd8, hs_rr, hs_rn, hs_ov, hs_gf, hs_po, hs_pfi, hs_pfr, hs_ia, hs_la, hs_da, hs_qa, hs_al, hs_is, hs_ls, hs_ds, hs_iso, hs_lso, hs_dso, hs_rd, hs_f1, hs_f10, hs_f2, hs_f20, hs_in0, hs_in1, hs_lt, hs_le, hs_ge, hs_gt, hs_eq, hs_10, hs_00, hs_01, true_and, and_true, true_imp_iff, false_imp_iff, not_true_eq_false, not_false_eq_true, hs_av, hs_ai, hs_ar, hs_an, hs_aj, hs_ci, hs_cr, hs_cn, hs_cj, hs_cd, hs_cf, hs_q0, hs_q1, reduceIte, Nat.reduceEqDiff, Nat.reduceAdd, Nat.reduceLT, eq_self, List.getElem?_cons_zero, List.getElem?_cons_succ, List.set_cons_zero, List.set_cons_succ, List.length_cons, List.length_nil, Option.toList_some, Option.toList_none, List.cons_append, List.nil_append, Nat.zero_add, Nat.add_zero, List.map_nil, List.sum_nil, List.map_cons, List.sum_cons, Nat.zero_le, hs_set1, if_pos c2, lm_I1, lm_I2, lm_I3, lm_I4, lm_J1, lm_J2, lm_J3, lm_J4, lm_N1, lm_N2, lm_N3, lm_N4, lm_T1, lm_T2, lm_T3, lm_T4, Int32.reduceLE, Int32.reduceLT, qw1.f0, hz1]
        refine hl_seg B okX8_cutOf (fun q => nomatch q) 11 1000 rfl ?_
        simp only [pX8_cutOf, List.drop_zero, List.drop_succ_cons, hl_wp, hs_ii, hs_i1, hs_ll, hs_l1, hs_ff, hs_g1, hs_dd, hs_d1, hs_r1, hs_rv, hs_rv0, hs_n1, hs_n0, hs_v1i, hs_v1r, hs_a1, hs_d2l, hs_d2i, hs_ri, hs_rl, hs_rg, hs_rd8, hs_rr, hs_rn, hs_ov, hs_gf, hs_po, hs_pfi, hs_pfr, hs_ia, hs_la, hs_da, hs_qa, hs_al, hs_is, hs_ls, hs_ds, hs_iso, hs_lso, hs_dso, hs_rd, hs_f1, hs_f10, hs_f2, hs_f20, hs_in0, hs_in1, hs_lt, hs_le, hs_ge, hs_gt, hs_eq, hs_10, hs_00, hs_01, true_and, and_true, true_imp_iff, false_imp_iff, not_true_eq_false, not_false_eq_true, hs_av, hs_ai, hs_ar, hs_an, hs_aj, hs_ci, hs_cr, hs_cn, hs_cj, hs_cd, hs_cf, hs_q0, hs_q1, reduceIte, Nat.reduceEqDiff, Nat.reduceAdd, Nat.reduceLT, eq_self, List.getElem?_cons_zero, List.getElem?_cons_succ, List.set_cons_zero, List.set_cons_succ, List.length_cons, List.length_nil, Option.toList_some, Option.toList_none, List.cons_append, List.nil_append, Nat.zero_add, Nat.add_zero, List.map_nil, List.sum_nil, List.map_cons, List.sum_cons, Nat.zero_le, hs_set1, lm_I1, lm_I2, lm_I3, lm_I4, lm_J1, lm_J2, lm_J3, lm_J4, lm_N1, lm_N2, lm_N3, lm_N4, lm_T1, lm_T2, lm_T3, lm_T4, Int32.reduceLE, Int32.reduceLT, qw1.f0, hz1]
        exact hl_iret B rfl rfl (hl_dec okX8_cutOf 12 rfl) (by decide) (by decide) ⟨by rw [hx]; simp only [md_cut, if_pos c2], _, w1⟩
      · skip
        refine hl_seg B okX8_cutOf (fun q => nomatch q) 8 1000 rfl ?_
        simp only [pX8_cutOf, List.drop_zero, List.drop_succ_cons, hl_wp, hs_ii, hs_i1, hs_ll, hs_l1, hs_ff, hs_g1, hs_dd, hs_d1, hs_r1, hs_rv, hs_rv0, hs_n1, hs_n0, hs_v1i, hs_v1r, hs_a1, hs_d2l, hs_d2i, hs_ri, hs_rl, hs_rg, hs_rd8, hs_rr, hs_rn, hs_ov, hs_gf, hs_po, hs_pfi, hs_pfr, hs_ia, hs_la, hs_da, hs_qa, hs_al, hs_is, hs_ls, hs_ds, hs_iso, hs_lso, hs_dso, hs_rd, hs_f1, hs_f10, hs_f2, hs_f20, hs_in0, hs_in1, hs_lt, hs_le, hs_ge, hs_gt, hs_eq, hs_10, hs_00, hs_01, true_and, and_true, true_imp_iff, false_imp_iff, not_true_eq_false, not_false_eq_true, hs_av, hs_ai, hs_ar, hs_an, hs_aj, hs_ci, hs_cr, hs_cn, hs_cj, hs_cd, hs_cf, hs_q0, hs_q1, reduceIte, Nat.reduceEqDiff, Nat.reduceAdd, Nat.reduceLT, eq_self, List.getElem?_cons_zero, List.getElem?_cons_succ, List.set_cons_zero, List.set_cons_succ, List.length_cons, List.length_nil, Option.toList_some, Option.toList_none, List.cons_append, List.nil_append, Nat.zero_add, Nat.add_zero, List.map_nil, List.sum_nil, List.map_cons, List.sum_cons, Nat.zero_le, hs_set1, if_neg c2, lm_I1, lm_I2, lm_I3, lm_I4, lm_J1, lm_J2, lm_J3, lm_J4, lm_N1, lm_N2, lm_N3, lm_N4, lm_T1, lm_T2, lm_T3, lm_T4, Int32.reduceLE, Int32.reduceLT, qw1.f0, hz1]
        simp only [nI_dec]
        exact ih _ _ (by omega) w1 (by rw [hx]; simp only [md_cut, if_neg c2])
  refine hl_seg B okX8_cutOf (fun q => nomatch q) 0 3 rfl ?_
  simp only [pX8_cutOf, List.drop_zero, List.drop_succ_cons, hl_wp, hs_ii, hs_i1, hs_ll, hs_l1, hs_ff, hs_g1, hs_dd, hs_d1, hs_r1, hs_rv, hs_rv0, hs_n1, hs_n0, hs_v1i, hs_v1r, hs_a1, hs_d2l, hs_d2i, hs_ri, hs_rl, hs_rg, hs_rd8, hs_rr, hs_rn, hs_ov, hs_gf, hs_po, hs_pfi, hs_pfr, hs_ia, hs_la, hs_da, hs_qa, hs_al, hs_is, hs_ls, hs_ds, hs_iso, hs_lso, hs_dso, hs_rd, hs_f1, hs_f10, hs_f2, hs_f20, hs_in0, hs_in1, hs_lt, hs_le, hs_ge, hs_gt, hs_eq, hs_10, hs_00, hs_01, true_and, and_true, true_imp_iff, false_imp_iff, not_true_eq_false, not_false_eq_true, hs_av, hs_ai, hs_ar, hs_an, hs_aj, hs_ci, hs_cr, hs_cn, hs_cj, hs_cd, hs_cf, hs_q0, hs_q1, reduceIte, Nat.reduceEqDiff, Nat.reduceAdd, Nat.reduceLT, eq_self, List.getElem?_cons_zero, List.getElem?_cons_succ, List.set_cons_zero, List.set_cons_succ, List.length_cons, List.length_nil, Option.toList_some, Option.toList_none, List.cons_append, List.nil_append, Nat.zero_add, Nat.add_zero, List.map_nil, List.sum_nil, List.map_cons, List.sum_cons, Nat.zero_le, hs_set1, lm_I1, lm_I2, lm_I3, lm_I4, lm_J1, lm_J2, lm_J3, lm_J4, lm_N1, lm_N2, lm_N3, lm_N4, lm_T1, lm_T2, lm_T3, lm_T4, Int32.reduceLE, Int32.reduceLT, qw.f0]
  exact loop (μ.2.2.1 3) _ _ hb3 w rfl
theorem lm_JI {μ : LMt} {k j : Nat} {f : Nat → Int64} {g : Nat → Int32} : lm_I (lm_J μ k f) j g = lm_J (lm_I μ j g) k f := rfl
theorem lm_JN {μ : LMt} {k j n : Nat} {f : Nat → Int64} : lm_N (lm_J μ k f) j n = lm_J (lm_N μ j n) k f := rfl
theorem lm_JT {μ : LMt} {k : Nat} {v : Int32} {f : Nat → Int64} : lm_T (lm_J μ k f) v = lm_J (lm_T μ v) k f := rfl
theorem lm_Jc {μ : LMt} {k j : Nat} {f g : Nat → Int64} (h : j ≠ k) : lm_J (lm_J μ k f) j g = lm_J (lm_J μ j g) k f := by
  unfold lm_J
  have : va_up (va_up μ.2.1 k f) j g = va_up (va_up μ.2.1 j g) k f := by
    funext i
    unfold va_up
    by_cases e1 : i = j
    · subst e1; simp [h]
    · by_cases e2 : i = k
      · subst e2; simp [e1]
      · simp [e1, e2]
  show (μ.1, va_up (va_up μ.2.1 k f) j g, μ.2.2.1, μ.2.2.2) = _
  rw [this]
theorem md_ad_J {μ : LMt} {k : Nat} {i : Int32} {v : Int64} {f : Nat → Int64} (h : k ≠ 6) : md_ad (lm_J μ 6 f) k i v = lm_J (md_ad μ k i v) 6 f := by
  unfold md_ad
  rw [lm_Jc h, lm_J2, if_neg h]
theorem md_sb_J {μ : LMt} {k : Nat} {i : Int32} {v : Int64} {f : Nat → Int64} (h : k ≠ 6) : md_sb (lm_J μ 6 f) k i v = lm_J (md_sb μ k i v) 6 f := by
  unfold md_sb
  rw [lm_Jc h, lm_J2, if_neg h]
theorem md_makes_J {μ : LMt} {kd x y p r : Int32} {f : Nat → Int64} : md_makes (lm_J μ 6 f) kd x y p r = lm_J (md_makes μ kd x y p r) 6 f := by
  have c1 : ∀ x y, md_cur (lm_J μ 6 f) x y = md_cur μ x y := fun _ _ => rfl
  have h1 : md_mk1 (lm_J μ 6 f) x y p = lm_J (md_mk1 μ x y p) 6 f := by
    unfold md_mk1
    rw [c1]
    split
    · exact md_sb_J (by decide)
    · exact md_sb_J (by decide)
  have h2 : ∀ τ, md_mk2 (lm_J μ 6 f) (lm_J τ 6 f) x y r = lm_J (md_mk2 μ τ x y r) 6 f := fun τ => by
    unfold md_mk2
    rw [c1]
    split
    · exact md_ad_J (by decide)
    · exact md_ad_J (by decide)
  have h3 : ∀ τ, md_mk3 (lm_J μ 6 f) (lm_J τ 6 f) x y p r = lm_J (md_mk3 μ τ x y p r) 6 f := fun τ => by
    unfold md_mk3
    rw [c1, c1]
    split
    · rfl
    · rw [md_ad_J (by decide), md_sb_J (by decide)]
  unfold md_makes
  rw [h1, h2, h3]
  rfl
theorem md_tk_J {mn : Nat} {f : Nat → Int64} : ∀ (k i : Nat) (τ : LMt), md_tk mn k i (lm_J τ 6 f) = lm_J (md_tk mn k i τ) 6 f
  | 0, _, _ => rfl
  | k + 1, i, τ => md_tk_J k (i + 1) (md_tk1 mn i (md_tk1 mn i (md_tk1 mn i τ 19) 20) 21)
theorem md_out_J {μ : LMt} {fr mn : Nat} {f : Nat → Int64} : md_out (lm_J μ 6 f) fr mn = lm_J (md_out μ fr mn) 6 f := md_tk_J _ _ (lm_N μ 3 (μ.2.2.1 3 - mn))
def md_sl1 (τ : LMt) (i : Nat) : LMt := md_makes τ 98 (τ.1 19 i) (τ.1 20 i) (τ.1 21 i) (md_rcv τ (nI i))
def md_sl : Nat → Nat → LMt → LMt
  | 0, _, τ => τ
  | k + 1, i, τ => md_sl k (i + 1) (md_sl1 τ i)
def md_stls (μ : LMt) : LMt := md_out (md_sl (md_cut μ (μ.2.2.1 3)) 0 μ) 0 (md_cut μ (μ.2.2.1 3))
theorem md_mk1_1 {μ : LMt} {x y p : Int32} : (md_mk1 μ x y p).1 = μ.1 ∧ (md_mk1 μ x y p).2.2.1 = μ.2.2.1 := by
  unfold md_mk1
  split <;> exact ⟨rfl, rfl⟩
theorem md_mk2_1 {μ τ : LMt} {x y p : Int32} : (md_mk2 μ τ x y p).1 = τ.1 ∧ (md_mk2 μ τ x y p).2.2.1 = τ.2.2.1 := by
  unfold md_mk2
  split <;> exact ⟨rfl, rfl⟩
theorem md_mk3_1 {μ τ : LMt} {x y p r : Int32} : (md_mk3 μ τ x y p r).1 = τ.1 ∧ (md_mk3 μ τ x y p r).2.2.1 = τ.2.2.1 := by
  unfold md_mk3
  split <;> exact ⟨rfl, rfl⟩
theorem md_mk_1 {μ : LMt} {x y p r : Int32} : (md_mk3 μ (md_mk2 μ (md_mk1 μ x y p) x y r) x y p r).1 = μ.1 ∧ (md_mk3 μ (md_mk2 μ (md_mk1 μ x y p) x y r) x y p r).2.2.1 = μ.2.2.1 :=
  ⟨by rw [md_mk3_1.1, md_mk2_1.1, md_mk1_1.1], by rw [md_mk3_1.2, md_mk2_1.2, md_mk1_1.2]⟩
theorem md_makes_I {μ : LMt} {kd x y p r : Int32} {k : Nat} (h : k < 7 ∨ 13 < k) : (md_makes μ kd x y p r).1 k = μ.1 k := by
  unfold md_makes md_mk4
  simp only [lm_N1, lm_I1]
  rw [if_neg (by omega), if_neg (by omega), if_neg (by omega), if_neg (by omega), if_neg (by omega), if_neg (by omega), if_neg (by omega), md_mk_1.1]
theorem md_makes_N {μ : LMt} {kd x y p r : Int32} : (md_makes μ kd x y p r).2.2.1 = va_up μ.2.2.1 1 (μ.2.2.1 1 + 1) := by
  show va_up (md_mk3 μ (md_mk2 μ (md_mk1 μ x y p) x y r) x y p r).2.2.1 1 ((md_mk3 μ (md_mk2 μ (md_mk1 μ x y p) x y r) x y p r).2.2.1 1 + 1) = _
  rw [md_mk_1.2]
