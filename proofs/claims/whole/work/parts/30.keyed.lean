/-! PART 30: the operations with a key -/
section RP
variable {t : Nat} {σ : LSt} {μ : LMt}
theorem rl_mk_M {n : Nat} {C : Nat → Nat → Int32} (hM : rl_M μ n C) {kd x y p r : Int32} : rl_M (md_makes μ kd x y p r) n C :=
  hM.of (md_makes_I (by decide)) (md_makes_I (by decide)) (md_makes_I (by decide)) (md_makes_I (by decide)) (by rw [md_makes_N]; rfl)
theorem rl_bad {τ : LMt} {k : Int32} (h : τ.1 22 = μ.1 22) (hb : ¬ md_bad μ k = true) : ¬ md_bad τ k = true := by
  unfold md_bad at hb ⊢
  rw [h]
  exact hb
/-- a transaction made, and its call kept -/
theorem rl_mkp {n : Nat} {C : Nat → Nat → Int32} (hJ : rl_J μ) (hM : rl_M μ n C) (hn : n ≤ μ.2.2.1 1 + μ.2.2.1 2) (ht : μ.2.2.1 4 ≤ t) {τ : LMt} (hJ1 : rl_J τ) (h22 : ∀ q, 21 < q → τ.1 q = μ.1 q) (hN1 : μ.2.2.1 1 + 1 ≤ τ.2.2.1 1) (hN2 : τ.2.2.1 2 = μ.2.2.1 2) (hN4 : τ.2.2.1 4 = μ.2.2.1 4) {k m a b c d v : Int32} (hm : rl_cd m ≠ 0) (hb : ¬ md_bad μ k = true) : rl_R t (ls_keep (rl_ab τ n C) (cl_f m k a b c d) (nI (μ.2.2.1 4)) v) (md_rmb τ v k (rl_cd m) a b c d) := by
  have h := rl_kp (t := t) (v := v) (a := a) (b := b) (c := c) (d := d) hJ1 (hM.of (h22 22 (by decide)) (h22 23 (by decide)) (h22 24 (by decide)) (h22 25 (by decide)) hN4) hm (rl_bad (h22 22 (by decide)) hb) (by rw [hN2]; omega) (by rw [hN4]; exact ht)
  rw [hN4] at h
  exact h
theorem rl_keE {n : Nat} {C : Nat → Nat → Int32} (hJ : rl_J μ) (hM : rl_M μ n C) (hn : n ≤ μ.2.2.1 1 + μ.2.2.1 2) (ht : μ.2.2.1 4 ≤ t) {τ τ' : LMt} (hJ1 : rl_J τ) (h22 : ∀ q, 21 < q → τ.1 q = μ.1 q) (hN1 : n + 1 ≤ τ.2.2.1 1 + τ.2.2.1 2) (hN4 : τ.2.2.1 4 = μ.2.2.1 4) (hT : τ' = lm_T τ 0) {NM : List String} {k m m' a b c d v : Int32} (hm : rl_cd m ≠ 0) (hm' : rl_cd m = m') (hb : ¬ md_bad μ k = true) : rl_E t NM (none, ls_keep (rl_ab τ n C) (cl_f m k a b c d) (nI (μ.2.2.1 4)) v, .int v) (md_rmb τ' v k m' a b c d, .int v) := by
  subst hT
  subst hm'
  have hM1 : rl_M (lm_T τ 0) n C := hM.of (h22 22 (by decide)) (h22 23 (by decide)) (h22 24 (by decide)) (h22 25 (by decide)) hN4
  have h := rl_kp (t := t) (v := v) (a := a) (b := b) (c := c) (d := d) (hJ1.sT 0) hM1 hm (rl_bad (μ := μ) (h22 22 (by decide)) hb) hN1 (by rw [lm_T3, hN4]; exact ht)
  rw [lm_T3, hN4] at h
  exact rl_yes h rfl rfl
theorem rl_mkE {n : Nat} {C : Nat → Nat → Int32} (hJ : rl_J μ) (hM : rl_M μ n C) (hn : n ≤ μ.2.2.1 1 + μ.2.2.1 2) (ht : μ.2.2.1 4 ≤ t) {kd x y p r : Int32} (hmd : μ.2.2.1 1 < 150) (hx : x = -1 ∨ vp_in x 10) (hy : y = -1 ∨ vp_in y 10) (hxy : ¬ x = y) (hp : 0 ≤ p ∧ p ≤ 10000000) (hr : 0 ≤ r ∧ r ≤ 10000000) {NM : List String} {τ' : LMt} (hT : τ' = lm_T (md_makes μ kd x y p r) 0) {k m m' a b c d v : Int32} (hm : rl_cd m ≠ 0) (hm' : rl_cd m = m') (hb : ¬ md_bad μ k = true) : rl_E t NM (none, ls_keep (ls_post (rl_ab μ n C) kd x y p r) (cl_f m k a b c d) (nI (μ.2.2.1 4)) v, .int v) (md_rmb τ' v k m' a b c d, .int v) := by
  rw [rl_post hmd hx hy (fun z => hxy (z.1.trans z.2.symm)) hp.1 hr.1 hJ.1.2.2.2.2.2.1]
  refine rl_keE hJ hM hn ht (hJ.mks hmd hx hy hxy hp hr) (fun q hq => md_makes_I (Or.inr (by omega))) ?_ ?_ hT hm hm' hb
  · rw [md_makes_N]
    show n + 1 ≤ (μ.2.2.1 1 + 1) + μ.2.2.1 2
    omega
  · rw [md_makes_N]; rfl
theorem rl_w7 {v : Int32} (h : 0 ≤ v ∧ v ≤ 1000000) : 0 ≤ v ∧ v ≤ 10000000 := ⟨h.1, Int32.le_trans h.2 (by decide)⟩
theorem rl_nm {x : Int32} {N : Nat} (h : vp_in x N) : ¬ x = -1 := fun z => vp_in_ge h (by rw [z]; decide)
theorem re_deposit {k1 : Int32} {x : Int32} {v : Int32} (hR : rl_R t σ μ) : rl_E t [xIAE, xIOB, xISE] (op_deposit σ k1 x v) (md_deposit μ k1 x v) := by
  obtain ⟨n, C, rfl, hn, ht, hMI, hI, hM⟩ := id hR
  have hJ : rl_J μ := ⟨hMI, hI⟩
  obtain ⟨b0, b1, b2, b3, b4, cu, ra, p8, p9, pp, h15, h16, b19, b20⟩ := hMI
  obtain ⟨i1, i2, i3, i4, i5, i6, i7, i8, i9, i10, i11⟩ := id hI
  have hM0 : rl_M (lm_T μ 0) n C := hM
  have hJ0 := hJ.sT 0
  unfold op_deposit md_deposit
  refine rl_kd hR hM (m := 100) (by decide) (by decide +kernel) (fun hb => ?_)
  rw [rl_amt, rl_acc b0, rl_roo b1]
  by_cases c : md_amt v = true
  · rw [if_pos c, if_pos c]
    by_cases c2 : md_acc μ x = true
    · rw [if_pos c2, if_pos c2]
      have hx : vp_in x 10 := md_vp c2 b0 (by decide)
      by_cases c5 : nI (μ.2.2.1 1) = 150
      · rw [if_pos c5, if_pos c5]
        exact rl_no hR (by decide +kernel)
      · rw [if_neg c5, if_neg c5]
        have hm : μ.2.2.1 1 < 150 := md_lt (N := 150) b1 (by decide) c5
        exact rl_mkE hJ hM hn ht hm (Or.inl rfl) (Or.inr hx) (fun z => rl_nm hx z.symm) (rl_w7 (rl_am c)) (rl_w7 (rl_am c)) rl_T_mks (by decide) (by decide) hb
    · rw [if_neg c2, if_neg c2]
      exact rl_no hR (by decide +kernel)
  · rw [if_neg c, if_neg c]
    exact rl_no hR (by decide +kernel)
theorem re_withdraw {k1 : Int32} {x : Int32} {v : Int32} (hR : rl_R t σ μ) : rl_E t [xIAE, xIOB, xUOE, xISE] (op_withdraw σ k1 x v) (md_withdraw μ k1 x v) := by
  obtain ⟨n, C, rfl, hn, ht, hMI, hI, hM⟩ := id hR
  have hJ : rl_J μ := ⟨hMI, hI⟩
  obtain ⟨b0, b1, b2, b3, b4, cu, ra, p8, p9, pp, h15, h16, b19, b20⟩ := hMI
  obtain ⟨i1, i2, i3, i4, i5, i6, i7, i8, i9, i10, i11⟩ := id hI
  have hM0 : rl_M (lm_T μ 0) n C := hM
  have hJ0 := hJ.sT 0
  unfold op_withdraw md_withdraw
  refine rl_kd hR hM (m := 119) (by decide) (by decide +kernel) (fun hb => ?_)
  rw [rl_amt, rl_acc b0, rl_roo b1]
  by_cases c : md_amt v = true
  · rw [if_pos c, if_pos c]
    by_cases c2 : md_acc μ x = true
    · rw [if_pos c2, if_pos c2]
      have hx : vp_in x 10 := md_vp c2 b0 (by decide)
      rw [rl_spe b2 hx]
      by_cases c3 : v.toInt64 ≤ md_av μ x
      · rw [if_pos c3, if_pos c3]
        by_cases c5 : nI (μ.2.2.1 1) = 150
        · rw [if_pos c5, if_pos c5]
          exact rl_no hR (by decide +kernel)
        · rw [if_neg c5, if_neg c5]
          have hm : μ.2.2.1 1 < 150 := md_lt (N := 150) b1 (by decide) c5
          exact rl_mkE hJ hM hn ht hm (Or.inr hx) (Or.inl rfl) (fun z => rl_nm hx z) (rl_w7 (rl_am c)) (rl_w7 (rl_am c)) rl_T_mks (by decide) (by decide) hb
      · rw [if_neg c3, if_neg c3]
        exact rl_no hR (by decide +kernel)
    · rw [if_neg c2, if_neg c2]
      exact rl_no hR (by decide +kernel)
  · rw [if_neg c, if_neg c]
    exact rl_no hR (by decide +kernel)
theorem rl_som {r : Int32} (h : 0 ≤ r) : er_som r = if r = 0 then some xUOE else none := by
  unfold er_som
  by_cases c : r = 0
  · rw [if_pos c, if_neg (fun z => (rl_ge1 h).mp z c)]
  · rw [if_neg c, if_pos ((rl_ge1 h).mpr c)]
theorem rl_lt_le {a b : Int64} {E : String} : (if b ≤ a then none else some E) = if a < b then some E else none := by
  by_cases c : a < b
  · rw [if_pos c, if_neg (Int64.not_le.mpr c)]
  · rw [if_neg c, if_pos (Int64.not_lt.mp c)]
theorem re_transfer {k1 : Int32} {x : Int32} {y : Int32} {v : Int32} (hR : rl_R t σ μ) : rl_E t [xIAE, xIOB, xUOE, xISE] (op_transfer σ k1 x y v) (md_transfer μ k1 x y v) := by
  obtain ⟨n, C, rfl, hn, ht, hMI, hI, hM⟩ := id hR
  have hJ : rl_J μ := ⟨hMI, hI⟩
  obtain ⟨b0, b1, b2, b3, b4, cu, ra, p8, p9, pp, h15, h16, b19, b20⟩ := hMI
  obtain ⟨i1, i2, i3, i4, i5, i6, i7, i8, i9, i10, i11⟩ := id hI
  have hM0 : rl_M (lm_T μ 0) n C := hM
  have hJ0 := hJ.sT 0
  unfold op_transfer md_transfer
  refine rl_kd hR hM (m := 116) (by decide) (by decide +kernel) (fun hb => ?_)
  rw [rl_amt, rl_two b0, rl_roo b1]
  by_cases c : md_amt v = true
  · rw [if_pos c, if_pos c]
    by_cases c2 : x = y
    · rw [if_pos c2, if_pos c2]
      exact rl_no hR (by decide +kernel)
    · rw [if_neg c2, if_neg c2]
      by_cases c3 : md_acc μ x = true
      · rw [if_pos c3, if_pos c3]
        have hx : vp_in x 10 := md_vp c3 b0 (by decide)
        by_cases c4 : md_acc μ y = true
        · rw [if_pos c4, if_pos c4]
          have hy : vp_in y 10 := md_vp c4 b0 (by decide)
          have hr := rl_rng (x := x) (y := y) hI cu (rl_am c).1 (rl_am c).2
          rw [rl_spe b2 hx, rl_lt_le, rl_recv hI cu hx hy, rl_som hr.1]
          by_cases c5 : md_av μ x < v.toInt64
          · rw [if_pos c5, if_pos c5]
            exact rl_no hR (by decide +kernel)
          · rw [if_neg c5, if_neg c5]
            by_cases c6 : md_recv μ x y v = 0
            · rw [if_pos c6, if_pos c6]
              exact rl_no hR (by decide +kernel)
            · rw [if_neg c6, if_neg c6]
              by_cases c7 : nI (μ.2.2.1 1) = 150
              · rw [if_pos c7, if_pos c7]
                exact rl_no hR (by decide +kernel)
              · rw [if_neg c7, if_neg c7]
                have hm : μ.2.2.1 1 < 150 := md_lt (N := 150) b1 (by decide) c7
                exact rl_mkE hJ hM hn ht hm (Or.inr hx) (Or.inr hy) c2 (rl_w7 (rl_am c)) hr rl_T_mks (by decide) (by decide) hb
        · rw [if_neg c4, if_neg c4]
          exact rl_no hR (by decide +kernel)
      · rw [if_neg c3, if_neg c3]
        exact rl_no hR (by decide +kernel)
  · rw [if_neg c, if_neg c]
    exact rl_no hR (by decide +kernel)
theorem rl_hds_q {x y v d : Int32} : ∀ q, 21 < q → (md_hds μ x y v d).1 q = μ.1 q := by
  intro q hq
  unfold md_hds
  rw [lm_N1, lm_I1, if_neg (by omega), lm_I1, if_neg (by omega), lm_I1, if_neg (by omega), lm_I1, if_neg (by omega), lm_I1, if_neg (by omega)]
theorem rl_dn {d : Int32} : (if d < 0 then some xIAE else if d ≤ 20 then none else some xIAE) = if md_in d 0 20 = true then none else some xIAE := rl_er2
theorem re_hold {k1 : Int32} {x : Int32} {y : Int32} {v : Int32} {d1 : Int32} (hR : rl_R t σ μ) : rl_E t [xIAE, xIOB, xUOE, xISE] (op_hold σ k1 x y v d1) (md_hold μ k1 x y v d1) := by
  obtain ⟨n, C, rfl, hn, ht, hMI, hI, hM⟩ := id hR
  have hJ : rl_J μ := ⟨hMI, hI⟩
  obtain ⟨b0, b1, b2, b3, b4, cu, ra, p8, p9, pp, h15, h16, b19, b20⟩ := hMI
  obtain ⟨i1, i2, i3, i4, i5, i6, i7, i8, i9, i10, i11⟩ := id hI
  have hM0 : rl_M (lm_T μ 0) n C := hM
  have hJ0 := hJ.sT 0
  unfold op_hold md_hold
  refine rl_kd hR hM (m := 104) (by decide) (by decide +kernel) (fun hb => ?_)
  rw [rl_amt, rl_dn, rl_two b0, rl_s2, rl_fullL (m := μ.2.2.1 2) (N := 30) (M := 30) rfl b2 (by decide), rl_s5]
  by_cases c : md_amt v = true
  · rw [if_pos c, if_pos c]
    by_cases c1 : md_in d1 0 20 = true
    · rw [if_pos c1, if_pos c1]
      by_cases c2 : x = y
      · rw [if_pos c2, if_pos c2]
        exact rl_no hR (by decide +kernel)
      · rw [if_neg c2, if_neg c2]
        by_cases c3 : md_acc μ x = true
        · rw [if_pos c3, if_pos c3]
          have hx : vp_in x 10 := md_vp c3 b0 (by decide)
          by_cases c4 : md_acc μ y = true
          · rw [if_pos c4, if_pos c4]
            have hy : vp_in y 10 := md_vp c4 b0 (by decide)
            rw [rl_spe b2 hx]
            by_cases c5 : v.toInt64 ≤ md_av μ x
            · rw [if_pos c5, if_pos c5]
              by_cases c7 : nI (μ.2.2.1 2) = 30
              · rw [if_pos c7, if_pos c7]
                exact rl_no hR (by decide +kernel)
              · rw [if_neg c7, if_neg c7]
                have hm : μ.2.2.1 2 < 30 := md_lt (N := 30) b2 (by decide) c7
                rw [rl_happ hm rfl]
                exact rl_keE (τ := md_hds μ x y v d1) hJ hM hn ht (hJ.hds hm hx hy c2 (rl_am c)) rl_hds_q (by show n + 1 ≤ μ.2.2.1 1 + (μ.2.2.1 2 + 1); omega) rfl rfl (by decide) (by decide) hb
            · rw [if_neg c5, if_neg c5]
              exact rl_no hR (by decide +kernel)
          · rw [if_neg c4, if_neg c4]
            exact rl_no hR (by decide +kernel)
        · rw [if_neg c3, if_neg c3]
          exact rl_no hR (by decide +kernel)
    · rw [if_neg c1, if_neg c1]
      exact rl_no hR (by decide +kernel)
  · rw [if_neg c, if_neg c]
    exact rl_no hR (by decide +kernel)
theorem re_capture {k1 : Int32} {x : Int32} {v : Int32} (hR : rl_R t σ μ) : rl_E t [xIAE, xIOB, xNSE, xUOE, xISE] (op_capture σ k1 x v) (md_capture μ k1 x v) := by
  obtain ⟨n, C, rfl, hn, ht, hMI, hI, hM⟩ := id hR
  have hJ : rl_J μ := ⟨hMI, hI⟩
  obtain ⟨b0, b1, b2, b3, b4, cu, ra, p8, p9, pp, h15, h16, b19, b20⟩ := hMI
  obtain ⟨i1, i2, i3, i4, i5, i6, i7, i8, i9, i10, i11⟩ := id hI
  have hM0 : rl_M (lm_T μ 0) n C := hM
  have hJ0 := hJ.sT 0
  unfold op_capture md_capture
  refine rl_kd hR hM (m := 99) (by decide) (by decide +kernel) (fun hb => ?_)
  rw [rl_amt, rl_act b2, rl_roo b1]
  by_cases c : md_amt v = true
  · rw [if_pos c, if_pos c]
    by_cases c2 : md_hol μ x = true
    · rw [if_pos c2, if_pos c2]
      have hx : vp_in x 30 := md_vp c2 b2 (by decide)
      have hlt : x.toNatClampNeg < μ.2.2.1 2 := by
        obtain ⟨j, hj, rfl⟩ := md_ix c2 (by omega)
        rw [nI_clamp (by omega)]
        exact hj
      by_cases c3 : μ.1 14 x.toNatClampNeg = 97
      · rw [if_pos c3, if_pos c3]
        have hr := rl_rng (x := μ.1 15 x.toNatClampNeg) (y := μ.1 16 x.toNatClampNeg) hI cu (rl_am c).1 (rl_am c).2
        rw [rl_av2 (k := 15) (f := μ.1 17) hx rfl rfl (by decide), rl_iv (k := 13) (f := μ.1 15) hx rfl rfl (by decide), rl_iv (k := 14) (f := μ.1 16) hx rfl rfl (by decide), rl_recv hI cu (h15 _) (h16 _), rl_som hr.1, rl_lt_le]
        by_cases c5 : μ.1 17 x.toNatClampNeg < v
        · rw [if_pos (rl_lt64.mpr c5), if_pos c5]
          exact rl_no hR (by decide +kernel)
        · rw [if_neg (fun z => c5 (rl_lt64.mp z)), if_neg c5]
          by_cases c6 : md_recv μ (μ.1 15 x.toNatClampNeg) (μ.1 16 x.toNatClampNeg) v = 0
          · rw [if_pos c6, if_pos c6]
            exact rl_no hR (by decide +kernel)
          · rw [if_neg c6, if_neg c6]
            by_cases c7 : nI (μ.2.2.1 1) = 150
            · rw [if_pos c7, if_pos c7]
              exact rl_no hR (by decide +kernel)
            · rw [if_neg c7, if_neg c7]
              have hm : μ.2.2.1 1 < 150 := md_lt (N := 150) b1 (by decide) c7
              rw [show (99 : Int64) = (99 : Int32).toInt64 from rfl, rl_P17 hx]
              have hJ1 : rl_J (lm_I μ 14 (upd (μ.1 14) x.toNatClampNeg 99)) := hJ.s14 _
              have hM1 : rl_M (lm_I μ 14 (upd (μ.1 14) x.toNatClampNeg 99)) n C := hM
              exact rl_mkE hJ1 hM1 hn ht hm (Or.inr (h15 _)) (Or.inr (h16 _)) (i9 _ hlt) (rl_w7 (rl_am c)) hr rl_T_cpt (by decide) (by decide) hb
      · rw [if_neg c3, if_neg c3]
        exact rl_no hR (by decide +kernel)
    · rw [if_neg c2, if_neg c2]
      exact rl_no hR (by decide +kernel)
  · rw [if_neg c, if_neg c]
    exact rl_no hR (by decide +kernel)
theorem re_reverse {k1 : Int32} {x : Int32} (hR : rl_R t σ μ) : rl_E t [xIAE, xIOB, xNSE, xUOE, xISE] (op_reverse σ k1 x) (md_reverse μ k1 x) := by
  obtain ⟨n, C, rfl, hn, ht, hMI, hI, hM⟩ := id hR
  have hJ : rl_J μ := ⟨hMI, hI⟩
  obtain ⟨b0, b1, b2, b3, b4, cu, ra, p8, p9, pp, h15, h16, b19, b20⟩ := hMI
  obtain ⟨i1, i2, i3, i4, i5, i6, i7, i8, i9, i10, i11⟩ := id hI
  have hM0 : rl_M (lm_T μ 0) n C := hM
  have hJ0 := hJ.sT 0
  unfold op_reverse md_reverse
  refine rl_kd hR hM (m := 114) (by decide) (by decide +kernel) (fun hb => ?_)
  rw [rl_tra b1, rl_roo b1]
  by_cases c : md_tra μ x = true
  · rw [if_pos c, if_pos c]
    have hx : vp_in x 150 := md_vp c b1 (by decide)
    have hlt : x.toNatClampNeg < μ.2.2.1 1 := by
      obtain ⟨j, hj, rfl⟩ := md_ix c (by omega)
      rw [nI_clamp (by omega)]
      exact hj
    rw [rl_av2 (k := 6) (f := μ.1 7) hx rfl rfl (by decide), rl_av2 (k := 12) (f := μ.1 13) hx rfl rfl (by decide), rl_iv (k := 8) (f := μ.1 9) hx rfl rfl (by decide), rl_iv (k := 10) (f := μ.1 11) hx rfl rfl (by decide), rl_iv (k := 7) (f := μ.1 8) hx rfl rfl (by decide), rl_iv (k := 9) (f := μ.1 10) hx rfl rfl (by decide)]
    by_cases c2 : μ.1 7 x.toNatClampNeg = 114
    · rw [if_pos (show (μ.1 7 x.toNatClampNeg).toInt64 = (114 : Int64) from (rl_eq64 (y := 114)).mpr c2), if_pos c2]
      exact rl_no hR (by decide +kernel)
    · rw [if_neg (show ¬ (μ.1 7 x.toNatClampNeg).toInt64 = (114 : Int64) from fun z => c2 ((rl_eq64 (y := 114)).mp z)), if_neg c2]
      by_cases c3 : μ.1 13 x.toNatClampNeg < 0
      · have e3 : μ.1 13 x.toNatClampNeg = -1 := (i7 _).resolve_right (fun z => Int32.not_lt.mpr z c3)
        rw [if_neg (show ¬ ¬ (μ.1 13 x.toNatClampNeg).toInt64 = (-1 : Int64) from fun z => z ((rl_eq64 (y := -1)).mpr e3)), if_pos c3]
        have e4 : (if μ.1 9 x.toNatClampNeg = -1 then none else er_spe (rl_ab μ n C) (μ.1 9 x.toNatClampNeg) (μ.1 11 x.toNatClampNeg)) = if md_lk μ (μ.1 9 x.toNatClampNeg) (μ.1 11 x.toNatClampNeg) = true then some xUOE else none := by
          unfold md_lk
          by_cases d1 : μ.1 9 x.toNatClampNeg = -1
          · rw [if_pos d1, if_pos (show μ.1 9 x.toNatClampNeg < 0 by rw [d1]; decide), if_neg (by decide)]
          · have d2 : ¬ μ.1 9 x.toNatClampNeg < 0 := Int32.not_lt.mpr ((i5 _).resolve_left d1)
            rw [if_neg d1, if_neg d2, rl_spe b2 (p9 _ d2)]
            by_cases d3 : (μ.1 11 x.toNatClampNeg).toInt64 ≤ md_av μ (μ.1 9 x.toNatClampNeg)
            · rw [if_pos d3, if_pos d3, if_neg (by decide)]
            · rw [if_neg d3, if_neg d3, if_pos rfl]
        rw [e4]
        by_cases c5 : md_lk μ (μ.1 9 x.toNatClampNeg) (μ.1 11 x.toNatClampNeg) = true
        · rw [if_pos c5, if_pos c5]
          exact rl_no hR (by decide +kernel)
        · rw [if_neg c5, if_neg c5]
          by_cases c7 : nI (μ.2.2.1 1) = 150
          · rw [if_pos c7, if_pos c7]
            exact rl_no hR (by decide +kernel)
          · rw [if_neg c7, if_neg c7]
            have hm : μ.2.2.1 1 < 150 := md_lt (N := 150) b1 (by decide) c7
            have hn0 : ∀ {z : Int32}, (z = -1 ∨ 0 ≤ z) → (¬ z < 0 → vp_in z 10) → (z = -1 ∨ vp_in z 10) := fun h1 h2 => h1.imp_right (fun q => h2 (Int32.not_lt.mpr q))
            have hx9 := hn0 (i5 x.toNatClampNeg) (p9 x.toNatClampNeg)
            have hx8 := hn0 (i4 x.toNatClampNeg) (p8 x.toNatClampNeg)
            have hne : ¬ μ.1 9 x.toNatClampNeg = μ.1 8 x.toNatClampNeg := fun z => i6 _ hlt z.symm
            have hJ2 := hJ.mks (kd := 114) hm hx9 hx8 hne (i3 x.toNatClampNeg) (i2 x.toNatClampNeg)
            have e6 : ls_P (ls_post (rl_ab μ n C) 114 (μ.1 9 x.toNatClampNeg) (μ.1 8 x.toNatClampNeg) (μ.1 11 x.toNatClampNeg) (μ.1 10 x.toNatClampNeg)) 12 x (nI ((rl_ab μ n C).2.1 1)).toInt64 = rl_ab (md_rvs μ x) n C := by
              rw [rl_post hm hx9 hx8 (fun z => hne (z.1.trans z.2.symm)) (i3 _).1 (i2 _).1 cu, rl_P12 hx]
              rfl
            rw [e6]
            have hJ3 : rl_J (md_rvs μ x) := hJ2.s13 (Or.inr (nI_pos' (by omega)))
            have hN3 : (md_rvs μ x).2.2.1 = va_up μ.2.2.1 1 (μ.2.2.1 1 + 1) := md_makes_N
            refine rl_keE hJ hM hn ht hJ3 (fun q hq => ?_) ?_ (by rw [hN3]; rfl) rl_T_rvs (by decide) (by decide) hb
            · unfold md_rvs
              rw [lm_I1, if_neg (by omega)]
              exact md_makes_I (Or.inr (by omega))
            · rw [hN3]
              show n + 1 ≤ (μ.2.2.1 1 + 1) + μ.2.2.1 2
              omega
      · have e3 : ¬ μ.1 13 x.toNatClampNeg = -1 := fun z => c3 (by rw [z]; decide)
        rw [if_pos (show ¬ (μ.1 13 x.toNatClampNeg).toInt64 = (-1 : Int64) from fun z => e3 ((rl_eq64 (y := -1)).mp z)), if_neg c3]
        exact rl_no hR (by decide +kernel)
  · rw [if_neg c, if_neg c]
    exact rl_no hR (by decide +kernel)
theorem re_settle {k1 : Int32} (hR : rl_R t σ μ) : rl_E t [xIAE, xUOE] (op_settle σ k1) (md_settle μ k1) := by
  obtain ⟨n, C, rfl, hn, ht, hMI, hI, hM⟩ := id hR
  have hJ : rl_J μ := ⟨hMI, hI⟩
  obtain ⟨b0, b1, b2, b3, b4, cu, ra, p8, p9, pp, h15, h16, b19, b20⟩ := hMI
  obtain ⟨i1, i2, i3, i4, i5, i6, i7, i8, i9, i10, i11⟩ := id hI
  have hM0 : rl_M (lm_T μ 0) n C := hM
  have hJ0 := hJ.sT 0
  unfold op_settle md_settle
  refine rl_kd hR hM (m := 98) (by decide) (by decide +kernel) (fun hb => ?_)
  rw [rl_cut hJ]
  have hcn := md_ctn_le μ (μ.2.2.1 3)
  by_cases c : nI (md_ctn μ (μ.2.2.1 3)) = 0
  · rw [if_pos c, if_neg (by rw [c]; decide)]
    exact rl_no hR (by decide +kernel)
  · have c0 : ¬ md_ctn μ (μ.2.2.1 3) = 0 := fun z => c (by rw [z]; rfl)
    rw [if_neg c, if_pos (show (1 : Int32) ≤ nI (md_ctn μ (μ.2.2.1 3)) from nI_le (a := 1) (by omega) (by omega))]
    have hcr := md_ctn_room (μ := μ) (c := μ.2.2.1 3) b1 b3
    obtain ⟨s1, s2, s3, s4⟩ := rl_sl (n := n) (C := C) (md_ctn μ (μ.2.2.1 3)) 0 μ hJ (by omega) (by omega)
    rw [s1]
    have hw : (md_sl (md_ctn μ (μ.2.2.1 3)) 0 μ).2.2.1 3 = μ.2.2.1 3 := by rw [s4]; rfl
    have e9 : rl_ab (md_out (md_sl (md_ctn μ (μ.2.2.1 3)) 0 μ) 0 (md_ctn μ (μ.2.2.1 3))) n C = rl_ab (md_stls μ) n C := rfl
    rw [rl_out (by rw [hw]; exact b3) (by rw [hw]; omega), e9, rl_T_ctn]
    have hJ3 : rl_J (md_stls μ) := s2.out (by rw [hw]; omega)
    have hN3 : (md_stls μ).2.2.1 = va_up (va_up μ.2.2.1 1 (μ.2.2.1 1 + md_ctn μ (μ.2.2.1 3))) 3 (μ.2.2.1 3 - md_ctn μ (μ.2.2.1 3)) := by
      unfold md_stls
      rw [rl_out_z, s4]
      rfl
    refine rl_keE hJ hM hn ht hJ3 (fun q hq => ?_) ?_ (by rw [hN3]; rfl) rl_T_stls (by decide) (by decide) hb
    · unfold md_stls
      rw [rl_out_1 (Or.inr hq)]
      exact s3 q (Or.inr (by omega))
    · rw [hN3]
      show n + 1 ≤ (μ.2.2.1 1 + md_ctn μ (μ.2.2.1 3)) + μ.2.2.1 2
      omega
end RP
