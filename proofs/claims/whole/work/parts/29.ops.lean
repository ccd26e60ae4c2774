/-! PART 29: the forty operations -/
section RP
variable {t : Nat} {σ : LSt} {μ : LMt}
theorem rl_T_av {v x : Int32} : md_av (lm_T μ v) x = md_av μ x := rfl
theorem rl_T_rcv {v x : Int32} : md_rcv (lm_T μ v) x = md_rcv μ x := rfl
theorem rl_T_rk {v : Int32} : ∀ (k i : Nat), md_rk (lm_T μ v) k i = md_rk μ k i
  | 0, _ => rfl
  | k + 1, i => by
    simp only [md_rk]
    rw [rl_T_rcv, rl_T_rk k (i + 1)]
theorem rl_T_ak {v : Int32} {f : Nat → Int64} : ∀ (k i : Nat), md_ak (lm_T μ v) f k i = md_ak μ f k i
  | 0, _ => rfl
  | k + 1, i => by
    simp only [md_ak]
    rw [rl_T_av, rl_T_ak k (i + 1)]
theorem rl_T_nt {v : Int32} {f : Nat → Int64} : ∀ k, md_nt (lm_T μ v) k f = md_nt μ k f
  | 0 => rfl
  | k + 1 => by
    simp only [md_nt]
    rw [rl_T_nt k]
    unfold md_nt1
    rw [rl_T_rcv]
    rfl
theorem rl_T_can {v : Int32} {c : Nat} : md_can (lm_T μ v) c = md_can μ c := by
  unfold md_can
  rw [rl_T_rk, rl_T_ak, rl_T_nt]
  rfl
theorem rl_T_ctn {v : Int32} : ∀ c, md_ctn (lm_T μ v) c = md_ctn μ c
  | 0 => rfl
  | c + 1 => by
    simp only [md_ctn]
    rw [rl_T_can, rl_T_ctn c]
theorem rl_T_cur {v x y : Int32} : md_cur (lm_T μ v) x y = md_cur μ x y := rfl
theorem rl_T_ad {v x : Int32} {k : Nat} {u : Int64} : md_ad (lm_T μ v) k x u = lm_T (md_ad μ k x u) v := rfl
theorem rl_T_sb {v x : Int32} {k : Nat} {u : Int64} : md_sb (lm_T μ v) k x u = lm_T (md_sb μ k x u) v := rfl
theorem rl_T_mk1 {v x y p : Int32} : md_mk1 (lm_T μ v) x y p = lm_T (md_mk1 μ x y p) v := by
  unfold md_mk1
  rw [rl_T_cur, rl_T_sb, rl_T_sb]
  by_cases c : x < 0
  · rw [if_pos c, if_pos c]
  · rw [if_neg c, if_neg c]
theorem rl_T_mk2 {τ : LMt} {v x y r : Int32} : md_mk2 (lm_T μ v) (lm_T τ v) x y r = lm_T (md_mk2 μ τ x y r) v := by
  unfold md_mk2
  rw [rl_T_cur, rl_T_ad, rl_T_ad]
  by_cases c : y < 0
  · rw [if_pos c, if_pos c]
  · rw [if_neg c, if_neg c]
theorem rl_T_mk3 {τ : LMt} {v x y p r : Int32} : md_mk3 (lm_T μ v) (lm_T τ v) x y p r = lm_T (md_mk3 μ τ x y p r) v := by
  unfold md_mk3
  rw [rl_T_cur, rl_T_cur, rl_T_ad, rl_T_sb]
  by_cases c : md_cur μ x y = md_cur μ y x
  · rw [if_pos c, if_pos c]
  · rw [if_neg c, if_neg c]
theorem rl_T_mks {v kd x y p r : Int32} : md_makes (lm_T μ v) kd x y p r = lm_T (md_makes μ kd x y p r) v := by
  unfold md_makes
  rw [rl_T_mk1, rl_T_mk2, rl_T_mk3]
  rfl
theorem rl_T_sl {v : Int32} : ∀ (k i : Nat) (τ : LMt), md_sl k i (lm_T τ v) = lm_T (md_sl k i τ) v
  | 0, _, _ => rfl
  | k + 1, i, τ => by
    have e : md_sl1 (lm_T τ v) i = lm_T (md_sl1 τ i) v := by
      unfold md_sl1
      rw [rl_T_mks]
      rfl
    simp only [md_sl]
    rw [e, rl_T_sl k (i + 1)]
theorem rl_T_tk {mn : Nat} {v : Int32} : ∀ (k i : Nat) (τ : LMt), md_tk mn k i (lm_T τ v) = lm_T (md_tk mn k i τ) v
  | 0, _, _ => rfl
  | k + 1, i, τ => rl_T_tk k (i + 1) (md_tk1 mn i (md_tk1 mn i (md_tk1 mn i τ 19) 20) 21)
theorem rl_T_out {ix cn : Nat} {v : Int32} {τ : LMt} : md_out (lm_T τ v) ix cn = lm_T (md_out τ ix cn) v := rl_T_tk _ _ (lm_N τ 3 (τ.2.2.1 3 - cn))
theorem rl_T_stls {v : Int32} : md_stls (lm_T μ v) = lm_T (md_stls μ) v := by
  unfold md_stls
  rw [show (lm_T μ v).2.2.1 3 = μ.2.2.1 3 from rfl, rl_T_ctn, rl_T_sl, rl_T_out]
theorem rl_T_cpt {v x w : Int32} : md_cpt (lm_T μ v) x w = lm_T (md_cpt μ x w) v := rl_T_mks (μ := lm_I μ 14 (upd (μ.1 14) x.toNatClampNeg 99))
theorem rl_T_rvs {v x : Int32} : md_rvs (lm_T μ v) x = lm_T (md_rvs μ x) v := by
  unfold md_rvs
  rw [show md_makes (lm_T μ v) 114 ((lm_T μ v).1 9 x.toNatClampNeg) ((lm_T μ v).1 8 x.toNatClampNeg) ((lm_T μ v).1 11 x.toNatClampNeg) ((lm_T μ v).1 10 x.toNatClampNeg) = lm_T (md_makes μ 114 (μ.1 9 x.toNatClampNeg) (μ.1 8 x.toNatClampNeg) (μ.1 11 x.toNatClampNeg) (μ.1 10 x.toNatClampNeg)) v from rl_T_mks]
  rfl
theorem rl_fullL {m N : Nat} {E : String} {M : Int32} (hM : nI N = M) (hm : m ≤ N) (hN : N < 2 ^ 31) : (if nI m < M then none else some E) = if nI m = M then some E else none := rl_full hM.symm hm hN
theorem re_batchSize (hR : rl_R t σ μ) : rl_E t [] (op_batchSize σ) (md_batchSize μ) := by
  obtain ⟨n, C, rfl, hn, ht, hMI, hI, hM⟩ := id hR
  have hJ : rl_J μ := ⟨hMI, hI⟩
  obtain ⟨b0, b1, b2, b3, b4, cu, ra, p8, p9, pp, h15, h16, b19, b20⟩ := hMI
  obtain ⟨i1, i2, i3, i4, i5, i6, i7, i8, i9, i10, i11⟩ := id hI
  unfold op_batchSize md_batchSize
  exact rl_yes (hR.sT 0) rfl (rfl)
theorem re_accounts (hR : rl_R t σ μ) : rl_E t [] (op_accounts σ) (md_accounts μ) := by
  obtain ⟨n, C, rfl, hn, ht, hMI, hI, hM⟩ := id hR
  have hJ : rl_J μ := ⟨hMI, hI⟩
  obtain ⟨b0, b1, b2, b3, b4, cu, ra, p8, p9, pp, h15, h16, b19, b20⟩ := hMI
  obtain ⟨i1, i2, i3, i4, i5, i6, i7, i8, i9, i10, i11⟩ := id hI
  unfold op_accounts md_accounts
  exact rl_yes (hR.sT 0) rfl (rfl)
theorem re_day (hR : rl_R t σ μ) : rl_E t [] (op_day σ) (md_day μ) := by
  obtain ⟨n, C, rfl, hn, ht, hMI, hI, hM⟩ := id hR
  have hJ : rl_J μ := ⟨hMI, hI⟩
  obtain ⟨b0, b1, b2, b3, b4, cu, ra, p8, p9, pp, h15, h16, b19, b20⟩ := hMI
  obtain ⟨i1, i2, i3, i4, i5, i6, i7, i8, i9, i10, i11⟩ := id hI
  unfold op_day md_day
  exact rl_yes (hR.sT 0) rfl (rfl)
theorem re_transactions (hR : rl_R t σ μ) : rl_E t [] (op_transactions σ) (md_transactions μ) := by
  obtain ⟨n, C, rfl, hn, ht, hMI, hI, hM⟩ := id hR
  have hJ : rl_J μ := ⟨hMI, hI⟩
  obtain ⟨b0, b1, b2, b3, b4, cu, ra, p8, p9, pp, h15, h16, b19, b20⟩ := hMI
  obtain ⟨i1, i2, i3, i4, i5, i6, i7, i8, i9, i10, i11⟩ := id hI
  unfold op_transactions md_transactions
  exact rl_yes (hR.sT 0) rfl (rfl)
theorem re_cut (hR : rl_R t σ μ) : rl_E t [] (op_cut σ) (md_cut μ) := by
  obtain ⟨n, C, rfl, hn, ht, hMI, hI, hM⟩ := id hR
  have hJ : rl_J μ := ⟨hMI, hI⟩
  obtain ⟨b0, b1, b2, b3, b4, cu, ra, p8, p9, pp, h15, h16, b19, b20⟩ := hMI
  obtain ⟨i1, i2, i3, i4, i5, i6, i7, i8, i9, i10, i11⟩ := id hI
  unfold op_cut md_cut
  exact rl_yes (hR.sT 0) rfl (by rw [rl_cut hJ])
theorem re_cutByTrying (hR : rl_R t σ μ) : rl_E t [] (op_cutByTrying σ) (md_cutByTrying μ) := by
  obtain ⟨n, C, rfl, hn, ht, hMI, hI, hM⟩ := id hR
  have hJ : rl_J μ := ⟨hMI, hI⟩
  obtain ⟨b0, b1, b2, b3, b4, cu, ra, p8, p9, pp, h15, h16, b19, b20⟩ := hMI
  obtain ⟨i1, i2, i3, i4, i5, i6, i7, i8, i9, i10, i11⟩ := id hI
  unfold op_cutByTrying md_cutByTrying
  exact rl_yes (hR.sT 0) rfl (by rw [rl_s3, rl_try hJ _ _ _ (by omega)])
theorem re_keys (hR : rl_R t σ μ) : rl_E t [] (op_keys σ) (md_keys μ) := by
  obtain ⟨n, C, rfl, hn, ht, hMI, hI, hM⟩ := id hR
  have hJ : rl_J μ := ⟨hMI, hI⟩
  obtain ⟨b0, b1, b2, b3, b4, cu, ra, p8, p9, pp, h15, h16, b19, b20⟩ := hMI
  obtain ⟨i1, i2, i3, i4, i5, i6, i7, i8, i9, i10, i11⟩ := id hI
  unfold op_keys md_keys
  exact rl_yes (hR.sT 0) rfl (by rw [rl_s5, rl_keys hM])
theorem re_isBalanced (hR : rl_R t σ μ) : rl_E t [] (op_isBalanced σ) (md_isBalanced μ) := by
  obtain ⟨n, C, rfl, hn, ht, hMI, hI, hM⟩ := id hR
  have hJ : rl_J μ := ⟨hMI, hI⟩
  obtain ⟨b0, b1, b2, b3, b4, cu, ra, p8, p9, pp, h15, h16, b19, b20⟩ := hMI
  obtain ⟨i1, i2, i3, i4, i5, i6, i7, i8, i9, i10, i11⟩ := id hI
  unfold op_isBalanced md_isBalanced
  exact rl_yes (hR.sT 0) rfl (by rw [rl_bal b0 4 0 (by decide)])
theorem re_netOf {x : Int32} (hR : rl_R t σ μ) : rl_E t [xIOB] (op_netOf σ x) (md_netOf μ x) := by
  obtain ⟨n, C, rfl, hn, ht, hMI, hI, hM⟩ := id hR
  have hJ : rl_J μ := ⟨hMI, hI⟩
  obtain ⟨b0, b1, b2, b3, b4, cu, ra, p8, p9, pp, h15, h16, b19, b20⟩ := hMI
  obtain ⟨i1, i2, i3, i4, i5, i6, i7, i8, i9, i10, i11⟩ := id hI
  unfold op_netOf md_netOf
  rw [rl_acc b0]
  by_cases c : md_acc μ x = true
  · rw [if_pos c, if_pos c]
    have hx : vp_in x 10 := md_vp c b0 (by decide)
    exact rl_yes (hR.sT 0) rfl (by rw [rl_cut hJ, rl_nof hJ hx (f := md_z 10 (fun _ => 0)) (rl_z0 10 _ (vp_in_lt hx)) _ (Nat.le_trans (md_ctn_le μ _) b3), rl_T_ctn, rl_T_nt])
  · rw [if_neg c, if_neg c]
    exact rl_no hR (by decide +kernel)
theorem re_balance {x : Int32} (hR : rl_R t σ μ) : rl_E t [xIOB] (op_balance σ x) (md_balance μ x) := by
  obtain ⟨n, C, rfl, hn, ht, hMI, hI, hM⟩ := id hR
  have hJ : rl_J μ := ⟨hMI, hI⟩
  obtain ⟨b0, b1, b2, b3, b4, cu, ra, p8, p9, pp, h15, h16, b19, b20⟩ := hMI
  obtain ⟨i1, i2, i3, i4, i5, i6, i7, i8, i9, i10, i11⟩ := id hI
  unfold op_balance md_balance
  rw [rl_acc b0]
  by_cases c : md_acc μ x = true
  · rw [if_pos c, if_pos c]
    have hx : vp_in x 10 := md_vp c b0 (by decide)
    exact rl_yes (hR.sT 0) rfl (by rw [rl_at (N := ls_len 2) hx (by decide)]; rfl)
  · rw [if_neg c, if_neg c]
    exact rl_no hR (by decide +kernel)
theorem re_available {x : Int32} (hR : rl_R t σ μ) : rl_E t [xIOB] (op_available σ x) (md_available μ x) := by
  obtain ⟨n, C, rfl, hn, ht, hMI, hI, hM⟩ := id hR
  have hJ : rl_J μ := ⟨hMI, hI⟩
  obtain ⟨b0, b1, b2, b3, b4, cu, ra, p8, p9, pp, h15, h16, b19, b20⟩ := hMI
  obtain ⟨i1, i2, i3, i4, i5, i6, i7, i8, i9, i10, i11⟩ := id hI
  unfold op_available md_available
  rw [rl_acc b0]
  by_cases c : md_acc μ x = true
  · rw [if_pos c, if_pos c]
    have hx : vp_in x 10 := md_vp c b0 (by decide)
    exact rl_yes (hR.sT 0) rfl (by rw [rl_av b2 hx])
  · rw [if_neg c, if_neg c]
    exact rl_no hR (by decide +kernel)
theorem re_balanceByReplay {x : Int32} (hR : rl_R t σ μ) : rl_E t [xIOB] (op_balanceByReplay σ x) (md_balanceByReplay μ x) := by
  obtain ⟨n, C, rfl, hn, ht, hMI, hI, hM⟩ := id hR
  have hJ : rl_J μ := ⟨hMI, hI⟩
  obtain ⟨b0, b1, b2, b3, b4, cu, ra, p8, p9, pp, h15, h16, b19, b20⟩ := hMI
  obtain ⟨i1, i2, i3, i4, i5, i6, i7, i8, i9, i10, i11⟩ := id hI
  unfold op_balanceByReplay md_balanceByReplay
  rw [rl_acc b0]
  by_cases c : md_acc μ x = true
  · rw [if_pos c, if_pos c]
    exact rl_yes (hR.sT 0) rfl (by rw [rl_rpl b1 i6]; rfl)
  · rw [if_neg c, if_neg c]
    exact rl_no hR (by decide +kernel)
theorem re_worth {x : Int32} (hR : rl_R t σ μ) : rl_E t [xIOB] (op_worth σ x) (md_worth μ x) := by
  obtain ⟨n, C, rfl, hn, ht, hMI, hI, hM⟩ := id hR
  have hJ : rl_J μ := ⟨hMI, hI⟩
  obtain ⟨b0, b1, b2, b3, b4, cu, ra, p8, p9, pp, h15, h16, b19, b20⟩ := hMI
  obtain ⟨i1, i2, i3, i4, i5, i6, i7, i8, i9, i10, i11⟩ := id hI
  unfold op_worth md_worth
  rw [rl_acc b0]
  by_cases c : md_acc μ x = true
  · rw [if_pos c, if_pos c]
    have hx : vp_in x 10 := md_vp c b0 (by decide)
    exact rl_yes (hR.sT 0) rfl (by rw [rl_at (N := ls_len 2) hx (by decide), rl_i0 hx, rl_a5 (cu _)]; rfl)
  · rw [if_neg c, if_neg c]
    exact rl_no hR (by decide +kernel)
theorem re_kindOf {x : Int32} (hR : rl_R t σ μ) : rl_E t [xIOB] (op_kindOf σ x) (md_kindOf μ x) := by
  obtain ⟨n, C, rfl, hn, ht, hMI, hI, hM⟩ := id hR
  have hJ : rl_J μ := ⟨hMI, hI⟩
  obtain ⟨b0, b1, b2, b3, b4, cu, ra, p8, p9, pp, h15, h16, b19, b20⟩ := hMI
  obtain ⟨i1, i2, i3, i4, i5, i6, i7, i8, i9, i10, i11⟩ := id hI
  unfold op_kindOf md_kindOf
  rw [rl_tra b1]
  by_cases c : md_tra μ x = true
  · rw [if_pos c, if_pos c]
    have hx : vp_in x 150 := md_vp c b1 (by decide)
    exact rl_yes (hR.sT 0) rfl (by rw [rl_av2 (k := 6) (f := μ.1 7) hx rfl rfl (by decide), Int32.toInt32_toInt64])
  · rw [if_neg c, if_neg c]
    exact rl_no hR (by decide +kernel)
theorem re_stateOf {x : Int32} (hR : rl_R t σ μ) : rl_E t [xIOB] (op_stateOf σ x) (md_stateOf μ x) := by
  obtain ⟨n, C, rfl, hn, ht, hMI, hI, hM⟩ := id hR
  have hJ : rl_J μ := ⟨hMI, hI⟩
  obtain ⟨b0, b1, b2, b3, b4, cu, ra, p8, p9, pp, h15, h16, b19, b20⟩ := hMI
  obtain ⟨i1, i2, i3, i4, i5, i6, i7, i8, i9, i10, i11⟩ := id hI
  unfold op_stateOf md_stateOf
  rw [rl_hol b2]
  by_cases c : md_hol μ x = true
  · rw [if_pos c, if_pos c]
    have hx : vp_in x 30 := md_vp c b2 (by decide)
    exact rl_yes (hR.sT 0) rfl (by rw [rl_av2 (k := 17) (f := μ.1 14) hx rfl rfl (by decide), Int32.toInt32_toInt64])
  · rw [if_neg c, if_neg c]
    exact rl_no hR (by decide +kernel)
theorem re_paidOf {x : Int32} (hR : rl_R t σ μ) : rl_E t [xIOB] (op_paidOf σ x) (md_paidOf μ x) := by
  obtain ⟨n, C, rfl, hn, ht, hMI, hI, hM⟩ := id hR
  have hJ : rl_J μ := ⟨hMI, hI⟩
  obtain ⟨b0, b1, b2, b3, b4, cu, ra, p8, p9, pp, h15, h16, b19, b20⟩ := hMI
  obtain ⟨i1, i2, i3, i4, i5, i6, i7, i8, i9, i10, i11⟩ := id hI
  unfold op_paidOf md_paidOf
  rw [rl_tra b1]
  by_cases c : md_tra μ x = true
  · rw [if_pos c, if_pos c]
    have hx : vp_in x 150 := md_vp c b1 (by decide)
    exact rl_yes (hR.sT 0) rfl (by rw [rl_iv (k := 9) (f := μ.1 10) hx rfl rfl (by decide)])
  · rw [if_neg c, if_neg c]
    exact rl_no hR (by decide +kernel)
theorem re_receivedOf {x : Int32} (hR : rl_R t σ μ) : rl_E t [xIOB] (op_receivedOf σ x) (md_receivedOf μ x) := by
  obtain ⟨n, C, rfl, hn, ht, hMI, hI, hM⟩ := id hR
  have hJ : rl_J μ := ⟨hMI, hI⟩
  obtain ⟨b0, b1, b2, b3, b4, cu, ra, p8, p9, pp, h15, h16, b19, b20⟩ := hMI
  obtain ⟨i1, i2, i3, i4, i5, i6, i7, i8, i9, i10, i11⟩ := id hI
  unfold op_receivedOf md_receivedOf
  rw [rl_tra b1]
  by_cases c : md_tra μ x = true
  · rw [if_pos c, if_pos c]
    have hx : vp_in x 150 := md_vp c b1 (by decide)
    exact rl_yes (hR.sT 0) rfl (by rw [rl_iv (k := 10) (f := μ.1 11) hx rfl rfl (by decide)])
  · rw [if_neg c, if_neg c]
    exact rl_no hR (by decide +kernel)
theorem re_lastDayOf {x : Int32} (hR : rl_R t σ μ) : rl_E t [xIOB] (op_lastDayOf σ x) (md_lastDayOf μ x) := by
  obtain ⟨n, C, rfl, hn, ht, hMI, hI, hM⟩ := id hR
  have hJ : rl_J μ := ⟨hMI, hI⟩
  obtain ⟨b0, b1, b2, b3, b4, cu, ra, p8, p9, pp, h15, h16, b19, b20⟩ := hMI
  obtain ⟨i1, i2, i3, i4, i5, i6, i7, i8, i9, i10, i11⟩ := id hI
  unfold op_lastDayOf md_lastDayOf
  rw [rl_hol b2]
  by_cases c : md_hol μ x = true
  · rw [if_pos c, if_pos c]
    have hx : vp_in x 30 := md_vp c b2 (by decide)
    exact rl_yes (hR.sT 0) rfl (by rw [rl_iv (k := 16) (f := μ.1 18) hx rfl rfl (by decide)])
  · rw [if_neg c, if_neg c]
    exact rl_no hR (by decide +kernel)
theorem rl_cx {x : Int32} (c : md_in x 0 3 = true) : vp_in x 4 := md_vp (m := 4) (N := 4) c (by decide) (by decide)
theorem re_houseBalance {x : Int32} {y : Int32} (hR : rl_R t σ μ) : rl_E t [xIAE] (op_houseBalance σ x y) (md_houseBalance μ x y) := by
  obtain ⟨n, C, rfl, hn, ht, hMI, hI, hM⟩ := id hR
  have hJ : rl_J μ := ⟨hMI, hI⟩
  obtain ⟨b0, b1, b2, b3, b4, cu, ra, p8, p9, pp, h15, h16, b19, b20⟩ := hMI
  obtain ⟨i1, i2, i3, i4, i5, i6, i7, i8, i9, i10, i11⟩ := id hI
  unfold op_houseBalance md_houseBalance
  rw [rl_cur]
  by_cases c : md_in x 0 3 = true
  · rw [if_pos c, if_pos c]
    have hx := rl_cx c
    by_cases c2 : y = 0
    · rw [if_pos c2, if_pos c2]
      exact rl_yes (hR.sT 0) rfl (by rw [rl_at (N := ls_len 3) hx (by decide)]; rfl)
    · rw [if_neg c2, if_neg c2]
      exact rl_yes (hR.sT 0) rfl (by rw [rl_at (N := ls_len 4) hx (by decide)]; rfl)
  · rw [if_neg c, if_neg c]
    exact rl_no hR (by decide +kernel)
theorem re_payerOf {x : Int32} (hR : rl_R t σ μ) : rl_E t [xIOB, xNSE] (op_payerOf σ x) (md_payerOf μ x) := by
  obtain ⟨n, C, rfl, hn, ht, hMI, hI, hM⟩ := id hR
  have hJ : rl_J μ := ⟨hMI, hI⟩
  obtain ⟨b0, b1, b2, b3, b4, cu, ra, p8, p9, pp, h15, h16, b19, b20⟩ := hMI
  obtain ⟨i1, i2, i3, i4, i5, i6, i7, i8, i9, i10, i11⟩ := id hI
  unfold op_payerOf md_payerOf md_sd
  rw [rl_tra b1]
  by_cases c : md_tra μ x = true
  · rw [if_pos c, if_pos c]
    have hx : vp_in x 150 := md_vp c b1 (by decide)
    rw [rl_iv (k := 7) (f := μ.1 8) hx rfl rfl (by decide)]
    by_cases c2 : μ.1 8 x.toNatClampNeg = -1
    · rw [if_pos c2, if_neg (by rw [c2]; decide)]
      exact rl_no hR (by decide +kernel)
    · rw [if_neg c2, if_pos ((i4 _).resolve_left c2)]
      exact rl_yes (hR.sT 0) rfl rfl
  · rw [if_neg c, if_neg c]
    exact rl_no hR (by decide +kernel)
theorem re_payeeOf {x : Int32} (hR : rl_R t σ μ) : rl_E t [xIOB, xNSE] (op_payeeOf σ x) (md_payeeOf μ x) := by
  obtain ⟨n, C, rfl, hn, ht, hMI, hI, hM⟩ := id hR
  have hJ : rl_J μ := ⟨hMI, hI⟩
  obtain ⟨b0, b1, b2, b3, b4, cu, ra, p8, p9, pp, h15, h16, b19, b20⟩ := hMI
  obtain ⟨i1, i2, i3, i4, i5, i6, i7, i8, i9, i10, i11⟩ := id hI
  unfold op_payeeOf md_payeeOf md_sd
  rw [rl_tra b1]
  by_cases c : md_tra μ x = true
  · rw [if_pos c, if_pos c]
    have hx : vp_in x 150 := md_vp c b1 (by decide)
    rw [rl_iv (k := 8) (f := μ.1 9) hx rfl rfl (by decide)]
    by_cases c2 : μ.1 9 x.toNatClampNeg = -1
    · rw [if_pos c2, if_neg (by rw [c2]; decide)]
      exact rl_no hR (by decide +kernel)
    · rw [if_neg c2, if_pos ((i5 _).resolve_left c2)]
      exact rl_yes (hR.sT 0) rfl rfl
  · rw [if_neg c, if_neg c]
    exact rl_no hR (by decide +kernel)
theorem re_reversalOf {x : Int32} (hR : rl_R t σ μ) : rl_E t [xIOB, xNSE] (op_reversalOf σ x) (md_reversalOf μ x) := by
  obtain ⟨n, C, rfl, hn, ht, hMI, hI, hM⟩ := id hR
  have hJ : rl_J μ := ⟨hMI, hI⟩
  obtain ⟨b0, b1, b2, b3, b4, cu, ra, p8, p9, pp, h15, h16, b19, b20⟩ := hMI
  obtain ⟨i1, i2, i3, i4, i5, i6, i7, i8, i9, i10, i11⟩ := id hI
  unfold op_reversalOf md_reversalOf md_sd
  rw [rl_tra b1]
  by_cases c : md_tra μ x = true
  · rw [if_pos c, if_pos c]
    have hx : vp_in x 150 := md_vp c b1 (by decide)
    rw [rl_iv (k := 12) (f := μ.1 13) hx rfl rfl (by decide), rl_av2 (k := 12) (f := μ.1 13) hx rfl rfl (by decide)]
    by_cases c2 : μ.1 13 x.toNatClampNeg = -1
    · rw [if_neg (show ¬ ¬ (μ.1 13 x.toNatClampNeg).toInt64 = -1 from fun z => z (by rw [c2]; decide)), if_neg (by rw [c2]; decide)]
      exact rl_no hR (by decide +kernel)
    · rw [if_pos (show ¬ (μ.1 13 x.toNatClampNeg).toInt64 = -1 from fun z => c2 ((rl_eq64 (y := -1)).mp z)), if_pos ((i7 _).resolve_left c2)]
      exact rl_yes (hR.sT 0) rfl rfl
  · rw [if_neg c, if_neg c]
    exact rl_no hR (by decide +kernel)
theorem re_balanceAt {x : Int32} {y : Int32} (hR : rl_R t σ μ) : rl_E t [xIOB, xIAE] (op_balanceAt σ x y) (md_balanceAt μ x y) := by
  obtain ⟨n, C, rfl, hn, ht, hMI, hI, hM⟩ := id hR
  have hJ : rl_J μ := ⟨hMI, hI⟩
  obtain ⟨b0, b1, b2, b3, b4, cu, ra, p8, p9, pp, h15, h16, b19, b20⟩ := hMI
  obtain ⟨i1, i2, i3, i4, i5, i6, i7, i8, i9, i10, i11⟩ := id hI
  unfold op_balanceAt md_balanceAt
  rw [rl_acc b0, rl_s5, rl_er2]
  by_cases c : md_acc μ x = true
  · rw [if_pos c, if_pos c]
    by_cases c2 : md_in y 0 (nI (μ.2.2.1 4)) = true
    · rw [if_pos c2, if_pos c2]
      exact rl_yes (hR.sT 0) rfl (by rw [rl_rpl b1 i6])
    · rw [if_neg c2, if_neg c2]
      exact rl_no hR (by decide +kernel)
  · rw [if_neg c, if_neg c]
    exact rl_no hR (by decide +kernel)
theorem re_answerOf {x : Int32} (hR : rl_R t σ μ) : rl_E t [xNSE] (op_answerOf σ x) (md_answerOf μ x) := by
  obtain ⟨n, C, rfl, hn, ht, hMI, hI, hM⟩ := id hR
  have hJ : rl_J μ := ⟨hMI, hI⟩
  obtain ⟨b0, b1, b2, b3, b4, cu, ra, p8, p9, pp, h15, h16, b19, b20⟩ := hMI
  obtain ⟨i1, i2, i3, i4, i5, i6, i7, i8, i9, i10, i11⟩ := id hI
  unfold op_answerOf md_answerOf
  rw [rl_s5]
  by_cases c : md_in x 1 999 = true
  · rw [if_pos c]
    have hk := rl_ans hM c
    obtain ⟨j, h1, h2, rfl⟩ := md_ky c
    rw [nI_clamp (by omega)] at hk ⊢
    rcases rl_f1 hM h1 h2 with ⟨f, z, -⟩ | ⟨i, f, -, -, -, h0, z, -⟩
    · rw [f, z, if_neg (by decide), if_pos (by decide)]
      exact rl_no hR (by decide +kernel)
    · have z0 : ¬ μ.1 22 j = 0 := by rw [z]; exact h0
      have z1 : ¬ μ.1 22 j ≤ 0 := by rw [z]; exact fun w => h0 (Int32.le_antisymm w rl_cd_pos)
      rw [hk z0, f, if_neg z1]
      exact rl_yes (hR.sT 0) rfl rfl
  · rw [if_neg c, rl_f0 hM c, if_neg (by decide)]
    exact rl_no hR (by decide +kernel)
theorem re_reversedShare (hR : rl_R t σ μ) : rl_E t [xARE] (op_reversedShare σ) (md_reversedShare μ) := by
  obtain ⟨n, C, rfl, hn, ht, hMI, hI, hM⟩ := id hR
  have hJ : rl_J μ := ⟨hMI, hI⟩
  obtain ⟨b0, b1, b2, b3, b4, cu, ra, p8, p9, pp, h15, h16, b19, b20⟩ := hMI
  obtain ⟨i1, i2, i3, i4, i5, i6, i7, i8, i9, i10, i11⟩ := id hI
  unfold op_reversedShare md_reversedShare
  rw [rl_s1]
  by_cases c : nI (μ.2.2.1 1) ≤ 0
  · rw [if_pos c, if_neg (fun z => Int32.not_lt.mpr (Int32.le_trans z c) (by decide))]
    exact rl_no hR (by decide +kernel)
  · have c1 : (1 : Int32) ≤ nI (μ.2.2.1 1) := by
      rcases hm : μ.2.2.1 1 with _ | m
      · rw [hm] at c; exact absurd (by decide) c
      · exact nI_le (a := 1) (by omega) (by omega)
    rw [if_neg c, if_pos c1]
    exact rl_yes (hR.sT 0) rfl (by first | (rw [rl_nrev b1 i7]) | (rw [rl_nrev b1 i7]; rfl))
theorem re_meanPaid (hR : rl_R t σ μ) : rl_E t [xARE] (op_meanPaid σ) (md_meanPaid μ) := by
  obtain ⟨n, C, rfl, hn, ht, hMI, hI, hM⟩ := id hR
  have hJ : rl_J μ := ⟨hMI, hI⟩
  obtain ⟨b0, b1, b2, b3, b4, cu, ra, p8, p9, pp, h15, h16, b19, b20⟩ := hMI
  obtain ⟨i1, i2, i3, i4, i5, i6, i7, i8, i9, i10, i11⟩ := id hI
  unfold op_meanPaid md_meanPaid
  rw [rl_s1]
  by_cases c : nI (μ.2.2.1 1) ≤ 0
  · rw [if_pos c, if_neg (fun z => Int32.not_lt.mpr (Int32.le_trans z c) (by decide))]
    exact rl_no hR (by decide +kernel)
  · have c1 : (1 : Int32) ≤ nI (μ.2.2.1 1) := by
      rcases hm : μ.2.2.1 1 with _ | m
      · rw [hm] at c; exact absurd (by decide) c
      · exact nI_le (a := 1) (by omega) (by omega)
    rw [if_neg c, if_pos c1]
    exact rl_yes (hR.sT 0) rfl (by first | (rw [rl_paid b1]) | (rw [rl_paid b1]; rfl))
theorem re_openAccount {x : Int32} {y : Int32} (hR : rl_R t σ μ) : rl_E t [xIAE, xISE] (op_openAccount σ x y) (md_openAccount μ x y) := by
  obtain ⟨n, C, rfl, hn, ht, hMI, hI, hM⟩ := id hR
  have hJ : rl_J μ := ⟨hMI, hI⟩
  obtain ⟨b0, b1, b2, b3, b4, cu, ra, p8, p9, pp, h15, h16, b19, b20⟩ := hMI
  obtain ⟨i1, i2, i3, i4, i5, i6, i7, i8, i9, i10, i11⟩ := id hI
  unfold op_openAccount md_openAccount
  rw [rl_cur, rl_lim, rl_s0, rl_fullL (m := μ.2.2.1 0) (N := 10) (M := 10) rfl b0 (by decide)]
  by_cases c : md_in x 0 3 = true
  · rw [if_pos c, if_pos c]
    by_cases c2 : md_in y 0 1000000 = true
    · rw [if_pos c2, if_pos c2]
      by_cases c3 : nI (μ.2.2.1 0) = 10
      · rw [if_pos c3, if_pos c3]
        exact rl_no hR (by decide +kernel)
      · rw [if_neg c3, if_neg c3]
        have hm : μ.2.2.1 0 < 10 := md_lt (N := 10) b0 (by decide) c3
        exact rl_yes ⟨n, C, rl_open (μ := lm_T μ 0) hm, hn, ht, ((hJ.sT 0).opn (μ := lm_T μ 0) hm (rl_cx c)).1, ((hJ.sT 0).opn (μ := lm_T μ 0) hm (rl_cx c)).2, hM⟩ rfl rfl
    · rw [if_neg c2, if_neg c2]
      exact rl_no hR (by decide +kernel)
  · rw [if_neg c, if_neg c]
    exact rl_no hR (by decide +kernel)
theorem re_setLimit {x : Int32} {y : Int32} (hR : rl_R t σ μ) : rl_E t [xIOB, xIAE, xUOE] (op_setLimit σ x y) (md_setLimit μ x y) := by
  obtain ⟨n, C, rfl, hn, ht, hMI, hI, hM⟩ := id hR
  have hJ : rl_J μ := ⟨hMI, hI⟩
  obtain ⟨b0, b1, b2, b3, b4, cu, ra, p8, p9, pp, h15, h16, b19, b20⟩ := hMI
  obtain ⟨i1, i2, i3, i4, i5, i6, i7, i8, i9, i10, i11⟩ := id hI
  unfold op_setLimit md_setLimit
  rw [rl_acc b0, rl_lim]
  by_cases c : md_acc μ x = true
  · rw [if_pos c, if_pos c]
    have hx : vp_in x 10 := md_vp c b0 (by decide)
    by_cases c2 : md_in y 0 1000000 = true
    · rw [if_pos c2, if_pos c2, rl_av b2 hx, rl_iv (k := 1) (f := μ.1 1) hx rfl rfl (by decide)]
      by_cases c3 : 0 ≤ md_av μ x - (μ.1 1 x.toNatClampNeg).toInt64 + y.toInt64
      · rw [if_pos c3, if_pos c3]
        exact rl_yes ⟨n, C, rl_P1 (μ := lm_T μ 0) hx, hn, ht, hJ.1, hJ.2, hM⟩ rfl rfl
      · rw [if_neg c3, if_neg c3]
        exact rl_no hR (by decide +kernel)
    · rw [if_neg c2, if_neg c2]
      exact rl_no hR (by decide +kernel)
  · rw [if_neg c, if_neg c]
    exact rl_no hR (by decide +kernel)
theorem re_setRate {x : Int32} {y : Int32} (hR : rl_R t σ μ) : rl_E t [xIAE] (op_setRate σ x y) (md_setRate μ x y) := by
  obtain ⟨n, C, rfl, hn, ht, hMI, hI, hM⟩ := id hR
  have hJ : rl_J μ := ⟨hMI, hI⟩
  obtain ⟨b0, b1, b2, b3, b4, cu, ra, p8, p9, pp, h15, h16, b19, b20⟩ := hMI
  obtain ⟨i1, i2, i3, i4, i5, i6, i7, i8, i9, i10, i11⟩ := id hI
  unfold op_setRate md_setRate
  rw [rl_cur, rl_er2]
  by_cases c : md_in x 0 3 = true
  · rw [if_pos c, if_pos c]
    have hx := rl_cx c
    by_cases c2 : md_in y 100 1000 = true
    · rw [if_pos c2, if_pos c2, rl_iv (k := 5) (f := μ.1 2) hx rfl rfl (by decide)]
      obtain ⟨y1, y2⟩ := md_in_of c2
      have hJ' := (hJ.sT 0).s2 (μ := lm_T μ 0) (m := x.toNatClampNeg) (Int32.not_lt.mp y1) (Int32.not_lt.mp y2)
      exact rl_yes ⟨n, C, rl_P5 (μ := lm_T μ 0) hx, hn, ht, hJ'.1, hJ'.2, hM⟩ rfl rfl
    · rw [if_neg c2, if_neg c2]
      exact rl_no hR (by decide +kernel)
  · rw [if_neg c, if_neg c]
    exact rl_no hR (by decide +kernel)
theorem re_release {x : Int32} (hR : rl_R t σ μ) : rl_E t [xIOB, xNSE] (op_release σ x) (md_release μ x) := by
  obtain ⟨n, C, rfl, hn, ht, hMI, hI, hM⟩ := id hR
  have hJ : rl_J μ := ⟨hMI, hI⟩
  obtain ⟨b0, b1, b2, b3, b4, cu, ra, p8, p9, pp, h15, h16, b19, b20⟩ := hMI
  obtain ⟨i1, i2, i3, i4, i5, i6, i7, i8, i9, i10, i11⟩ := id hI
  unfold op_release md_release
  rw [rl_act b2]
  by_cases c : md_hol μ x = true
  · rw [if_pos c, if_pos c]
    have hx : vp_in x 30 := md_vp c b2 (by decide)
    by_cases c2 : μ.1 14 x.toNatClampNeg = 97
    · rw [if_pos c2, if_pos c2, rl_iv (k := 15) (f := μ.1 17) hx rfl rfl (by decide)]
      exact rl_yes ⟨n, C, rl_P17 (μ := lm_T μ 0) (v := 114) hx, hn, ht, hJ.1, hJ.2, hM⟩ rfl rfl
    · rw [if_neg c2, if_neg c2]
      exact rl_no hR (by decide +kernel)
  · rw [if_neg c, if_neg c]
    exact rl_no hR (by decide +kernel)
theorem rl_am {v : Int32} (c : md_amt v = true) : 0 ≤ v ∧ v ≤ 1000000 := by
  obtain ⟨h1, h2⟩ := md_in_of c
  exact ⟨Int32.le_trans (by decide) (Int32.not_lt.mp h1), Int32.not_lt.mp h2⟩
theorem re_addPayment {x : Int32} {y : Int32} {v : Int32} (hR : rl_R t σ μ) : rl_E t [xIAE, xIOB, xISE] (op_addPayment σ x y v) (md_addPayment μ x y v) := by
  obtain ⟨n, C, rfl, hn, ht, hMI, hI, hM⟩ := id hR
  have hJ : rl_J μ := ⟨hMI, hI⟩
  obtain ⟨b0, b1, b2, b3, b4, cu, ra, p8, p9, pp, h15, h16, b19, b20⟩ := hMI
  obtain ⟨i1, i2, i3, i4, i5, i6, i7, i8, i9, i10, i11⟩ := id hI
  unfold op_addPayment md_addPayment
  rw [rl_amt, rl_two b0, rl_s3, rl_fullL (m := μ.2.2.1 3) (N := 12) (M := 12) rfl b3 (by decide)]
  by_cases c : md_amt v = true
  · rw [if_pos c, if_pos c]
    by_cases c2 : x = y
    · rw [if_pos c2, if_pos c2]
      exact rl_no hR (by decide +kernel)
    · rw [if_neg c2, if_neg c2]
      by_cases c3 : md_acc μ x = true
      · rw [if_pos c3, if_pos c3]
        by_cases c4 : md_acc μ y = true
        · rw [if_pos c4, if_pos c4]
          by_cases c5 : nI (μ.2.2.1 3) = 12
          · rw [if_pos c5, if_pos c5]
            exact rl_no hR (by decide +kernel)
          · rw [if_neg c5, if_neg c5]
            have hm : μ.2.2.1 3 < 12 := md_lt (N := 12) b3 (by decide) c5
            have hJ' := (hJ.sT 0).pay (μ := lm_T μ 0) (v := v) hm (md_vp c3 b0 (by decide)) (md_vp c4 b0 (by decide)) c2 (rl_am c)
            exact rl_yes ⟨n, C, rl_bapp (μ := lm_T μ 0) hm, hn, ht, hJ'.1, hJ'.2, hM⟩ rfl rfl
        · rw [if_neg c4, if_neg c4]
          exact rl_no hR (by decide +kernel)
      · rw [if_neg c3, if_neg c3]
        exact rl_no hR (by decide +kernel)
  · rw [if_neg c, if_neg c]
    exact rl_no hR (by decide +kernel)
theorem rl_tk_1 {mn q : Nat} (hq : q < 19 ∨ 21 < q) : ∀ (k i : Nat) (τ : LMt), (md_tk mn k i τ).1 q = τ.1 q
  | 0, _, _ => rfl
  | k + 1, i, τ => by
    refine (rl_tk_1 hq k (i + 1) (md_tk1 mn i (md_tk1 mn i (md_tk1 mn i τ 19) 20) 21)).trans ?_
    unfold md_tk1
    rw [lm_I1, if_neg (by omega), lm_I1, if_neg (by omega), lm_I1, if_neg (by omega)]
theorem rl_out_1 {τ : LMt} {ix cn q : Nat} (hq : q < 19 ∨ 21 < q) : (md_out τ ix cn).1 q = τ.1 q := rl_tk_1 hq _ _ _
theorem rl_out_z {τ : LMt} {ix cn : Nat} : (md_out τ ix cn).2.2 = (va_up τ.2.2.1 3 (τ.2.2.1 3 - cn), τ.2.2.2) := rl_tk_z _ _ _
theorem rl_M.out {n : Nat} {C : Nat → Nat → Int32} (hM : rl_M μ n C) {ix cn : Nat} : rl_M (md_out μ ix cn) n C :=
  hM.of (rl_out_1 (by decide)) (rl_out_1 (by decide)) (rl_out_1 (by decide)) (rl_out_1 (by decide)) (by rw [rl_out_z]; rfl)
theorem re_removePayment {x : Int32} (hR : rl_R t σ μ) : rl_E t [xIOB] (op_removePayment σ x) (md_removePayment μ x) := by
  obtain ⟨n, C, rfl, hn, ht, hMI, hI, hM⟩ := id hR
  have hJ : rl_J μ := ⟨hMI, hI⟩
  obtain ⟨b0, b1, b2, b3, b4, cu, ra, p8, p9, pp, h15, h16, b19, b20⟩ := hMI
  obtain ⟨i1, i2, i3, i4, i5, i6, i7, i8, i9, i10, i11⟩ := id hI
  unfold op_removePayment md_removePayment
  rw [rl_s3, rl_er (m := μ.2.2.1 3) (by omega)]
  by_cases c : md_in x 0 (nI (μ.2.2.1 3) - 1) = true
  · rw [if_pos c, if_pos c]
    have hx : vp_in x 12 := md_vp c b3 (by decide)
    have hl : x.toNatClampNeg + 1 ≤ μ.2.2.1 3 := by
      obtain ⟨j, hj, rfl⟩ := md_ix c (by omega)
      rw [nI_clamp (by omega)]
      omega
    rw [rl_iv (k := 20) (f := μ.1 21) hx rfl rfl (by decide)]
    have hJ' := (hJ.sT 0).out (μ := lm_T μ 0) hl
    refine rl_yes ⟨n, C, rl_out (μ := lm_T μ 0) b3 hl, ?_, ?_, hJ'.1, hJ'.2, rl_M.out (μ := lm_T μ 0) hM⟩ (by rw [rl_out_z]; rfl) rfl
    · rw [rl_out_z]; exact hn
    · rw [rl_out_z]; exact ht
  · rw [if_neg c, if_neg c]
    exact rl_no hR (by decide +kernel)
theorem rl_ex_z {D : Nat} : ∀ (k i : Nat) (τ : LMt) (c : Nat), (md_ex D k i τ c).1.2 = τ.2 ∧ ∀ q, ¬ q = 14 → (md_ex D k i τ c).1.1 q = τ.1 q
  | 0, _, _, _ => ⟨rfl, fun _ _ => rfl⟩
  | k + 1, i, τ, c => by
    simp only [md_ex]
    split
    · split
      · obtain ⟨h1, h2⟩ := rl_ex_z k (i + 1) (lm_I τ 14 (upd (τ.1 14) i 120)) (c + 1)
        exact ⟨h1, fun q hq => (h2 q hq).trans (by rw [lm_I1, if_neg hq])⟩
      · exact rl_ex_z k (i + 1) τ c
    · exact rl_ex_z k (i + 1) τ c
theorem re_closeDay (hR : rl_R t σ μ) (hT : t + 1 < 2 ^ 29) : rl_E (t + 1) [] (op_closeDay σ) (md_closeDay μ) := by
  obtain ⟨n, C, rfl, hn, ht, hMI, hI, hM⟩ := id hR
  have hJ : rl_J μ := ⟨hMI, hI⟩
  obtain ⟨b0, b1, b2, b3, b4, cu, ra, p8, p9, pp, h15, h16, b19, b20⟩ := hMI
  obtain ⟨i1, i2, i3, i4, i5, i6, i7, i8, i9, i10, i11⟩ := id hI
  unfold op_closeDay md_closeDay
  have e0 : ls_exp (nI ((rl_ab μ n C).2.1 5) + 1) ((rl_ab μ n C).2.1 2) 0 (ls_sz (rl_ab μ n C) 5 ((rl_ab μ n C).2.1 5 + 1)) 0 = (rl_ab (md_exd μ).1 n C, (md_exd μ).2) := by
    rw [rl_s5, rl_s2, nI_1, rl_wN5, rl_exp _ _ _ _ (by omega)]
    rfl
  rw [e0]
  have hz := rl_ex_z (D := μ.2.2.1 4 + 1) (μ.2.2.1 2) 0 (lm_N μ 4 (μ.2.2.1 4 + 1)) 0
  have hJ1 : rl_J (md_exd μ).1 := rl_J.ex _ _ _ (hJ.n4 (by omega))
  have z1 : (md_exd μ).1.2 = (lm_N μ 4 (μ.2.2.1 4 + 1)).2 := hz.1
  have z22 : (md_exd μ).1.1 22 = μ.1 22 := hz.2 22 (by decide)
  have z23 : (md_exd μ).1.1 23 = μ.1 23 := hz.2 23 (by decide)
  have z24 : (md_exd μ).1.1 24 = μ.1 24 := hz.2 24 (by decide)
  have z25 : (md_exd μ).1.1 25 = μ.1 25 := hz.2 25 (by decide)
  revert hJ1 z1 z22 z23 z24 z25
  generalize (md_exd μ).1 = τ
  intro hJ1 z1 z22 z23 z24 z25
  have hJ' := rl_J.fg (D := μ.2.2.1 4 + 1) 999 1 hJ1
  have hM' := hM.fg (by omega) z22 z23 z24 z25 (by rw [z1]; rfl)
  have e1 := rl_fg_z (D := μ.2.2.1 4 + 1) 999 1 τ
  rw [← rl_fg (n := n) (C := C) (D := μ.2.2.1 4 + 1) 999 1 τ]
  revert hJ' hM' e1
  generalize md_fg (μ.2.2.1 4 + 1) 999 1 τ = τ'
  intro hJ' hM' e1
  rw [z1] at e1
  have hR' : rl_R (t + 1) (rl_ab τ' n C) τ' := ⟨n, C, rfl, by rw [e1]; exact hn, by rw [e1]; exact Nat.succ_le_succ ht, hJ'.1, hJ'.2, hM'⟩
  exact rl_yes (hR'.sT 0) rfl rfl
end RP
