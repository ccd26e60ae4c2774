/-! PART 42: the body of the law -/
def pWa : List hl_I := [(0, 9, 7, 70, 0, 0, .new 8), (3, 0, 0, 0, 0, 0, .dup), (4, 0, 0, 72, 0, 0, .invokespecial 125), (7, 0, 1, 0, 0, 0, .astore_n 1), (8, 10, 32, 959, 0, 0, .new 126), (11, 0, 0, 0, 0, 0, .dup), (12, 0, 0, 961, 0, 0, .invokespecial 128), (15, 0, 2, 0, 0, 0, .astore_n 2), (16, 0, 0, 0, 1, 0, .iconst 1), (17, 1, 1, 94, 1, 0, .newarray .long), (19, 0, 3, 0, 0, 0, .astore_n 3), (20, 0, 0, 0, 1, 0, .iconst 1), (21, 2, 1, 1334, 1, 0, .newarray .double), (23, 0, 4, 0, 0, 0, .astore 4), (25, 0, 0, 0, 0, 0, .iconst 0), (26, 0, 5, 0, 0, 0, .istore 5), (28, 0, 5, 0, 0, 0, .iload 5)]
set_option maxRecDepth 100000 in
theorem okWa : hl_ok cL_law RL 9 false pWa = true := by decide +kernel
def pWb : List hl_I := [(28, 0, 5, 0, 0, 0, .iload 5), (30, 0, 0, 0, 0, 0, .aload_n 0), (31, 0, 0, 0, 0, 0, .arraylength), (32, 0, 0, 0, 6, 0, .bipush 6), (34, 0, 0, 0, 0, 0, .isub), (35, 2359, 0, 0, 0, 0, .if_icmp .gt 2324), (38, 0, 0, 0, 0, 0, .aload_n 0), (39, 0, 5, 0, 0, 0, .iload 5), (41, 0, 0, 0, 0, 0, .iaload), (42, 0, 0, 0, 63, 0, .bipush 63), (44, 0, 0, 0, 0, 0, .iand)]
set_option maxRecDepth 100000 in
theorem okWb : hl_ok cL_law RL 9 false pWb = true := by decide +kernel
def pWc : List hl_I := [(2353, 0, 5, 0, 6, 0, .iinc 5 6), (2356, 28, 0, 0, 0, 0, .goto (-2328))]
set_option maxRecDepth 100000 in
theorem okWc : hl_ok cL_law RL 9 false pWc = true := by decide +kernel
def pWd : List hl_I := [(2359, 0, 0, 0, 1, 0, .iconst 1), (2360, 0, 0, 0, 0, 0, .ireturn)]
set_option maxRecDepth 100000 in
theorem okWd : hl_ok cL_law RL 9 false pWd = true := by decide +kernel
theorem dWt : decode cL_law 45 = .ok (.tableswitch 2308 0 39 #[175, 243, 311, 379, 459, 539, 631, 735, 815, 871, 939, 1019, 1075, 1131, 1144, 1157, 1170, 1183, 1238, 1251, 1264, 1319, 1374, 1429, 1496, 1579, 1634, 1647, 1703, 1759, 1815, 1871, 1927, 1983, 2039, 2095, 2108, 2164, 2177, 2243], 175) := by decide +kernel
theorem lb_and (y : Int32) : ∃ k : Nat, k < 64 ∧ y &&& 63 = nI k := by
  refine ⟨(y &&& 63).toBitVec.toNat, ?_, ?_⟩
  · rw [Int32.toBitVec_and, BitVec.toNat_and]
    have e : (63 : Int32).toBitVec.toNat = 2 ^ 6 - 1 := rfl
    rw [e, Nat.and_two_pow_sub_one_eq_mod]
    exact Nat.mod_lt _ (by decide)
  · apply Int32.toBitVec_inj.mp
    show _ = (Int32.ofNat _).toBitVec
    rw [Int32.toBitVec_ofNat', BitVec.ofNat_toNat, BitVec.setWidth_eq]
theorem lb_lt {L : Nat} (h : L < 6) : nI L - 6 < 0 := by
  match L, h with
  | 0, _ => decide
  | 1, _ => decide
  | 2, _ => decide
  | 3, _ => decide
  | 4, _ => decide
  | 5, _ => decide
  | L + 6, h => omega
theorem lb_gt {i L : Nat} (hi : i < 2 ^ 30) (h : L < i + 6) (hL : L < 2 ^ 30) : nI L - 6 < nI i := by
  rcases Nat.lt_or_ge L 6 with z | z
  · exact Int32.lt_of_lt_of_le (lb_lt z) (nI_pos' (by omega))
  · rw [show nI L - 6 = nI (L - 6) from nI_sub (y := 6) z]
    exact nI_lt (by omega) (by omega)
theorem lb_ngt {i L : Nat} (h : i + 6 ≤ L) (hL : L < 2 ^ 30) : ¬ nI L - 6 < nI i := by
  rw [show nI L - 6 = nI (L - 6) from nI_sub (y := 6) (by omega)]
  exact nI_nlt (by omega) (by omega)
section TAB
variable {G : hl_G} {l : Launch} {M : hl_M} {d k n : Nat} {Q : Option Value → hl_H → Prop} {X : String → hl_H → Prop}
variable {p : Program} {e : Env} {s : State} {m : MethodId} {args : Array Value} {below : List Frame} {meth : Method} {c : Code} {lv : List (Nat × Value)} {rest : List Value} {h : hl_H} {ce sl pc : Nat}
theorem hl_tabIn (B : hl_B G M d k n p s m args meth c) {dflt lo hi : Int} {offs : Array Int} {len : Nat} {x : Int32} {off : Int} {tgt : Nat} (hdg : decode M.2.1 pc = .ok (.tableswitch dflt lo hi offs, len)) (h1 : ¬ x.toInt < lo) (h2 : ¬ hi < x.toInt) (ho : offs[(x.toInt - lo).toNat]? = some off) (ht : (pc : Int) + off = (tgt : Int))
    (hw : hl_GM G M d k n Q X p l e s m args below meth c tgt lv rest h ce sl) : hl_GM G M d k n Q X p l e s m args below meth c pc lv (.int x :: rest) h ce sl :=
  fun H locs ls hP hS hl => lv_tableIn B.1.1 B.1.2.1 hdg h1 h2 ho ht (hw H locs ls hP hS hl)
theorem hl_iand9 (B : hl_B G M d k n p s m args meth c) {x y : Int32} (hdg : decode M.2.1 pc = .ok (.iand, 1)) (hw : hl_GM G M d k n Q X p l e s m args below meth c (pc + 1) lv (.int (x &&& y) :: rest) h ce sl) : hl_GM G M d k n Q X p l e s m args below meth c pc lv (.int y :: .int x :: rest) h ce sl :=
  fun H locs ls hP hS hl => lv_iand B.1.1 B.1.2.1 hdg (hw H locs ls hP hS hl)
theorem hl_tabOut (B : hl_B G M d k n p s m args meth c) {dflt lo hi : Int} {offs : Array Int} {len : Nat} {x : Int32} {tgt : Nat} (hdg : decode M.2.1 pc = .ok (.tableswitch dflt lo hi offs, len)) (h1 : x.toInt < lo ∨ hi < x.toInt) (ht : (pc : Int) + dflt = (tgt : Int))
    (hw : hl_GM G M d k n Q X p l e s m args below meth c tgt lv rest h ce sl) : hl_GM G M d k n Q X p l e s m args below meth c pc lv (.int x :: rest) h ce sl :=
  fun H locs ls hP hS hl => lv_tableOut B.1.1 B.1.2.1 hdg h1 ht (hw H locs ls hP hS hl)
end TAB
set_option maxRecDepth 20000 in
/-- the forty calls, and none -/
theorem lb_sw {G : hl_G} {l : Launch} {p : Program} {e : Env} {s : State} {m : MethodId} {args : Array Value} {below : List Frame} {meth : Method} {c : Code} (B : hl_B G mL_law 14 603072 7207018 p s m args meth c) (hst : l.stackTraces = false) {b L : Nat} {xs : Nat → Int32} (hX : va_X b L xs s s.heap) (hb : b < s.heap.size) (hA : ¬ hl_A G b) (hL : L ≤ 3072)
    {t i : Nat} (hi : i + 6 ≤ L) {a ca bb : Nat → Nat} {ro rd : Nat} {σ : LSt} {μ : LMt} {f : Nat → Int64} {fd : Nat → UInt64} {h : hl_H} (w : ww_W a ca bb ro rd σ μ f fd h) (hR : rl_R t σ μ) (ht : t + 1 < 2 ^ 29) {ce sl : Nat} (hce : ce + 12 ≤ 603072) (hsl : sl + 90 ≤ 7207018)
    (K : (∀ (ca' : Nat → Nat) (σ' : LSt) (μ' : LMt) (f' : Nat → Int64) (fd' : Nat → UInt64) (h' : hl_H) (ce' sl' : Nat), ww_W a ca' bb ro rd σ' μ' f' fd' h' → rl_R (t + 1) σ' μ' → ce' ≤ ce + 12 → sl' ≤ sl + 90 → hl_GM G mL_law 14 603072 7207018 lk_Q (fun _ _ => False) p l e s m args below meth c 2353 [(0, .ref b), (1, .ref (a 0)), (2, .ref (bb 0)), (3, .ref ro), (4, .ref rd), (5, .int (nI i))] [] h' ce' sl')) (z : Nat) (hz : z < 64) : hl_GM G mL_law 14 603072 7207018 lk_Q (fun _ _ => False) p l e s m args below meth c 45 [(0, .ref b), (1, .ref (a 0)), (2, .ref (bb 0)), (3, .ref ro), (4, .ref rd), (5, .int (nI i))] [.int (nI z)] h ce sl := by
  have hL9 : L < 2 ^ 31 := by omega
  match z, hz with
  | 0, _ => exact hl_tabIn B dWt (by decide) (by decide) (off := 175) (by decide) (tgt := 220) (by decide) (lc_openAccount B hst hX hb hA hL9 hi w hR ht hce hsl K)
  | 1, _ => exact hl_tabIn B dWt (by decide) (by decide) (off := 243) (by decide) (tgt := 288) (by decide) (lc_setLimit B hst hX hb hA hL9 hi w hR ht hce hsl K)
  | 2, _ => exact hl_tabIn B dWt (by decide) (by decide) (off := 311) (by decide) (tgt := 356) (by decide) (lc_setRate B hst hX hb hA hL9 hi w hR ht hce hsl K)
  | 3, _ => exact hl_tabIn B dWt (by decide) (by decide) (off := 379) (by decide) (tgt := 424) (by decide) (lc_deposit B hst hX hb hA hL9 hi w hR ht hce hsl K)
  | 4, _ => exact hl_tabIn B dWt (by decide) (by decide) (off := 459) (by decide) (tgt := 504) (by decide) (lc_withdraw B hst hX hb hA hL9 hi w hR ht hce hsl K)
  | 5, _ => exact hl_tabIn B dWt (by decide) (by decide) (off := 539) (by decide) (tgt := 584) (by decide) (lc_transfer B hst hX hb hA hL9 hi w hR ht hce hsl K)
  | 6, _ => exact hl_tabIn B dWt (by decide) (by decide) (off := 631) (by decide) (tgt := 676) (by decide) (lc_hold B hst hX hb hA hL9 hi w hR ht hce hsl K)
  | 7, _ => exact hl_tabIn B dWt (by decide) (by decide) (off := 735) (by decide) (tgt := 780) (by decide) (lc_capture B hst hX hb hA hL9 hi w hR ht hce hsl K)
  | 8, _ => exact hl_tabIn B dWt (by decide) (by decide) (off := 815) (by decide) (tgt := 860) (by decide) (lc_release B hst hX hb hA hL9 hi w hR ht hce hsl K)
  | 9, _ => exact hl_tabIn B dWt (by decide) (by decide) (off := 871) (by decide) (tgt := 916) (by decide) (lc_reverse B hst hX hb hA hL9 hi w hR ht hce hsl K)
  | 10, _ => exact hl_tabIn B dWt (by decide) (by decide) (off := 939) (by decide) (tgt := 984) (by decide) (lc_addPayment B hst hX hb hA hL9 hi w hR ht hce hsl K)
  | 11, _ => exact hl_tabIn B dWt (by decide) (by decide) (off := 1019) (by decide) (tgt := 1064) (by decide) (lc_removePayment B hst hX hb hA hL9 hi w hR ht hce hsl K)
  | 12, _ => exact hl_tabIn B dWt (by decide) (by decide) (off := 1075) (by decide) (tgt := 1120) (by decide) (lc_settle B hst hX hb hA hL9 hi w hR ht hce hsl K)
  | 13, _ => exact hl_tabIn B dWt (by decide) (by decide) (off := 1131) (by decide) (tgt := 1176) (by decide) (lc_closeDay B hst hX hb hA hL9 hi w hR ht hce hsl K)
  | 14, _ => exact hl_tabIn B dWt (by decide) (by decide) (off := 1144) (by decide) (tgt := 1189) (by decide) (lc_batchSize B hst hX hb hA hL9 hi w hR ht hce hsl K)
  | 15, _ => exact hl_tabIn B dWt (by decide) (by decide) (off := 1157) (by decide) (tgt := 1202) (by decide) (lc_cut B hst hX hb hA hL9 hi w hR ht hce hsl K)
  | 16, _ => exact hl_tabIn B dWt (by decide) (by decide) (off := 1170) (by decide) (tgt := 1215) (by decide) (lc_cutByTrying B hst hX hb hA hL9 hi w hR ht hce hsl K)
  | 17, _ => exact hl_tabIn B dWt (by decide) (by decide) (off := 1183) (by decide) (tgt := 1228) (by decide) (lc_netOf B hst hX hb hA hL9 hi w hR ht hce hsl K)
  | 18, _ => exact hl_tabIn B dWt (by decide) (by decide) (off := 1238) (by decide) (tgt := 1283) (by decide) (lc_accounts B hst hX hb hA hL9 hi w hR ht hce hsl K)
  | 19, _ => exact hl_tabIn B dWt (by decide) (by decide) (off := 1251) (by decide) (tgt := 1296) (by decide) (lc_day B hst hX hb hA hL9 hi w hR ht hce hsl K)
  | 20, _ => exact hl_tabIn B dWt (by decide) (by decide) (off := 1264) (by decide) (tgt := 1309) (by decide) (lc_balance B hst hX hb hA hL9 hi w hR ht hce hsl K)
  | 21, _ => exact hl_tabIn B dWt (by decide) (by decide) (off := 1319) (by decide) (tgt := 1364) (by decide) (lc_available B hst hX hb hA hL9 hi w hR ht hce hsl K)
  | 22, _ => exact hl_tabIn B dWt (by decide) (by decide) (off := 1374) (by decide) (tgt := 1419) (by decide) (lc_balanceByReplay B hst hX hb hA hL9 hi w hR ht hce hsl K)
  | 23, _ => exact hl_tabIn B dWt (by decide) (by decide) (off := 1429) (by decide) (tgt := 1474) (by decide) (lc_balanceAt B hst hX hb hA hL9 hi w hR ht hce hsl K)
  | 24, _ => exact hl_tabIn B dWt (by decide) (by decide) (off := 1496) (by decide) (tgt := 1541) (by decide) (lc_houseBalance B hst hX hb hA hL9 hi w hR ht hce hsl K)
  | 25, _ => exact hl_tabIn B dWt (by decide) (by decide) (off := 1579) (by decide) (tgt := 1624) (by decide) (lc_worth B hst hX hb hA hL9 hi w hR ht hce hsl K)
  | 26, _ => exact hl_tabIn B dWt (by decide) (by decide) (off := 1634) (by decide) (tgt := 1679) (by decide) (lc_transactions B hst hX hb hA hL9 hi w hR ht hce hsl K)
  | 27, _ => exact hl_tabIn B dWt (by decide) (by decide) (off := 1647) (by decide) (tgt := 1692) (by decide) (lc_kindOf B hst hX hb hA hL9 hi w hR ht hce hsl K)
  | 28, _ => exact hl_tabIn B dWt (by decide) (by decide) (off := 1703) (by decide) (tgt := 1748) (by decide) (lc_payerOf B hst hX hb hA hL9 hi w hR ht hce hsl K)
  | 29, _ => exact hl_tabIn B dWt (by decide) (by decide) (off := 1759) (by decide) (tgt := 1804) (by decide) (lc_payeeOf B hst hX hb hA hL9 hi w hR ht hce hsl K)
  | 30, _ => exact hl_tabIn B dWt (by decide) (by decide) (off := 1815) (by decide) (tgt := 1860) (by decide) (lc_paidOf B hst hX hb hA hL9 hi w hR ht hce hsl K)
  | 31, _ => exact hl_tabIn B dWt (by decide) (by decide) (off := 1871) (by decide) (tgt := 1916) (by decide) (lc_receivedOf B hst hX hb hA hL9 hi w hR ht hce hsl K)
  | 32, _ => exact hl_tabIn B dWt (by decide) (by decide) (off := 1927) (by decide) (tgt := 1972) (by decide) (lc_reversalOf B hst hX hb hA hL9 hi w hR ht hce hsl K)
  | 33, _ => exact hl_tabIn B dWt (by decide) (by decide) (off := 1983) (by decide) (tgt := 2028) (by decide) (lc_stateOf B hst hX hb hA hL9 hi w hR ht hce hsl K)
  | 34, _ => exact hl_tabIn B dWt (by decide) (by decide) (off := 2039) (by decide) (tgt := 2084) (by decide) (lc_lastDayOf B hst hX hb hA hL9 hi w hR ht hce hsl K)
  | 35, _ => exact hl_tabIn B dWt (by decide) (by decide) (off := 2095) (by decide) (tgt := 2140) (by decide) (lc_keys B hst hX hb hA hL9 hi w hR ht hce hsl K)
  | 36, _ => exact hl_tabIn B dWt (by decide) (by decide) (off := 2108) (by decide) (tgt := 2153) (by decide) (lc_answerOf B hst hX hb hA hL9 hi w hR ht hce hsl K)
  | 37, _ => exact hl_tabIn B dWt (by decide) (by decide) (off := 2164) (by decide) (tgt := 2209) (by decide) (lc_isBalanced B hst hX hb hA hL9 hi w hR ht hce hsl K)
  | 38, _ => exact hl_tabIn B dWt (by decide) (by decide) (off := 2177) (by decide) (tgt := 2222) (by decide) (lc_reversedShare B hst hX hb hA hL9 hi w hR ht hce hsl K)
  | 39, _ => exact hl_tabIn B dWt (by decide) (by decide) (off := 2243) (by decide) (tgt := 2288) (by decide) (lc_meanPaid B hst hX hb hA hL9 hi w hR ht hce hsl K)
  | z + 40, hz =>
    have hzz : (nI (z + 40)).toInt = ((z + 40 : Nat) : Int) := nI_toInt (by omega)
    exact hl_tabOut B dWt (Or.inr (by rw [hzz]; omega)) (tgt := 2353) (by decide) (K _ _ _ _ _ _ _ _ w (hR.up (Nat.le_succ t)) (by omega) (by omega))
set_option maxRecDepth 20000 in
set_option maxHeartbeats 2000000 in
theorem lb_loop {G : hl_G} {l : Launch} {p : Program} {e : Env} {s : State} {m : MethodId} {args : Array Value} {below : List Frame} {meth : Method} {c : Code} (B : hl_B G mL_law 14 603072 7207018 p s m args meth c) (hst : l.stackTraces = false) {b L : Nat} {xs : Nat → Int32} (hX : va_X b L xs s s.heap) (hb : b < s.heap.size) (hA : ¬ hl_A G b) (hL : L ≤ 3072) : ∀ (k9 t i : Nat) (a ca bb : Nat → Nat) (ro rd : Nat) (σ : LSt) (μ : LMt) (f : Nat → Int64) (fd : Nat → UInt64) (h : hl_H) (ce sl : Nat), L ≤ i + 6 * k9 → i = 6 * t → i ≤ 3072 → ww_W a ca bb ro rd σ μ f fd h → rl_R t σ μ → ce ≤ 100 + 12 * t → sl ≤ 10000 + 90 * t → hl_GM G mL_law 14 603072 7207018 lk_Q (fun _ _ => False) p l e s m args below meth c 28 [(0, .ref b), (1, .ref (a 0)), (2, .ref (bb 0)), (3, .ref ro), (4, .ref rd), (5, .int (nI i))] [] h ce sl := by
  have hout : ∀ (t i : Nat) (a ca bb : Nat → Nat) (ro rd : Nat) (h : hl_H) (ce sl : Nat), L < i + 6 → i ≤ 3072 → ce ≤ 603072 → sl ≤ 7207018 → hl_GM G mL_law 14 603072 7207018 lk_Q (fun _ _ => False) p l e s m args below meth c 28 [(0, .ref b), (1, .ref (a 0)), (2, .ref (bb 0)), (3, .ref ro), (4, .ref rd), (5, .int (nI i))] [] h ce sl := by
    intro t i a ca bb ro rd h ce sl h1 h2 h3 h4
    have hgt := lb_gt (i := i) (L := L) (by omega) h1 (by omega)
    refine hl_seg B okWb (fun q => nomatch q) 0 2 rfl ?_
    simp only [pWb, List.drop_zero, List.drop_succ_cons, hl_wp, hs_ii, hs_i1, hs_ll, hs_l1, hs_ff, hs_g1, hs_dd, hs_d1, hs_r1, hs_rv, hs_rv0, hs_n1, hs_n0, hs_v1i, hs_v1r, hs_a1, hs_d2l, hs_d2i, hs_ri, hs_rl, hs_rg, hs_rd8, hs_rr, hs_rn, hs_ov, hs_gf, hs_po, hs_pfi, hs_pfr, hs_ia, hs_la, hs_da, hs_qa, hs_al, hs_is, hs_ls, hs_ds, hs_iso, hs_lso, hs_dso, hs_rd, hs_f1, hs_f10, hs_f2, hs_f20, hs_in0, hs_in1, hs_lt, hs_le, hs_ge, hs_gt, hs_eq, hs_10, hs_00, hs_01, true_and, and_true, true_imp_iff, false_imp_iff, not_true_eq_false, not_false_eq_true, hs_av, hs_ai, hs_ar, hs_an, hs_aj, hs_ci, hs_cr, hs_cn, hs_cj, hs_cd, hs_cf, hs_q0, hs_q1, reduceIte, Nat.reduceEqDiff, Nat.reduceAdd, Nat.reduceLT, eq_self, List.getElem?_cons_zero, List.getElem?_cons_succ, List.set_cons_zero, List.set_cons_succ, List.length_cons, List.length_nil, Option.toList_some, Option.toList_none, List.cons_append, List.nil_append, Nat.zero_add, Nat.add_zero, List.map_nil, List.sum_nil, List.map_cons, List.sum_cons, Nat.zero_le, hs_set1]
    refine hl_slen B hX hb hA (hl_dec okWb 2 rfl) ?_
    refine hl_seg B okWb (fun q => nomatch q) 3 5 rfl ?_
    simp only [pWb, List.drop_zero, List.drop_succ_cons, hl_wp, hs_ii, hs_i1, hs_ll, hs_l1, hs_ff, hs_g1, hs_dd, hs_d1, hs_r1, hs_rv, hs_rv0, hs_n1, hs_n0, hs_v1i, hs_v1r, hs_a1, hs_d2l, hs_d2i, hs_ri, hs_rl, hs_rg, hs_rd8, hs_rr, hs_rn, hs_ov, hs_gf, hs_po, hs_pfi, hs_pfr, hs_ia, hs_la, hs_da, hs_qa, hs_al, hs_is, hs_ls, hs_ds, hs_iso, hs_lso, hs_dso, hs_rd, hs_f1, hs_f10, hs_f2, hs_f20, hs_in0, hs_in1, hs_lt, hs_le, hs_ge, hs_gt, hs_eq, hs_10, hs_00, hs_01, true_and, and_true, true_imp_iff, false_imp_iff, not_true_eq_false, not_false_eq_true, hs_av, hs_ai, hs_ar, hs_an, hs_aj, hs_ci, hs_cr, hs_cn, hs_cj, hs_cd, hs_cf, hs_q0, hs_q1, reduceIte, Nat.reduceEqDiff, Nat.reduceAdd, Nat.reduceLT, eq_self, List.getElem?_cons_zero, List.getElem?_cons_succ, List.set_cons_zero, List.set_cons_succ, List.length_cons, List.length_nil, Option.toList_some, Option.toList_none, List.cons_append, List.nil_append, Nat.zero_add, Nat.add_zero, List.map_nil, List.sum_nil, List.map_cons, List.sum_cons, Nat.zero_le, hs_set1, hgt]
    refine hl_seg B okWd (fun q => nomatch q) 0 1000 rfl ?_
    simp only [pWd, List.drop_zero, List.drop_succ_cons, hl_wp, hs_ii, hs_i1, hs_ll, hs_l1, hs_ff, hs_g1, hs_dd, hs_d1, hs_r1, hs_rv, hs_rv0, hs_n1, hs_n0, hs_v1i, hs_v1r, hs_a1, hs_d2l, hs_d2i, hs_ri, hs_rl, hs_rg, hs_rd8, hs_rr, hs_rn, hs_ov, hs_gf, hs_po, hs_pfi, hs_pfr, hs_ia, hs_la, hs_da, hs_qa, hs_al, hs_is, hs_ls, hs_ds, hs_iso, hs_lso, hs_dso, hs_rd, hs_f1, hs_f10, hs_f2, hs_f20, hs_in0, hs_in1, hs_lt, hs_le, hs_ge, hs_gt, hs_eq, hs_10, hs_00, hs_01, true_and, and_true, true_imp_iff, false_imp_iff, not_true_eq_false, not_false_eq_true, hs_av, hs_ai, hs_ar, hs_an, hs_aj, hs_ci, hs_cr, hs_cn, hs_cj, hs_cd, hs_cf, hs_q0, hs_q1, reduceIte, Nat.reduceEqDiff, Nat.reduceAdd, Nat.reduceLT, eq_self, List.getElem?_cons_zero, List.getElem?_cons_succ, List.set_cons_zero, List.set_cons_succ, List.length_cons, List.length_nil, Option.toList_some, Option.toList_none, List.cons_append, List.nil_append, Nat.zero_add, Nat.add_zero, List.map_nil, List.sum_nil, List.map_cons, List.sum_cons, Nat.zero_le, hs_set1]
    exact hl_iret B rfl rfl (hl_dec okWd 1 rfl) h3 h4 rfl
  intro k9
  induction k9 with
  | zero =>
    intro t i a ca bb ro rd σ μ f fd h ce sl h1 h2 h3 w hR h4 h5
    exact hout t i a ca bb ro rd h ce sl (by omega) h3 (by omega) (by omega)
  | succ k9 ih =>
    intro t i a ca bb ro rd σ μ f fd h ce sl h1 h2 h3 w hR h4 h5
    by_cases hi : i + 6 ≤ L
    · have hgt := lb_ngt (i := i) (L := L) hi (by omega)
      refine hl_seg B okWb (fun q => nomatch q) 0 2 rfl ?_
      simp only [pWb, List.drop_zero, List.drop_succ_cons, hl_wp, hs_ii, hs_i1, hs_ll, hs_l1, hs_ff, hs_g1, hs_dd, hs_d1, hs_r1, hs_rv, hs_rv0, hs_n1, hs_n0, hs_v1i, hs_v1r, hs_a1, hs_d2l, hs_d2i, hs_ri, hs_rl, hs_rg, hs_rd8, hs_rr, hs_rn, hs_ov, hs_gf, hs_po, hs_pfi, hs_pfr, hs_ia, hs_la, hs_da, hs_qa, hs_al, hs_is, hs_ls, hs_ds, hs_iso, hs_lso, hs_dso, hs_rd, hs_f1, hs_f10, hs_f2, hs_f20, hs_in0, hs_in1, hs_lt, hs_le, hs_ge, hs_gt, hs_eq, hs_10, hs_00, hs_01, true_and, and_true, true_imp_iff, false_imp_iff, not_true_eq_false, not_false_eq_true, hs_av, hs_ai, hs_ar, hs_an, hs_aj, hs_ci, hs_cr, hs_cn, hs_cj, hs_cd, hs_cf, hs_q0, hs_q1, reduceIte, Nat.reduceEqDiff, Nat.reduceAdd, Nat.reduceLT, eq_self, List.getElem?_cons_zero, List.getElem?_cons_succ, List.set_cons_zero, List.set_cons_succ, List.length_cons, List.length_nil, Option.toList_some, Option.toList_none, List.cons_append, List.nil_append, Nat.zero_add, Nat.add_zero, List.map_nil, List.sum_nil, List.map_cons, List.sum_cons, Nat.zero_le, hs_set1]
      refine hl_slen B hX hb hA (hl_dec okWb 2 rfl) ?_
      refine hl_seg B okWb (fun q => nomatch q) 3 5 rfl ?_
      simp only [pWb, List.drop_zero, List.drop_succ_cons, hl_wp, hs_ii, hs_i1, hs_ll, hs_l1, hs_ff, hs_g1, hs_dd, hs_d1, hs_r1, hs_rv, hs_rv0, hs_n1, hs_n0, hs_v1i, hs_v1r, hs_a1, hs_d2l, hs_d2i, hs_ri, hs_rl, hs_rg, hs_rd8, hs_rr, hs_rn, hs_ov, hs_gf, hs_po, hs_pfi, hs_pfr, hs_ia, hs_la, hs_da, hs_qa, hs_al, hs_is, hs_ls, hs_ds, hs_iso, hs_lso, hs_dso, hs_rd, hs_f1, hs_f10, hs_f2, hs_f20, hs_in0, hs_in1, hs_lt, hs_le, hs_ge, hs_gt, hs_eq, hs_10, hs_00, hs_01, true_and, and_true, true_imp_iff, false_imp_iff, not_true_eq_false, not_false_eq_true, hs_av, hs_ai, hs_ar, hs_an, hs_aj, hs_ci, hs_cr, hs_cn, hs_cj, hs_cd, hs_cf, hs_q0, hs_q1, reduceIte, Nat.reduceEqDiff, Nat.reduceAdd, Nat.reduceLT, eq_self, List.getElem?_cons_zero, List.getElem?_cons_succ, List.set_cons_zero, List.set_cons_succ, List.length_cons, List.length_nil, Option.toList_some, Option.toList_none, List.cons_append, List.nil_append, Nat.zero_add, Nat.add_zero, List.map_nil, List.sum_nil, List.map_cons, List.sum_cons, Nat.zero_le, hs_set1, hgt]
      refine hl_sld B hX hb hA (by omega) (by omega) (hl_dec okWb 8 rfl) ?_
      refine hl_seg B okWb (fun q => nomatch q) 9 1 rfl ?_
      simp only [pWb, List.drop_zero, List.drop_succ_cons, hl_wp, hs_ii, hs_i1, hs_ll, hs_l1, hs_ff, hs_g1, hs_dd, hs_d1, hs_r1, hs_rv, hs_rv0, hs_n1, hs_n0, hs_v1i, hs_v1r, hs_a1, hs_d2l, hs_d2i, hs_ri, hs_rl, hs_rg, hs_rd8, hs_rr, hs_rn, hs_ov, hs_gf, hs_po, hs_pfi, hs_pfr, hs_ia, hs_la, hs_da, hs_qa, hs_al, hs_is, hs_ls, hs_ds, hs_iso, hs_lso, hs_dso, hs_rd, hs_f1, hs_f10, hs_f2, hs_f20, hs_in0, hs_in1, hs_lt, hs_le, hs_ge, hs_gt, hs_eq, hs_10, hs_00, hs_01, true_and, and_true, true_imp_iff, false_imp_iff, not_true_eq_false, not_false_eq_true, hs_av, hs_ai, hs_ar, hs_an, hs_aj, hs_ci, hs_cr, hs_cn, hs_cj, hs_cd, hs_cf, hs_q0, hs_q1, reduceIte, Nat.reduceEqDiff, Nat.reduceAdd, Nat.reduceLT, eq_self, List.getElem?_cons_zero, List.getElem?_cons_succ, List.set_cons_zero, List.set_cons_succ, List.length_cons, List.length_nil, Option.toList_some, Option.toList_none, List.cons_append, List.nil_append, Nat.zero_add, Nat.add_zero, List.map_nil, List.sum_nil, List.map_cons, List.sum_cons, Nat.zero_le, hs_set1]
      refine hl_iand9 B (hl_dec okWb 10 rfl) ?_
      obtain ⟨z, hz, ez⟩ := lb_and (xs i)
      rw [ez]
      refine lb_sw B hst hX hb hA hL hi w hR (by omega) (by omega) (by omega) (fun ca' σ' μ' f' fd' h' ce' sl' w' hR' hc hs => ?_) z hz
      have e6 : nI i + 6 = nI (i + 6) := nI_add i 6
      refine hl_seg B okWc (fun q => nomatch q) 0 1000 rfl ?_
      simp only [pWc, List.drop_zero, List.drop_succ_cons, hl_wp, hs_ii, hs_i1, hs_ll, hs_l1, hs_ff, hs_g1, hs_dd, hs_d1, hs_r1, hs_rv, hs_rv0, hs_n1, hs_n0, hs_v1i, hs_v1r, hs_a1, hs_d2l, hs_d2i, hs_ri, hs_rl, hs_rg, hs_rd8, hs_rr, hs_rn, hs_ov, hs_gf, hs_po, hs_pfi, hs_pfr, hs_ia, hs_la, hs_da, hs_qa, hs_al, hs_is, hs_ls, hs_ds, hs_iso, hs_lso, hs_dso, hs_rd, hs_f1, hs_f10, hs_f2, hs_f20, hs_in0, hs_in1, hs_lt, hs_le, hs_ge, hs_gt, hs_eq, hs_10, hs_00, hs_01, true_and, and_true, true_imp_iff, false_imp_iff, not_true_eq_false, not_false_eq_true, hs_av, hs_ai, hs_ar, hs_an, hs_aj, hs_ci, hs_cr, hs_cn, hs_cj, hs_cd, hs_cf, hs_q0, hs_q1, reduceIte, Nat.reduceEqDiff, Nat.reduceAdd, Nat.reduceLT, eq_self, List.getElem?_cons_zero, List.getElem?_cons_succ, List.set_cons_zero, List.set_cons_succ, List.length_cons, List.length_nil, Option.toList_some, Option.toList_none, List.cons_append, List.nil_append, Nat.zero_add, Nat.add_zero, List.map_nil, List.sum_nil, List.map_cons, List.sum_cons, Nat.zero_le, hs_set1, e6]
      refine hl_drop B [(0, .ref b), (1, .ref (a 0)), (2, .ref (bb 0)), (3, .ref ro), (4, .ref rd), (5, .int (nI (i + 6)))] (by simp) ?_
      exact ih (t + 1) (i + 6) a ca' bb ro rd σ' μ' f' fd' h' ce' sl' (by omega) (by omega) (by omega) w' hR' (by omega) (by omega)
    · exact hout t i a ca bb ro rd h ce sl (by omega) h3 (by omega) (by omega)
theorem lb_rt : ∀ j, j ≤ 4 → ls_rt j = fun i => (lm_rt j i).toInt64
  | 0, _ => rfl
  | j + 1, h => by
    show row_put 4 (ls_rt j) (nI j) 1000 = fun i => (upd (lm_rt j) j 1000 i).toInt64
    rw [lb_rt j (by omega)]
    exact rl_un (f := lm_rt j) (N := 4) (v := 1000) (by omega) (by decide)
theorem lb_r4 : ∀ i, i < 4 → lm_rt 4 i = 1000
  | 0, _ => by decide
  | 1, _ => by decide
  | 2, _ => by decide
  | 3, _ => by decide
  | i + 4, h => by omega
theorem lb_v4 : vp_in (0 : Int32) 4 := by unfold vp_in; decide
theorem lb_v10 : vp_in (0 : Int32) 10 := by unfold vp_in; decide
theorem lb_a : (0 : Int32) ≤ 0 ∧ (0 : Int32) ≤ 10000000 := by decide
theorem lb_b : (0 : Int32) ≤ 0 ∧ (0 : Int32) ≤ 1000000 := by decide
theorem lb_c : (0 : Int32) = -1 ∨ (0 : Int32) ≤ 0 := by decide
theorem lb_d : ¬ ((0 : Int32) < 0 ∧ (0 : Int32) < 0) := by decide
theorem na_1_1 : hl_na 1 1 = (1, .inr (.inl (fun _ => 0))) := by
  unfold hl_na
  rw [show (1 : Int32).toNatClampNeg = 1 from by decide]
  rfl
theorem na_2_1 : hl_na 2 1 = (1, .inr (.inr (.inr (.inl (fun _ => 0))))) := by
  unfold hl_na
  rw [show (1 : Int32).toNatClampNeg = 1 from by decide]
  rfl
theorem lb_R0 : rl_R 0 ls_0 lm_0 := by
  refine ⟨0, fun _ _ => 0, ?_, Nat.zero_le _, Nat.le_refl _, ?_, ?_, ?_⟩
  · refine Prod.ext ?_ (Prod.ext ?_ rfl)
    · funext q
      rcases q with _ | _ | _ | _ | _ | _ | _ | _ | _ | _ | _ | _ | _ | _ | _ | _ | _ | _ | _ | _ | _ | q
      case succ.succ.succ.succ.succ.zero => exact lb_rt 4 (by decide)
      all_goals rfl
    · funext q
      rcases q with _ | _ | _ | _ | _ | _ | q <;> rfl
  · refine ⟨by decide, by decide, by decide, by decide, by decide, fun i => lb_v4, fun i hi h => ?_, fun i _ => lb_v10, fun i _ => lb_v10, fun i => lb_d, fun i => lb_v10, fun i => lb_v10, fun i => lb_v10, fun i => lb_v10⟩
    have h2 : (lm_rt 4 i).toInt64 = 0 := h
    rw [lb_r4 i hi] at h2
    exact absurd h2 (by decide)
  · refine ⟨fun i hi => ?_, fun i => lb_a, fun i => lb_a, fun i => lb_c, fun i => lb_c, fun i hi => absurd hi (Nat.not_lt_zero i), fun i => lb_c, fun i => lb_b, fun i hi => absurd hi (Nat.not_lt_zero i), fun i => lb_b, fun i hi => absurd hi (Nat.not_lt_zero i)⟩
    show 100 ≤ lm_rt 4 i ∧ lm_rt 4 i ≤ 1000
    rw [lb_r4 i hi]
    exact ⟨by decide, by decide⟩
  · exact ⟨fun i hi => absurd hi (Nat.not_lt_zero i), fun i k hi => absurd hi (Nat.not_lt_zero i), fun k _ _ h => absurd rfl h, fun i j hi => absurd hi (Nat.not_lt_zero i)⟩
set_option maxRecDepth 20000 in
set_option maxHeartbeats 2000000 in
theorem lb_body {G : hl_G} {l : Launch} {p : Program} {e : Env} {s : State} {m : MethodId} {args : Array Value} {below : List Frame} {meth : Method} {c : Code} (B : hl_B G mL_law 14 603072 7207018 p s m args meth c) (hst : l.stackTraces = false) {b L : Nat} {xs : Nat → Int32} (hX : va_X b L xs s s.heap) (hb : b < s.heap.size) (hA : ¬ hl_A G b) (hL : L ≤ 3072) {h : hl_H} (hh : h = fun _ => none) : hl_GM G mL_law 14 603072 7207018 lk_Q (fun _ _ => False) p l e s m args below meth c 0 [(0, .ref b)] [] h 0 0 := by
  refine hl_seg B okWa (fun q => nomatch q) 0 2 rfl ?_
  simp only [pWa, List.drop_zero, List.drop_succ_cons, hl_wp, hs_ii, hs_i1, hs_ll, hs_l1, hs_ff, hs_g1, hs_dd, hs_d1, hs_r1, hs_rv, hs_rv0, hs_n1, hs_n0, hs_v1i, hs_v1r, hs_a1, hs_d2l, hs_d2i, hs_ri, hs_rl, hs_rg, hs_rd8, hs_rr, hs_rn, hs_ov, hs_gf, hs_po, hs_pfi, hs_pfr, hs_ia, hs_la, hs_da, hs_qa, hs_al, hs_is, hs_ls, hs_ds, hs_iso, hs_lso, hs_dso, hs_rd, hs_f1, hs_f10, hs_f2, hs_f20, hs_in0, hs_in1, hs_lt, hs_le, hs_ge, hs_gt, hs_eq, hs_10, hs_00, hs_01, true_and, and_true, true_imp_iff, false_imp_iff, not_true_eq_false, not_false_eq_true, hs_av, hs_ai, hs_ar, hs_an, hs_aj, hs_ci, hs_cr, hs_cn, hs_cj, hs_cd, hs_cf, hs_q0, hs_q1, reduceIte, Nat.reduceEqDiff, Nat.reduceAdd, Nat.reduceLT, eq_self, List.getElem?_cons_zero, List.getElem?_cons_succ, List.set_cons_zero, List.set_cons_succ, List.length_cons, List.length_nil, Option.toList_some, Option.toList_none, List.cons_append, List.nil_append, Nat.zero_add, Nat.add_zero, List.map_nil, List.sum_nil, List.map_cons, List.sum_cons, Nat.zero_le, hs_set1]
  refine ⟨by decide, by decide, fun q hq => ?_⟩
  refine hl_callI B (As := []) (ct_X7_init hq) mtX7_init rfl (hl_dec okWa 2 rfl) (kk := 72) (by decide +kernel) rfl rfl (Nat.le_of_ble_eq_true rfl) (by decide) (by decide) (by decide) (by decide) rfl (fun r9 g1 hQ => ?_)
  obtain ⟨rfl, a, rfl, w1⟩ := hQ
  refine hl_seg B okWa (fun q => nomatch q) 3 3 rfl ?_
  simp only [pWa, List.drop_zero, List.drop_succ_cons, hl_wp, hs_ii, hs_i1, hs_ll, hs_l1, hs_ff, hs_g1, hs_dd, hs_d1, hs_r1, hs_rv, hs_rv0, hs_n1, hs_n0, hs_v1i, hs_v1r, hs_a1, hs_d2l, hs_d2i, hs_ri, hs_rl, hs_rg, hs_rd8, hs_rr, hs_rn, hs_ov, hs_gf, hs_po, hs_pfi, hs_pfr, hs_ia, hs_la, hs_da, hs_qa, hs_al, hs_is, hs_ls, hs_ds, hs_iso, hs_lso, hs_dso, hs_rd, hs_f1, hs_f10, hs_f2, hs_f20, hs_in0, hs_in1, hs_lt, hs_le, hs_ge, hs_gt, hs_eq, hs_10, hs_00, hs_01, true_and, and_true, true_imp_iff, false_imp_iff, not_true_eq_false, not_false_eq_true, hs_av, hs_ai, hs_ar, hs_an, hs_aj, hs_ci, hs_cr, hs_cn, hs_cj, hs_cd, hs_cf, hs_q0, hs_q1, reduceIte, Nat.reduceEqDiff, Nat.reduceAdd, Nat.reduceLT, eq_self, List.getElem?_cons_zero, List.getElem?_cons_succ, List.set_cons_zero, List.set_cons_succ, List.length_cons, List.length_nil, Option.toList_some, Option.toList_none, List.cons_append, List.nil_append, Nat.zero_add, Nat.add_zero, List.map_nil, List.sum_nil, List.map_cons, List.sum_cons, Nat.zero_le, hs_set1]
  refine ⟨by decide, by decide, fun q hq2 => ?_⟩
  refine hl_callI B (As := []) (cr_init hq2) mtX8_init rfl (hl_dec okWa 6 rfl) (kk := 961) (by decide +kernel) rfl rfl (Nat.le_of_ble_eq_true rfl) (by decide) (by decide) (by decide) (by decide) rfl (fun r9 g2 hQ => ?_)
  obtain ⟨rfl, bb, rfl, w2⟩ := hQ
  refine hl_seg B okWa (fun q => nomatch q) 7 3 rfl ?_
  simp only [pWa, List.drop_zero, List.drop_succ_cons, hl_wp, hs_ii, hs_i1, hs_ll, hs_l1, hs_ff, hs_g1, hs_dd, hs_d1, hs_r1, hs_rv, hs_rv0, hs_n1, hs_n0, hs_v1i, hs_v1r, hs_a1, hs_d2l, hs_d2i, hs_ri, hs_rl, hs_rg, hs_rd8, hs_rr, hs_rn, hs_ov, hs_gf, hs_po, hs_pfi, hs_pfr, hs_ia, hs_la, hs_da, hs_qa, hs_al, hs_is, hs_ls, hs_ds, hs_iso, hs_lso, hs_dso, hs_rd, hs_f1, hs_f10, hs_f2, hs_f20, hs_in0, hs_in1, hs_lt, hs_le, hs_ge, hs_gt, hs_eq, hs_10, hs_00, hs_01, true_and, and_true, true_imp_iff, false_imp_iff, not_true_eq_false, not_false_eq_true, hs_av, hs_ai, hs_ar, hs_an, hs_aj, hs_ci, hs_cr, hs_cn, hs_cj, hs_cd, hs_cf, hs_q0, hs_q1, reduceIte, Nat.reduceEqDiff, Nat.reduceAdd, Nat.reduceLT, eq_self, List.getElem?_cons_zero, List.getElem?_cons_succ, List.set_cons_zero, List.set_cons_succ, List.length_cons, List.length_nil, Option.toList_some, Option.toList_none, List.cons_append, List.nil_append, Nat.zero_add, Nat.add_zero, List.map_nil, List.sum_nil, List.map_cons, List.sum_cons, Nat.zero_le, hs_set1]
  refine ⟨by decide, by decide, fun ro hro => ?_⟩
  rw [na_1_1]
  refine hl_seg B okWa (fun q => nomatch q) 10 3 rfl ?_
  simp only [pWa, List.drop_zero, List.drop_succ_cons, hl_wp, hs_ii, hs_i1, hs_ll, hs_l1, hs_ff, hs_g1, hs_dd, hs_d1, hs_r1, hs_rv, hs_rv0, hs_n1, hs_n0, hs_v1i, hs_v1r, hs_a1, hs_d2l, hs_d2i, hs_ri, hs_rl, hs_rg, hs_rd8, hs_rr, hs_rn, hs_ov, hs_gf, hs_po, hs_pfi, hs_pfr, hs_ia, hs_la, hs_da, hs_qa, hs_al, hs_is, hs_ls, hs_ds, hs_iso, hs_lso, hs_dso, hs_rd, hs_f1, hs_f10, hs_f2, hs_f20, hs_in0, hs_in1, hs_lt, hs_le, hs_ge, hs_gt, hs_eq, hs_10, hs_00, hs_01, true_and, and_true, true_imp_iff, false_imp_iff, not_true_eq_false, not_false_eq_true, hs_av, hs_ai, hs_ar, hs_an, hs_aj, hs_ci, hs_cr, hs_cn, hs_cj, hs_cd, hs_cf, hs_q0, hs_q1, reduceIte, Nat.reduceEqDiff, Nat.reduceAdd, Nat.reduceLT, eq_self, List.getElem?_cons_zero, List.getElem?_cons_succ, List.set_cons_zero, List.set_cons_succ, List.length_cons, List.length_nil, Option.toList_some, Option.toList_none, List.cons_append, List.nil_append, Nat.zero_add, Nat.add_zero, List.map_nil, List.sum_nil, List.map_cons, List.sum_cons, Nat.zero_le, hs_set1]
  refine ⟨by decide, by decide, fun rd hrd => ?_⟩
  rw [na_2_1]
  refine hl_seg B okWa (fun q => nomatch q) 13 3 rfl ?_
  simp only [pWa, List.drop_zero, List.drop_succ_cons, hl_wp, hs_ii, hs_i1, hs_ll, hs_l1, hs_ff, hs_g1, hs_dd, hs_d1, hs_r1, hs_rv, hs_rv0, hs_n1, hs_n0, hs_v1i, hs_v1r, hs_a1, hs_d2l, hs_d2i, hs_ri, hs_rl, hs_rg, hs_rd8, hs_rr, hs_rn, hs_ov, hs_gf, hs_po, hs_pfi, hs_pfr, hs_ia, hs_la, hs_da, hs_qa, hs_al, hs_is, hs_ls, hs_ds, hs_iso, hs_lso, hs_dso, hs_rd, hs_f1, hs_f10, hs_f2, hs_f20, hs_in0, hs_in1, hs_lt, hs_le, hs_ge, hs_gt, hs_eq, hs_10, hs_00, hs_01, true_and, and_true, true_imp_iff, false_imp_iff, not_true_eq_false, not_false_eq_true, hs_av, hs_ai, hs_ar, hs_an, hs_aj, hs_ci, hs_cr, hs_cn, hs_cj, hs_cd, hs_cf, hs_q0, hs_q1, reduceIte, Nat.reduceEqDiff, Nat.reduceAdd, Nat.reduceLT, eq_self, List.getElem?_cons_zero, List.getElem?_cons_succ, List.set_cons_zero, List.set_cons_succ, List.length_cons, List.length_nil, Option.toList_some, Option.toList_none, List.cons_append, List.nil_append, Nat.zero_add, Nat.add_zero, List.map_nil, List.sum_nil, List.map_cons, List.sum_cons, Nat.zero_le, hs_set1]
  subst hh
  refine hl_drop B [(0, .ref b), (1, .ref (a 0)), (2, .ref (bb 0)), (3, .ref ro), (4, .ref rd), (5, .int (nI 0))] (by simp [nI_0]) ?_
  exact lb_loop B hst hX hb hA hL 512 0 0 a _ bb ro rd _ _ _ _ _ _ _ (by omega) rfl (by decide) (ww_0 w1 w2 hro hrd) lb_R0 (by decide) (by decide)
