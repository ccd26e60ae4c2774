/-! PART 28: each operation of the class against the reference's -/
def rl_E (t : Nat) (NM : List String) (R : LRes) (S : MRes) : Prop := lw_cd NM R.1 = S.1.2.2.2 ∧ (R.1 = none → R.2.2 = S.2) ∧ rl_R t R.2.1 S.1
theorem rl_R.sT {t : Nat} {σ : LSt} {μ : LMt} (h : rl_R t σ μ) (v : Int32) : rl_R t σ (lm_T μ v) := by
  obtain ⟨n, C, e, hn, ht, hM, hI, hM2⟩ := h
  exact ⟨n, C, e, hn, ht, hM, hI, hM2⟩
theorem rl_R.sj {t : Nat} {σ : LSt} {μ : LMt} (h : rl_R t σ μ) (f : Nat → Int64) : rl_R t σ (lm_J μ 6 f) := by
  obtain ⟨n, C, e, hn, ht, hM, hI, hM2⟩ := h
  exact ⟨n, C, by rw [rl_j6]; exact e, hn, ht, hM, hI, hM2⟩
theorem rl_R.up {t t' : Nat} {σ : LSt} {μ : LMt} (h : rl_R t σ μ) (ht' : t ≤ t') : rl_R t' σ μ := by
  obtain ⟨n, C, e, hn, ht, hM, hI, hM2⟩ := h
  exact ⟨n, C, e, hn, Nat.le_trans ht ht', hM, hI, hM2⟩
theorem rl_R.inv {t : Nat} {σ : LSt} {μ : LMt} (h : rl_R t σ μ) : LInv0 σ := by
  obtain ⟨n, C, e, hn, ht, hM, hI, hM2⟩ := h
  subst e
  obtain ⟨b0, b1, b2, b3, b4, -⟩ := hM
  refine ⟨b0, b1, b2, b3, hn, b4, ?_⟩
  intro j hj
  rcases j with _ | _ | _ | _ | _ | _ | j
  · omega
  · omega
  · omega
  · omega
  · omega
  · omega
  · rfl
theorem rl_no {t : Nat} {NM : List String} {E : String} {σ : LSt} {μ : LMt} {v w : Value} {k : Int32} (hR : rl_R t σ μ) (h : lw_cd NM (some E) = k) : rl_E t NM (some E, σ, v) (lm_T μ k, w) := ⟨h, fun z => (nomatch z), hR.sT k⟩
theorem rl_yes {t : Nat} {NM : List String} {σ : LSt} {μ : LMt} {v w : Value} (hR : rl_R t σ μ) (hT : μ.2.2.2 = 0) (hv : v = w) : rl_E t NM (none, σ, v) (μ, w) := ⟨hT.symm, fun _ => hv, hR⟩
section RO
variable {t n : Nat} {μ : LMt} {C : Nat → Nat → Int32}
theorem rl_s0 : (rl_ab μ n C).2.1 0 = μ.2.2.1 0 := rfl
theorem rl_s1 : (rl_ab μ n C).2.1 1 = μ.2.2.1 1 := rfl
theorem rl_s2 : (rl_ab μ n C).2.1 2 = μ.2.2.1 2 := rfl
theorem rl_s3 : (rl_ab μ n C).2.1 3 = μ.2.2.1 3 := rfl
theorem rl_s5 : (rl_ab μ n C).2.1 5 = μ.2.2.1 4 := rfl
theorem rl_act {x : Int32} (h : μ.2.2.1 2 ≤ 30) : er_act (rl_ab μ n C) x = if md_hol μ x = true then (if μ.1 14 x.toNatClampNeg = 97 then none else some xNSE) else some xIOB := by
  unfold er_act
  rw [rl_hol h]
  by_cases c : md_hol μ x = true
  · rw [if_pos c, if_pos c]
    show (if row_at (ls_len 17) ((rl_ab μ n C).1 17) x = 97 then none else some xNSE) = _
    rw [rl_at (N := ls_len 17) (md_vp c h (by decide)) (by decide), show (rl_ab μ n C).1 17 x.toNatClampNeg = (μ.1 14 x.toNatClampNeg).toInt64 from rfl, show (97 : Int64) = (97 : Int32).toInt64 from rfl]
    simp only [rl_eq64]
  · rw [if_neg c, if_neg c]
    rfl
theorem rl_iv {k N : Nat} {f : Nat → Int32} {x : Int32} (hx : vp_in x N) (hk : ls_len k = N) (e : (rl_ab μ n C).1 k = fun i => (f i).toInt64) (hN : N < 2 ^ 31) : row_intAt (ls_len k) ((rl_ab μ n C).1 k) x = f x.toNatClampNeg := by
  rw [e, hk, rl_ia hx hN]
  exact Int32.toInt32_toInt64 _
theorem rl_av2 {k N : Nat} {f : Nat → Int32} {x : Int32} (hx : vp_in x N) (hk : ls_len k = N) (e : (rl_ab μ n C).1 k = fun i => (f i).toInt64) (hN : N < 2 ^ 31) : row_at (ls_len k) ((rl_ab μ n C).1 k) x = (f x.toNatClampNeg).toInt64 := by
  rw [e, hk, rl_at hx hN]
theorem rl_rpl {x y : Int32} (h : μ.2.2.1 1 ≤ 150) (h6 : ∀ i, i < μ.2.2.1 1 → ¬ μ.1 8 i = μ.1 9 i) : ls_replay (rl_ab μ n C) x y = md_rpl μ x y (μ.2.2.1 1) := by
  unfold ls_replay
  rw [rl_s1]
  have aux : ∀ m, m ≤ μ.2.2.1 1 → ls_sum (fun i => if y.toInt64 < row_at (ls_len 11) ((rl_ab μ n C).1 11) (nI i) then 0 else ls_eff (rl_ab μ n C) x (nI i)) m = md_rpl μ x y m := by
    intro m
    induction m with
    | zero => intro _; rfl
    | succ m ih =>
      intro hm
      have hi : m < 150 := by omega
      show ls_sum _ m + (if y.toInt64 < row_at (ls_len 11) ((rl_ab μ n C).1 11) (nI m) then 0 else ls_eff (rl_ab μ n C) x (nI m)) = (if μ.1 12 m ≤ y then (md_rpl μ x y m - (if μ.1 8 m = x then (μ.1 10 m).toInt64 else 0)) + (if μ.1 9 m = x then (μ.1 11 m).toInt64 else 0) else md_rpl μ x y m)
      rw [ih (by omega)]
      unfold ls_eff
      rw [rl_at_n (N := ls_len 11) hi (by decide), rl_at_n (N := ls_len 7) hi (by decide), rl_at_n (N := ls_len 8) hi (by decide), rl_at_n (N := ls_len 9) hi (by decide), rl_at_n (N := ls_len 10) hi (by decide)]
      rw [show (rl_ab μ n C).1 11 m = (μ.1 12 m).toInt64 from rfl, show (rl_ab μ n C).1 7 m = (μ.1 8 m).toInt64 from rfl, show (rl_ab μ n C).1 8 m = (μ.1 9 m).toInt64 from rfl, show (rl_ab μ n C).1 9 m = (μ.1 10 m).toInt64 from rfl, show (rl_ab μ n C).1 10 m = (μ.1 11 m).toInt64 from rfl]
      simp only [rl_eq64, rl_lt64]
      by_cases c : y < μ.1 12 m
      · rw [if_pos c, if_neg (Int32.not_le.mpr c), Int64.add_zero]
      · rw [if_neg c, if_pos (Int32.not_lt.mp c)]
        by_cases c8 : μ.1 8 m = x
        · have c9 : ¬ μ.1 9 m = x := fun z => h6 m (by omega) (c8.trans z.symm)
          rw [if_pos c8, if_pos c8, if_neg c9, Int64.add_zero, Int64.sub_eq_add_neg]
        · rw [if_neg c8, if_neg c8, Int64.sub_zero]
  exact aux _ (Nat.le_refl _)
theorem rl_bsum (h : μ.2.2.1 0 ≤ 10) {c : Nat} (hc : c < 4) : ls_sumOf (rl_ab μ n C) (nI c) = md_bsum μ c (μ.2.2.1 0) := by
  unfold ls_sumOf
  rw [rl_at_n (N := ls_len 3) hc (by decide), rl_at_n (N := ls_len 4) hc (by decide), rl_s0]
  have aux : ∀ m, m ≤ μ.2.2.1 0 → (rl_ab μ n C).1 3 c + (rl_ab μ n C).1 4 c + ls_sum (fun i => if row_at (ls_len 0) ((rl_ab μ n C).1 0) (nI i) = (nI c).toInt64 then row_at (ls_len 2) ((rl_ab μ n C).1 2) (nI i) else 0) m = md_bsum μ c m := by
    intro m
    induction m with
    | zero => intro _; exact Int64.add_zero _
    | succ m ih =>
      intro hm
      have hi : m < 10 := by omega
      show _ + (ls_sum _ m + (if row_at (ls_len 0) ((rl_ab μ n C).1 0) (nI m) = (nI c).toInt64 then row_at (ls_len 2) ((rl_ab μ n C).1 2) (nI m) else 0)) = md_bsum μ c m + (if μ.1 0 m = nI c then μ.2.1 3 m else 0)
      rw [← Int64.add_assoc, ih (by omega), rl_at_n (N := ls_len 0) hi (by decide), rl_at_n (N := ls_len 2) hi (by decide), show (rl_ab μ n C).1 0 m = (μ.1 0 m).toInt64 from rfl, show (rl_ab μ n C).1 2 m = μ.2.1 3 m from rfl]
      simp only [rl_eq64]
  exact aux _ (Nat.le_refl _)
theorem rl_bal (h : μ.2.2.1 0 ≤ 10) : ∀ (k i : Nat), i + k ≤ 4 → ls_bal (rl_ab μ n C) k i = md_bal μ k i
  | 0, _, _ => rfl
  | k + 1, i, hi => by
    simp only [ls_bal, md_bal]
    rw [rl_bsum h (by omega), rl_bal h k (i + 1) (by omega)]
theorem rl_nrev (h : μ.2.2.1 1 ≤ 150) (h7 : ∀ i, μ.1 13 i = -1 ∨ 0 ≤ μ.1 13 i) : ls_nrev (rl_ab μ n C) = md_rc μ (μ.2.2.1 1) := by
  unfold ls_nrev md_rc
  rw [rl_s1]
  refine ls_cnt_eq (fun i hi => ?_)
  rw [rl_at_n (N := ls_len 12) (show i < 150 by omega) (by decide), show (rl_ab μ n C).1 12 i = (μ.1 13 i).toInt64 from rfl, show (-1 : Int64) = (-1 : Int32).toInt64 from rfl]
  refine decide_eq_decide.mpr ?_
  rw [rl_eq64]
  constructor
  · intro z
    exact Int32.not_lt.mpr ((h7 i).resolve_left z)
  · intro z e
    rw [e] at z
    exact z (by decide)
theorem rl_paid (h : μ.2.2.1 1 ≤ 150) : ls_paid (rl_ab μ n C) = md_ps μ (μ.2.2.1 1) := by
  unfold ls_paid md_ps
  rw [rl_s1]
  refine ls_sum_eq (fun i hi => ?_)
  rw [rl_at_n (N := ls_len 9) (show i < 150 by omega) (by decide)]
  rfl
theorem rl_mk_t {μ τ : LMt} {x y p r : Int32} : (md_mk1 μ x y p).2.2.2 = μ.2.2.2 ∧ (md_mk2 μ τ x y r).2.2.2 = τ.2.2.2 ∧ (md_mk3 μ τ x y p r).2.2.2 = τ.2.2.2 := by
  refine ⟨?_, ?_, ?_⟩
  · unfold md_mk1; split <;> rfl
  · unfold md_mk2; split <;> rfl
  · unfold md_mk3; split <;> rfl
theorem rl_makes_t {μ : LMt} {kd x y p r : Int32} : (md_makes μ kd x y p r).2.2.2 = μ.2.2.2 := by
  show (md_mk3 μ (md_mk2 μ (md_mk1 μ x y p) x y r) x y p r).2.2.2 = _
  exact ((rl_mk_t (μ := μ) (τ := md_mk2 μ (md_mk1 μ x y p) x y r) (x := x) (y := y) (p := p) (r := r)).2.2).trans (((rl_mk_t (μ := μ) (τ := md_mk1 μ x y p) (x := x) (y := y) (p := p) (r := r)).2.1).trans (rl_mk_t (μ := μ) (τ := μ) (x := x) (y := y) (p := p) (r := r)).1)
theorem rl_kp {μ1 : LMt} (hJ : rl_J μ1) (hM : rl_M μ1 n C) {k m a b c d v : Int32} (hm : rl_cd m ≠ 0) (hb : ¬ md_bad μ1 k = true) (hn : n + 1 ≤ μ1.2.2.1 1 + μ1.2.2.1 2) (ht : μ1.2.2.1 4 ≤ t) : rl_R t (ls_keep (rl_ab μ1 n C) (cl_f m k a b c d) (nI (μ1.2.2.1 4)) v) (md_rmb μ1 v k (rl_cd m) a b c d) := by
  refine ⟨n + 1, va_up C n (fun j => if j = 6 then nI (μ1.2.2.1 4) else if j = 7 then v else cl_f m k a b c d j), ?_, hn, ht, hJ.1, hJ.2, hM.keep hm hb (by have := hJ.1.2.2.2.2.1; omega)⟩
  have e : ∀ (N : Nat) (C9 : Nat → Nat → Int32), rl_ab (md_rmb μ1 v k (rl_cd m) a b c d) N C9 = rl_ab μ1 N C9 := by
    intro N C9
    unfold md_rmb
    rw [rl_i25, rl_i24, rl_i23, rl_i23, rl_i23, rl_i23, rl_i22]
  rw [e]
  refine Prod.ext rfl (Prod.ext ?_ rfl)
  funext q
  rcases q with _ | _ | _ | _ | _ | _ | q <;> rfl
/-- a call with a key -/
theorem rl_kd (hR : rl_R t (rl_ab μ n C) μ) (hM : rl_M μ n C) {NM : List String} {k m a b c d v : Int32} {er : Option String} {σ' : LSt} {S : MRes} (hm : rl_cd m ≠ 0) (h1 : lw_cd NM (some xIAE) = 1) (h : ¬ md_bad μ k = true → rl_E t NM (ls_res er (rl_ab μ n C) (ls_keep σ' (cl_f m k a b c d) (nI (μ.2.2.1 4)) v) (.int v)) S) : rl_E t NM (ls_kd (rl_ab μ n C) k (cl_f m k a b c d) (ls_or (er_key (rl_ab μ n C) k) er) σ' v) (if md_rep μ k (rl_cd m) a b c d = true then (lm_T μ 0, .int (μ.1 24 k.toNatClampNeg)) else if md_bad μ k = true then (lm_T μ 1, .int 0) else S) := by
  unfold ls_kd
  rw [rl_s5, rl_like hM hm]
  by_cases c1 : md_rep μ k (rl_cd m) a b c d = true
  · rw [if_pos c1, if_pos c1]
    obtain ⟨z1, z2⟩ := rl_rep_m c1
    exact rl_yes (hR.sT 0) rfl (by rw [rl_ans hM z1 (by rw [z2]; exact hm)])
  · rw [if_neg c1, if_neg c1, rl_key hM]
    by_cases c2 : md_bad μ k = true
    · rw [if_pos c2, if_pos c2]
      exact rl_no hR h1
    · rw [if_neg c2, if_neg c2]
      exact h c2
end RO
