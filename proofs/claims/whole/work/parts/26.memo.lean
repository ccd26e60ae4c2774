/-! PART 26: the memory of the two -/
theorem rl_dc {m : Int32} (h : rl_cd m ≠ 0) : (if rl_cd m = 1 then (100 : Int32) else if rl_cd m = 2 then 119 else if rl_cd m = 3 then 116 else if rl_cd m = 4 then 104 else if rl_cd m = 5 then 99 else if rl_cd m = 6 then 114 else 98) = m := by
  by_cases e1 : m = 100
  · subst e1; decide
  by_cases e2 : m = 119
  · subst e2; decide
  by_cases e3 : m = 116
  · subst e3; decide
  by_cases e4 : m = 104
  · subst e4; decide
  by_cases e5 : m = 99
  · subst e5; decide
  by_cases e6 : m = 114
  · subst e6; decide
  by_cases e7 : m = 98
  · subst e7; decide
  refine absurd ?_ h
  unfold rl_cd
  rw [if_neg e1, if_neg e2, if_neg e3, if_neg e4, if_neg e5, if_neg e6, if_neg e7]
theorem rl_cd_inj {m m' : Int32} (h : rl_cd m ≠ 0) (e : rl_cd m = rl_cd m') : m = m' := by
  have h' : rl_cd m' ≠ 0 := by rw [← e]; exact h
  rw [← rl_dc h, ← rl_dc h', e]
theorem rl_cd_pos {m : Int32} : 0 ≤ rl_cd m := by
  unfold rl_cd
  repeat' split
  all_goals decide
theorem ls_srch_no {c : Nat → Bool} : ∀ {k i : Nat}, ls_srch c k i = none → ∀ j, i ≤ j → j < i + k → c j = false
  | 0, i, _, j, h1, h2 => by omega
  | k + 1, i, h, j, h1, h2 => by
    simp only [ls_srch] at h
    by_cases hc : c i = true
    · rw [if_pos hc] at h; cases h
    · rw [if_neg hc] at h
      by_cases e : j = i
      · rw [e]; exact Bool.eq_false_iff.mpr hc
      · exact ls_srch_no h j (by omega) (by omega)
section RM
variable {μ : LMt} {n : Nat} {C : Nat → Nat → Int32}
theorem rl_lv_of {key : Int32} {D i : Nat} (h : ls_lv (rl_ab μ n C) key (nI D) i = true) : C i 1 = key ∧ rl_lv D C i := by
  unfold ls_lv at h
  rw [Bool.and_eq_true] at h
  exact ⟨of_decide_eq_true h.1, of_decide_eq_true h.2⟩
theorem rl_lv_to {key : Int32} {D i : Nat} (h1 : C i 1 = key) (h2 : rl_lv D C i) : ls_lv (rl_ab μ n C) key (nI D) i = true := by
  unfold ls_lv
  rw [Bool.and_eq_true]
  exact ⟨decide_eq_true h1, decide_eq_true h2⟩
theorem rl_f0 (hM : rl_M μ n C) {k : Int32} (hk : ¬ md_in k 1 999 = true) : ls_find (rl_ab μ n C) k (nI (μ.2.2.1 4)) = none := by
  cases hf : ls_find (rl_ab μ n C) k (nI (μ.2.2.1 4)) with
  | none => rfl
  | some i =>
    obtain ⟨z1, z2, z3⟩ := ls_srch_lt hf
    obtain ⟨w1, w2⟩ := rl_lv_of z3
    obtain ⟨⟨j, h1, h2, h3⟩, -⟩ := hM.1 i (by have z9 : i < 0 + n := z2; omega)
    refine absurd ?_ hk
    rw [← w1, h3]
    show (if nI j < nI 1 then false else if nI 999 < nI j then false else true) = true
    rw [if_neg (nI_nlt (a := j) (b := 1) h1 (by omega)), if_neg (nI_nlt (a := 999) (b := j) h2 (by decide))]
theorem rl_f1 (hM : rl_M μ n C) {j : Nat} (h1 : 1 ≤ j) (h2 : j ≤ 999) : (ls_find (rl_ab μ n C) (nI j) (nI (μ.2.2.1 4)) = none ∧ μ.1 22 j = 0 ∧ ∀ i, i < n → rl_lv (μ.2.2.1 4) C i → ¬ C i 1 = nI j) ∨ ∃ i, ls_find (rl_ab μ n C) (nI j) (nI (μ.2.2.1 4)) = some i ∧ i < n ∧ rl_lv (μ.2.2.1 4) C i ∧ C i 1 = nI j ∧ rl_cd (C i 0) ≠ 0 ∧ μ.1 22 j = rl_cd (C i 0) ∧ μ.1 23 (4 * j) = C i 2 ∧ μ.1 23 (4 * j + 1) = C i 3 ∧ μ.1 23 (4 * j + 2) = C i 4 ∧ μ.1 23 (4 * j + 3) = C i 5 ∧ μ.1 24 j = C i 7 := by
  cases hf : ls_find (rl_ab μ n C) (nI j) (nI (μ.2.2.1 4)) with
  | none =>
    have hno : ∀ i, i < n → rl_lv (μ.2.2.1 4) C i → ¬ C i 1 = nI j := by
      intro i hi hl hk
      have := ls_srch_no hf i (Nat.zero_le _) (show i < 0 + n by omega)
      rw [rl_lv_to hk hl] at this
      cases this
    refine Or.inl ⟨rfl, ?_, hno⟩
    by_cases e : μ.1 22 j = 0
    · exact e
    · obtain ⟨i, z1, z2, z3⟩ := hM.2.2.1 j h1 h2 e
      exact absurd z3 (hno i z1 z2)
  | some i =>
    obtain ⟨z1, z2, z3⟩ := ls_srch_lt hf
    obtain ⟨w1, w2⟩ := rl_lv_of z3
    have hi : i < n := by have z9 : i < 0 + n := z2; omega
    obtain ⟨a0, a1, a2, a3, a4, a5, -⟩ := hM.2.1 i j hi w2 h2 w1
    exact Or.inr ⟨i, rfl, hi, w2, w1, (hM.1 i hi).2.1, a0, a1, a2, a3, a4, a5⟩
theorem rl_key (hM : rl_M μ n C) {k : Int32} : er_key (rl_ab μ n C) k = if md_bad μ k = true then some xIAE else none := by
  have e : er_key (rl_ab μ n C) k = if md_in k 1 999 = true then (if (ls_find (rl_ab μ n C) k (nI (μ.2.2.1 4))).isSome = true then some xIAE else none) else some xIAE := by
    show (if k < 1 then some xIAE else if k ≤ 999 then (if (ls_find (rl_ab μ n C) k (nI (μ.2.2.1 4))).isSome = true then some xIAE else none) else some xIAE) = _
    unfold md_in
    by_cases c1 : k < 1
    · rw [if_pos c1, if_pos c1, if_neg (by decide)]
    · rw [if_neg c1, if_neg c1]
      by_cases c2 : 999 < k
      · rw [if_neg (Int32.not_le.mpr c2), if_pos c2, if_neg (by decide)]
      · rw [if_pos (Int32.not_lt.mp c2), if_neg c2, if_pos rfl]
  rw [e]
  unfold md_bad
  by_cases c : md_in k 1 999 = true
  · rw [if_pos c, if_pos c]
    obtain ⟨j, h1, h2, rfl⟩ := md_ky c
    rw [nI_clamp (by omega)]
    rcases rl_f1 hM h1 h2 with ⟨f, z, -⟩ | ⟨i, f, -, -, -, h0, z, -⟩
    · rw [f, z, if_pos rfl, if_neg (by decide), if_neg (by decide)]
    · rw [f, z, if_neg h0]; rfl
  · rw [if_neg c, if_neg c, if_pos rfl]
theorem rl_like (hM : rl_M μ n C) {m k a b c d : Int32} (hm : rl_cd m ≠ 0) : ls_like (rl_ab μ n C) (cl_f m k a b c d) (nI (μ.2.2.1 4)) = md_rep μ k (rl_cd m) a b c d := by
  unfold ls_like md_rep
  show (match ls_find (rl_ab μ n C) k (nI (μ.2.2.1 4)) with | none => false | some i => decide (m = C i 0 ∧ k = C i 1 ∧ a = C i 2 ∧ b = C i 3 ∧ c = C i 4 ∧ d = C i 5)) = _
  by_cases cc : md_in k 1 999 = true
  · rw [if_pos cc]
    obtain ⟨j, h1, h2, rfl⟩ := md_ky cc
    rw [nI_4, nI_p1, nI_p2, nI_p3, nI_clamp (n := j) (by omega), nI_clamp (n := 4 * j) (by omega), nI_clamp (n := 4 * j + 1) (by omega), nI_clamp (n := 4 * j + 2) (by omega), nI_clamp (n := 4 * j + 3) (by omega)]
    rcases rl_f1 hM h1 h2 with ⟨f, z, -⟩ | ⟨i, f, -, -, e1, h0, z0, z1, z2, z3, z4, -⟩
    · rw [f, z, if_neg (fun e => hm e.symm)]
    · rw [f, z0, z1, z2, z3, z4]
      by_cases d0 : rl_cd (C i 0) = rl_cd m
      · rw [if_pos d0]
        have d0' : m = C i 0 := (rl_cd_inj h0 d0).symm
        by_cases d1 : C i 2 = a
        · rw [if_pos d1]
          by_cases d2 : C i 3 = b
          · rw [if_pos d2]
            by_cases d3 : C i 4 = c
            · rw [if_pos d3]
              by_cases d4 : C i 5 = d
              · rw [if_pos d4]
                exact decide_eq_true ⟨d0', e1.symm, d1.symm, d2.symm, d3.symm, d4.symm⟩
              · rw [if_neg d4]
                exact decide_eq_false (fun z => d4 z.2.2.2.2.2.symm)
            · rw [if_neg d3]
              exact decide_eq_false (fun z => d3 z.2.2.2.2.1.symm)
          · rw [if_neg d2]
            exact decide_eq_false (fun z => d2 z.2.2.2.1.symm)
        · rw [if_neg d1]
          exact decide_eq_false (fun z => d1 z.2.2.1.symm)
      · rw [if_neg d0]
        exact decide_eq_false (fun z => d0 (by rw [z.1]))
  · rw [if_neg cc, rl_f0 hM cc]
theorem rl_ans (hM : rl_M μ n C) {k : Int32} (hk : md_in k 1 999 = true) (h0 : ¬ μ.1 22 k.toNatClampNeg = 0) : ls_ans (rl_ab μ n C) k (nI (μ.2.2.1 4)) = μ.1 24 k.toNatClampNeg := by
  obtain ⟨j, h1, h2, rfl⟩ := md_ky hk
  rw [nI_clamp (by omega)] at h0 ⊢
  unfold ls_ans
  rcases rl_f1 hM h1 h2 with ⟨f, z, -⟩ | ⟨i, f, -, -, -, -, z, -, -, -, -, z7⟩
  · exact absurd z h0
  · rw [f, z7]
    rfl
theorem rl_rep_m {k m a b c d : Int32} (h : md_rep μ k m a b c d = true) : md_in k 1 999 = true ∧ μ.1 22 k.toNatClampNeg = m := by
  unfold md_rep at h
  by_cases c1 : md_in k 1 999 = true
  · rw [if_pos c1] at h
    by_cases c2 : μ.1 22 k.toNatClampNeg = m
    · exact ⟨c1, c2⟩
    · rw [if_neg c2] at h; cases h
  · rw [if_neg c1] at h; cases h
/-- a memory untouched -/
theorem rl_M.of (hM : rl_M μ n C) {τ : LMt} (h22 : τ.1 22 = μ.1 22) (h23 : τ.1 23 = μ.1 23) (h24 : τ.1 24 = μ.1 24) (h25 : τ.1 25 = μ.1 25) (h4 : τ.2.2.1 4 = μ.2.2.1 4) : rl_M τ n C := by
  unfold rl_M
  rw [h22, h23, h24, h25, h4]
  exact hM
theorem rl_lv_up {D i : Nat} {f : Nat → Int32} (hi : ¬ i = n) : rl_lv D (va_up C n f) i ↔ rl_lv D C i := by
  unfold rl_lv va_up
  rw [if_neg hi]
theorem rl_up_ne {i : Nat} {f : Nat → Int32} (hi : ¬ i = n) : va_up C n f i = C i := by
  unfold va_up
  rw [if_neg hi]
theorem rl_up_eq {f : Nat → Int32} : va_up C n f n = f := by
  unfold va_up
  rw [if_pos rfl]
theorem rl_M.keep (hM : rl_M μ n C) {v k m a b c d : Int32} (hm : rl_cd m ≠ 0) (hk : ¬ md_bad μ k = true) (hd : μ.2.2.1 4 < 2 ^ 30) : rl_M (md_rmb μ v k (rl_cd m) a b c d) (n + 1) (va_up C n (fun j => if j = 6 then nI (μ.2.2.1 4) else if j = 7 then v else cl_f m k a b c d j)) := by
  unfold md_bad at hk
  have c1 : md_in k 1 999 = true := by
    by_cases c1 : md_in k 1 999 = true
    · exact c1
    · rw [if_neg c1] at hk; exact absurd rfl hk
  rw [if_pos c1] at hk
  obtain ⟨j, h1, h2, rfl⟩ := md_ky c1
  rw [nI_clamp (by omega)] at hk
  have hj0 : μ.1 22 j = 0 := by
    by_cases e : μ.1 22 j = 0
    · exact e
    · rw [if_neg e] at hk; exact absurd rfl hk
  have e22 : (md_rmb μ v (nI j) (rl_cd m) a b c d).1 22 = upd (μ.1 22) j (rl_cd m) := by
    show upd (μ.1 22) (nI j).toNatClampNeg (rl_cd m) = _
    rw [nI_clamp (by omega)]
  have e23 : (md_rmb μ v (nI j) (rl_cd m) a b c d).1 23 = upd (upd (upd (upd (μ.1 23) (4 * j) a) (4 * j + 1) b) (4 * j + 2) c) (4 * j + 3) d := by
    show upd (upd (upd (upd (μ.1 23) (4 * nI j).toNatClampNeg a) (4 * nI j + 1).toNatClampNeg b) (4 * nI j + 2).toNatClampNeg c) (4 * nI j + 3).toNatClampNeg d = _
    rw [nI_4, nI_p1, nI_p2, nI_p3, nI_clamp (n := 4 * j) (by omega), nI_clamp (n := 4 * j + 1) (by omega), nI_clamp (n := 4 * j + 2) (by omega), nI_clamp (n := 4 * j + 3) (by omega)]
  have e24 : (md_rmb μ v (nI j) (rl_cd m) a b c d).1 24 = upd (μ.1 24) j v := by
    show upd (μ.1 24) (nI j).toNatClampNeg v = _
    rw [nI_clamp (by omega)]
  have e25 : (md_rmb μ v (nI j) (rl_cd m) a b c d).1 25 = upd (μ.1 25) j (nI (μ.2.2.1 4)) := by
    show upd (μ.1 25) (nI j).toNatClampNeg (nI (μ.2.2.1 4)) = _
    rw [nI_clamp (by omega)]
  have e4 : (md_rmb μ v (nI j) (rl_cd m) a b c d).2.2.1 4 = μ.2.2.1 4 := rfl
  unfold rl_M
  rw [e22, e23, e24, e25, e4]
  have hself : rl_lv (μ.2.2.1 4) (va_up C n (fun j9 => if j9 = 6 then nI (μ.2.2.1 4) else if j9 = 7 then v else cl_f m (nI j) a b c d j9)) n := by
    unfold rl_lv
    rw [rl_up_eq]
    show ¬ 2 < nI (μ.2.2.1 4) - nI (μ.2.2.1 4)
    rw [nI_sub (Nat.le_refl _), Nat.sub_self]
    decide
  have hno : ∀ i, i < n → rl_lv (μ.2.2.1 4) C i → ¬ C i 1 = nI j := by
    intro i hi hl he
    have := (hM.2.1 i j hi hl h2 he).1
    rw [hj0] at this
    exact (hM.1 i hi).2.1 this.symm
  refine ⟨?_, ?_, ?_, ?_⟩
  · intro i hi
    by_cases e : i = n
    · subst e
      rw [rl_up_eq]
      exact ⟨⟨j, h1, h2, rfl⟩, hm, μ.2.2.1 4, Nat.le_refl _, rfl⟩
    · rw [rl_up_ne e]
      exact hM.1 i (by omega)
  · intro i k' hi hl hk' he
    by_cases e : i = n
    · subst e
      rw [rl_up_eq] at he ⊢
      have hjk : k' = j := (nI_eq (by omega) (by omega)).mp he.symm
      subst hjk
      unfold upd
      refine ⟨if_pos rfl, ?_, ?_, ?_, if_pos rfl, if_pos rfl, if_pos rfl⟩
      · rw [if_neg (by omega), if_neg (by omega), if_neg (by omega), if_pos rfl]; rfl
      · rw [if_neg (by omega), if_neg (by omega), if_pos rfl]; rfl
      · rw [if_neg (by omega), if_pos rfl]; rfl
    · rw [rl_up_ne e] at he ⊢
      rw [rl_lv_up e] at hl
      have hi' : i < n := by omega
      have hne : ¬ k' = j := fun z => hno i hi' hl (by rw [he, z])
      obtain ⟨a0, a1, a2, a3, a4, a5, a6⟩ := hM.2.1 i k' hi' hl hk' he
      unfold upd
      refine ⟨?_, ?_, ?_, ?_, ?_, ?_, ?_⟩
      · rw [if_neg hne]; exact a0
      · rw [if_neg (by omega), if_neg (by omega), if_neg (by omega), if_neg (by omega)]; exact a1
      · rw [if_neg (by omega), if_neg (by omega), if_neg (by omega), if_neg (by omega)]; exact a2
      · rw [if_neg (by omega), if_neg (by omega), if_neg (by omega), if_neg (by omega)]; exact a3
      · rw [if_neg (by omega), if_neg (by omega), if_neg (by omega), if_neg (by omega)]; exact a4
      · rw [if_neg hne]; exact a5
      · rw [if_neg hne]; exact a6
  · intro k' g1 g2 g3
    by_cases e : k' = j
    · exact ⟨n, by omega, hself, by rw [rl_up_eq, e]; rfl⟩
    · unfold upd at g3
      rw [if_neg e] at g3
      obtain ⟨i, z1, z2, z3⟩ := hM.2.2.1 k' g1 g2 g3
      have hi : ¬ i = n := by omega
      exact ⟨i, by omega, (rl_lv_up hi).mpr z2, by rw [rl_up_ne hi]; exact z3⟩
  · intro i i' hi hi' hl hl' he
    by_cases e : i = n
    · by_cases e' : i' = n
      · rw [e, e']
      · subst e
        rw [rl_up_eq, rl_up_ne e'] at he
        rw [rl_lv_up e'] at hl'
        exact absurd he.symm (hno i' (by omega) hl')
    · by_cases e' : i' = n
      · subst e'
        rw [rl_up_eq, rl_up_ne e] at he
        rw [rl_lv_up e] at hl
        exact absurd he (hno i (by omega) hl)
      · rw [rl_up_ne e, rl_up_ne e'] at he
        rw [rl_lv_up e] at hl
        rw [rl_lv_up e'] at hl'
        exact hM.2.2.2 i i' (by omega) (by omega) hl hl' he
theorem rl_fg_1 {D : Nat} {q : Nat} (hq : ¬ q = 22) : ∀ (k i : Nat) (τ : LMt), (md_fg D k i τ).1 q = τ.1 q
  | 0, _, _ => rfl
  | k + 1, i, τ => by
    simp only [md_fg]
    rw [rl_fg_1 hq k (i + 1), lm_I1, if_neg hq]
theorem rl_fg_z {D : Nat} : ∀ (k i : Nat) (τ : LMt), (md_fg D k i τ).2 = τ.2
  | 0, _, _ => rfl
  | k + 1, i, τ => by
    simp only [md_fg]
    rw [rl_fg_z k (i + 1)]
    rfl
theorem rl_fg_22 {D : Nat} : ∀ (k i : Nat) (τ : LMt) (j : Nat), (md_fg D k i τ).1 22 j = if i ≤ j ∧ j < i + k then (if nI D < τ.1 25 j + 3 then τ.1 22 j else 0) else τ.1 22 j
  | 0, i, τ, j => by
    rw [if_neg (by omega)]
    rfl
  | k + 1, i, τ, j => by
    simp only [md_fg]
    rw [rl_fg_22 k (i + 1)]
    have e1 : (lm_I τ 22 (upd (τ.1 22) i (if nI D < τ.1 25 i + 3 then τ.1 22 i else 0))).1 22 j = if j = i then (if nI D < τ.1 25 i + 3 then τ.1 22 i else 0) else τ.1 22 j := rfl
    have e2 : (lm_I τ 22 (upd (τ.1 22) i (if nI D < τ.1 25 i + 3 then τ.1 22 i else 0))).1 25 j = τ.1 25 j := rfl
    rw [e1, e2]
    by_cases e : j = i
    · subst e
      rw [if_neg (show ¬ (j + 1 ≤ j ∧ j < j + 1 + k) by omega), if_pos rfl, if_pos (show j ≤ j ∧ j < j + (k + 1) by omega)]
    · rw [if_neg e]
      by_cases z : i + 1 ≤ j ∧ j < i + 1 + k
      · rw [if_pos z, if_pos (show i ≤ j ∧ j < i + (k + 1) by omega)]
      · rw [if_neg z, if_neg (show ¬ (i ≤ j ∧ j < i + (k + 1)) by omega)]
theorem rl_lv_d {D i d : Nat} (h6 : C i 6 = nI d) (hd : d ≤ D) (hD : D < 2 ^ 30) : rl_lv D C i ↔ D - d ≤ 2 := by
  unfold rl_lv
  rw [h6, nI_sub hd]
  constructor
  · intro z
    rcases Nat.lt_or_ge 2 (D - d) with w | w
    · exact absurd (nI_lt (a := 2) w (by omega)) z
    · exact w
  · intro z
    exact nI_nlt (b := D - d) (a := 2) z (by decide)
theorem rl_M.fg (hM : rl_M μ n C) (hD : μ.2.2.1 4 + 1 < 2 ^ 29) {τ : LMt} (h22 : τ.1 22 = μ.1 22) (h23 : τ.1 23 = μ.1 23) (h24 : τ.1 24 = μ.1 24) (h25 : τ.1 25 = μ.1 25) (h4 : τ.2.2.1 4 = μ.2.2.1 4 + 1) : rl_M (md_fg (μ.2.2.1 4 + 1) 999 1 τ) n C := by
  have e4 : (md_fg (μ.2.2.1 4 + 1) 999 1 τ).2.2.1 4 = μ.2.2.1 4 + 1 := by rw [rl_fg_z, h4]
  have hl1 : ∀ i, i < n → rl_lv (μ.2.2.1 4 + 1) C i → rl_lv (μ.2.2.1 4) C i := by
    intro i hi hl
    obtain ⟨-, -, d, hd, h6⟩ := hM.1 i hi
    rw [rl_lv_d h6 (by omega) (by omega)] at hl ⊢
    omega
  have hk3 : ∀ i d, i < n → d ≤ μ.2.2.1 4 → C i 6 = nI d → (nI (μ.2.2.1 4 + 1) < C i 6 + 3 ↔ rl_lv (μ.2.2.1 4 + 1) C i) := by
    intro i d hi hd h6
    rw [rl_lv_d h6 (by omega) (by omega), h6, show nI d + 3 = nI (d + 3) from nI_p3, nI_ltI (by omega) (by omega)]
    omega
  unfold rl_M
  rw [e4, rl_fg_1 (q := 23) (by decide), rl_fg_1 (q := 24) (by decide), rl_fg_1 (q := 25) (by decide), h23, h24, h25]
  refine ⟨?_, ?_, ?_, ?_⟩
  · intro i hi
    obtain ⟨z1, z2, d, hd, h6⟩ := hM.1 i hi
    exact ⟨z1, z2, d, by omega, h6⟩
  · intro i k hi hl hk he
    obtain ⟨⟨k1, q1, q2, q3⟩, -, d, hd, h6⟩ := hM.1 i hi
    obtain ⟨a0, a1, a2, a3, a4, a5, a6⟩ := hM.2.1 i k hi (hl1 i hi hl) hk he
    have hkk : k = k1 := (nI_eq (by omega) (by omega)).mp (he.symm.trans q3)
    refine ⟨?_, a1, a2, a3, a4, a5, a6⟩
    rw [rl_fg_22, if_pos (by omega), h25, a6, if_pos ((hk3 i d hi hd h6).mpr hl), h22]
    exact a0
  · intro k g1 g2 g3
    rw [rl_fg_22, if_pos (by omega), h25, h22] at g3
    by_cases c : nI (μ.2.2.1 4 + 1) < μ.1 25 k + 3
    · rw [if_pos c] at g3
      obtain ⟨i, z1, z2, z3⟩ := hM.2.2.1 k g1 g2 g3
      obtain ⟨-, -, d, hd, h6⟩ := hM.1 i z1
      refine ⟨i, z1, ?_, z3⟩
      rw [(hM.2.1 i k z1 z2 g2 z3).2.2.2.2.2.2] at c
      exact (hk3 i d z1 hd h6).mp c
    · rw [if_neg c] at g3
      exact absurd rfl g3
  · intro i j hi hj hl hl' he
    exact hM.2.2.2 i j hi hj (hl1 i hi hl) (hl1 j hj hl') he
/-! counts -/
theorem rl_del {Q : Nat → Bool} {q : Nat} (hQ : Q q = true) : ∀ {m : Nat}, q < m → ls_cnt Q m = ls_cnt (fun x => Q x && decide (x ≠ q)) m + 1
  | 0, h => by omega
  | m + 1, h => by
    show (if Q m = true then ls_cnt Q m + 1 else ls_cnt Q m) = (if (Q m && decide (m ≠ q)) = true then ls_cnt (fun x => Q x && decide (x ≠ q)) m + 1 else ls_cnt (fun x => Q x && decide (x ≠ q)) m) + 1
    by_cases e : m = q
    · subst e
      rw [if_pos hQ, if_neg (by simp)]
      rw [ls_cnt_eq (f := Q) (g := fun x => Q x && decide (x ≠ m)) (fun i hi => by simp [Nat.ne_of_lt hi])]
    · rw [rl_del hQ (show q < m by omega)]
      have e2 : (Q m && decide (m ≠ q)) = Q m := by simp [e]
      rw [e2]
      split <;> rfl
theorem rl_inj {P : Nat → Bool} {f : Nat → Nat} {m : Nat} : ∀ {n : Nat} {Q : Nat → Bool}, (∀ i, i < n → P i = true → f i < m ∧ Q (f i) = true) → (∀ i j, i < n → j < n → P i = true → P j = true → f i = f j → i = j) → ls_cnt P n ≤ ls_cnt Q m
  | 0, _, _, _ => Nat.zero_le _
  | n + 1, Q, h, hi => by
    show (if P n = true then ls_cnt P n + 1 else ls_cnt P n) ≤ _
    by_cases c : P n = true
    · rw [if_pos c]
      obtain ⟨z1, z2⟩ := h n (by omega) c
      rw [rl_del z2 z1]
      refine Nat.succ_le_succ (rl_inj (fun i hi' hp => ?_) (fun i j h1 h2 => hi i j (by omega) (by omega)))
      obtain ⟨w1, w2⟩ := h i (by omega) hp
      refine ⟨w1, ?_⟩
      rw [w2]
      have : ¬ f i = f n := fun e => by have := hi i n (by omega) (by omega) hp c e; omega
      simp [this]
    · rw [if_neg c]
      exact rl_inj (fun i hi' hp => h i (by omega) hp) (fun i j h1 h2 => hi i j (by omega) (by omega))
theorem rl_kc : ∀ (k i c : Nat), md_kc μ k i c = c + ls_cnt (fun j => decide (¬ μ.1 22 (i + j) ≤ 0)) k
  | 0, _, _ => rfl
  | k + 1, i, c => by
    have hs : ∀ (k i : Nat), ls_cnt (fun j => decide (¬ μ.1 22 (i + j) ≤ 0)) (k + 1) = (if μ.1 22 i ≤ 0 then 0 else 1) + ls_cnt (fun j => decide (¬ μ.1 22 (i + 1 + j) ≤ 0)) k := by
      intro k
      induction k with
      | zero =>
        intro i
        show (if decide (¬ μ.1 22 (i + 0) ≤ 0) = true then 0 + 1 else 0) = _ + 0
        by_cases e : μ.1 22 i ≤ 0 <;> simp [e]
      | succ k ih =>
        intro i
        show (if decide (¬ μ.1 22 (i + (k + 1)) ≤ 0) = true then ls_cnt (fun j => decide (¬ μ.1 22 (i + j) ≤ 0)) (k + 1) + 1 else ls_cnt (fun j => decide (¬ μ.1 22 (i + j) ≤ 0)) (k + 1)) = (if μ.1 22 i ≤ 0 then 0 else 1) + (if decide (¬ μ.1 22 (i + 1 + k) ≤ 0) = true then ls_cnt (fun j => decide (¬ μ.1 22 (i + 1 + j) ≤ 0)) k + 1 else ls_cnt (fun j => decide (¬ μ.1 22 (i + 1 + j) ≤ 0)) k)
        rw [ih i, show i + (k + 1) = i + 1 + k from by omega]
        split <;> omega
    rw [hs]
    simp only [md_kc]
    by_cases e : μ.1 22 i ≤ 0
    · rw [if_pos e, if_pos e, rl_kc k (i + 1)]; omega
    · rw [if_neg e, if_neg e, rl_kc k (i + 1)]; omega
theorem rl_keys (hM : rl_M μ n C) : ls_keys (rl_ab μ n C) (nI (μ.2.2.1 4)) = md_kc μ 999 1 0 := by
  rw [rl_kc, Nat.zero_add]
  show ls_cnt (fun i => decide (¬ 2 < nI (μ.2.2.1 4) - C i 6)) n = _
  have hpos : ∀ j, 1 ≤ j → j ≤ 999 → (¬ μ.1 22 j ≤ 0 ↔ μ.1 22 j ≠ 0) := by
    intro j h1 h2
    rcases rl_f1 hM h1 h2 with ⟨-, z, -⟩ | ⟨i, -, -, -, -, h0, z, -⟩
    · rw [z]; decide
    · rw [z]
      exact ⟨fun _ => h0, fun _ w => h0 (Int32.le_antisymm w rl_cd_pos)⟩
  refine Nat.le_antisymm ?_ ?_
  · refine rl_inj (f := fun i => (C i 1).toNatClampNeg - 1) (fun i hi hp => ?_) (fun i j hi hj hp hp' he => ?_)
    · have hl : rl_lv (μ.2.2.1 4) C i := of_decide_eq_true hp
      obtain ⟨⟨k, q1, q2, q3⟩, h0, -⟩ := hM.1 i hi
      have := (hM.2.1 i k hi hl q2 q3).1
      simp only [q3, nI_clamp (show k < 2 ^ 31 by omega)]
      refine ⟨by omega, decide_eq_true ?_⟩
      rw [show 1 + (k - 1) = k from by omega]
      exact (hpos k q1 q2).mpr (by rw [this]; exact h0)
    · obtain ⟨⟨k, q1, q2, q3⟩, -⟩ := hM.1 i hi
      obtain ⟨⟨k', q1', q2', q3'⟩, -⟩ := hM.1 j hj
      simp only [q3, q3', nI_clamp (show k < 2 ^ 31 by omega), nI_clamp (show k' < 2 ^ 31 by omega)] at he
      exact hM.2.2.2 i j hi hj (of_decide_eq_true hp) (of_decide_eq_true hp') (by rw [q3, q3', show k = k' from by omega])
  · refine rl_inj (f := fun j => (ls_find (rl_ab μ n C) (nI (j + 1)) (nI (μ.2.2.1 4))).getD 0) (fun j hj hp => ?_) (fun j j' hj hj' hp hp' he => ?_)
    · have hp : ¬ μ.1 22 (1 + j) ≤ 0 := of_decide_eq_true hp
      rw [Nat.add_comm] at hp
      have h0 := (hpos (j + 1) (by omega) (by omega)).mp hp
      rcases rl_f1 hM (j := j + 1) (by omega) (by omega) with ⟨-, z, -⟩ | ⟨i, f, hi, hl, -⟩
      · exact absurd z h0
      · simp only [f]
        exact ⟨hi, decide_eq_true hl⟩
    · have hp : ¬ μ.1 22 (1 + j) ≤ 0 := of_decide_eq_true hp
      have hp' : ¬ μ.1 22 (1 + j') ≤ 0 := of_decide_eq_true hp'
      rw [Nat.add_comm] at hp hp'
      have h0 := (hpos (j + 1) (by omega) (by omega)).mp hp
      have h0' := (hpos (j' + 1) (by omega) (by omega)).mp hp'
      rcases rl_f1 hM (j := j + 1) (by omega) (by omega) with ⟨-, z, -⟩ | ⟨i, f, -, -, e1, -⟩
      · exact absurd z h0
      · rcases rl_f1 hM (j := j' + 1) (by omega) (by omega) with ⟨-, z, -⟩ | ⟨i', f', -, -, e1', -⟩
        · exact absurd z h0'
        · simp only [f, f', Option.getD_some] at he
          rw [he, e1'] at e1
          have := (nI_eq (by omega) (by omega)).mp e1
          omega
end RM
