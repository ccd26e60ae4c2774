/-! PART 23: the class's state out of the reference's -/
def rl_row (μ : LMt) : Nat → Nat → Int64
  | 0 => fun i => (μ.1 0 i).toInt64
  | 1 => fun i => (μ.1 1 i).toInt64
  | 2 => fun i => μ.2.1 3 i
  | 3 => fun i => μ.2.1 4 i
  | 4 => fun i => μ.2.1 5 i
  | 5 => fun i => (μ.1 2 i).toInt64
  | 6 => fun i => (μ.1 7 i).toInt64
  | 7 => fun i => (μ.1 8 i).toInt64
  | 8 => fun i => (μ.1 9 i).toInt64
  | 9 => fun i => (μ.1 10 i).toInt64
  | 10 => fun i => (μ.1 11 i).toInt64
  | 11 => fun i => (μ.1 12 i).toInt64
  | 12 => fun i => (μ.1 13 i).toInt64
  | 13 => fun i => (μ.1 15 i).toInt64
  | 14 => fun i => (μ.1 16 i).toInt64
  | 15 => fun i => (μ.1 17 i).toInt64
  | 16 => fun i => (μ.1 18 i).toInt64
  | 17 => fun i => (μ.1 14 i).toInt64
  | 18 => fun i => (μ.1 19 i).toInt64
  | 19 => fun i => (μ.1 20 i).toInt64
  | 20 => fun i => (μ.1 21 i).toInt64
  | _ => fun _ => 0
def rl_sz (μ : LMt) (n : Nat) : Nat → Nat
  | 0 => μ.2.2.1 0
  | 1 => μ.2.2.1 1
  | 2 => μ.2.2.1 2
  | 3 => μ.2.2.1 3
  | 4 => n
  | 5 => μ.2.2.1 4
  | _ => 0
/-- the class's state that belongs to the reference's, with its calls -/
def rl_ab (μ : LMt) (n : Nat) (C : Nat → Nat → Int32) : LSt := (rl_row μ, rl_sz μ n, C)
/-- the kinds of calls, told by the class and by the reference -/
def rl_cd (m : Int32) : Int32 := if m = 100 then 1 else if m = 119 then 2 else if m = 116 then 3 else if m = 104 then 4 else if m = 99 then 5 else if m = 114 then 6 else if m = 98 then 7 else 0
abbrev rl_lv (D : Nat) (C : Nat → Nat → Int32) (i : Nat) : Prop := ¬ 2 < nI D - C i 6
def rl_M (μ : LMt) (n : Nat) (C : Nat → Nat → Int32) : Prop :=
  (∀ i, i < n → (∃ k : Nat, 1 ≤ k ∧ k ≤ 999 ∧ C i 1 = nI k) ∧ rl_cd (C i 0) ≠ 0 ∧ ∃ d : Nat, d ≤ μ.2.2.1 4 ∧ C i 6 = nI d) ∧
  (∀ i k : Nat, i < n → rl_lv (μ.2.2.1 4) C i → k ≤ 999 → C i 1 = nI k → μ.1 22 k = rl_cd (C i 0) ∧ μ.1 23 (4 * k) = C i 2 ∧ μ.1 23 (4 * k + 1) = C i 3 ∧ μ.1 23 (4 * k + 2) = C i 4 ∧ μ.1 23 (4 * k + 3) = C i 5 ∧ μ.1 24 k = C i 7 ∧ μ.1 25 k = C i 6) ∧
  (∀ k : Nat, 1 ≤ k → k ≤ 999 → μ.1 22 k ≠ 0 → ∃ i, i < n ∧ rl_lv (μ.2.2.1 4) C i ∧ C i 1 = nI k) ∧
  (∀ i j : Nat, i < n → j < n → rl_lv (μ.2.2.1 4) C i → rl_lv (μ.2.2.1 4) C j → C i 1 = C j 1 → i = j)
/-- what the reference's rows keep -/
def rl_I (μ : LMt) : Prop :=
  (∀ i, i < 4 → 100 ≤ μ.1 2 i ∧ μ.1 2 i ≤ 1000) ∧
  (∀ i, 0 ≤ μ.1 10 i ∧ μ.1 10 i ≤ 10000000) ∧ (∀ i, 0 ≤ μ.1 11 i ∧ μ.1 11 i ≤ 10000000) ∧
  (∀ i, μ.1 8 i = -1 ∨ 0 ≤ μ.1 8 i) ∧ (∀ i, μ.1 9 i = -1 ∨ 0 ≤ μ.1 9 i) ∧
  (∀ i, i < μ.2.2.1 1 → ¬ μ.1 8 i = μ.1 9 i) ∧
  (∀ i, μ.1 13 i = -1 ∨ 0 ≤ μ.1 13 i) ∧
  (∀ i, 0 ≤ μ.1 17 i ∧ μ.1 17 i ≤ 1000000) ∧ (∀ i, i < μ.2.2.1 2 → ¬ μ.1 15 i = μ.1 16 i) ∧
  (∀ i, 0 ≤ μ.1 21 i ∧ μ.1 21 i ≤ 1000000) ∧ (∀ i, i < μ.2.2.1 3 → ¬ μ.1 19 i = μ.1 20 i)
def rl_R (t : Nat) (σ : LSt) (μ : LMt) : Prop := ∃ (n : Nat) (C : Nat → Nat → Int32), σ = rl_ab μ n C ∧ n ≤ μ.2.2.1 1 + μ.2.2.1 2 ∧ μ.2.2.1 4 ≤ t ∧ MInv μ ∧ rl_I μ ∧ rl_M μ n C
/-! reads -/
theorem rl_at {N : Nat} {f : Nat → Int64} {x : Int32} (h : vp_in x N) (hN : N < 2 ^ 31) : row_at N f x = f x.toNatClampNeg := by
  obtain ⟨j, hj, rfl⟩ := nI_of (vp_in_ge h)
  have hjN : j < N := by have := vp_in_lt h; rw [nI_clamp hj] at this; exact this
  unfold row_at
  rw [if_neg (nI_pos hj), if_neg (show ¬ Int32.ofNat N ≤ nI j from nI_ge hjN hN)]
theorem rl_ia {N : Nat} {f : Nat → Int64} {x : Int32} (h : vp_in x N) (hN : N < 2 ^ 31) : row_intAt N f x = (f x.toNatClampNeg).toInt32 := by
  obtain ⟨j, hj, rfl⟩ := nI_of (vp_in_ge h)
  have hjN : j < N := by have := vp_in_lt h; rw [nI_clamp hj] at this; exact this
  unfold row_intAt
  rw [if_neg (nI_pos hj), if_neg (show ¬ Int32.ofNat N ≤ nI j from nI_ge hjN hN)]
theorem rl_pt {N : Nat} {f : Nat → Int64} {x : Int32} {v : Int64} (h : vp_in x N) (hN : N < 2 ^ 31) : row_put N f x v = vp_updL f x.toNatClampNeg v := by
  obtain ⟨j, hj, rfl⟩ := nI_of (vp_in_ge h)
  have hjN : j < N := by have := vp_in_lt h; rw [nI_clamp hj] at this; exact this
  unfold row_put
  rw [if_neg (nI_pos hj), if_neg (show ¬ Int32.ofNat N ≤ nI j from nI_ge hjN hN)]
theorem rl_ad {N : Nat} {f : Nat → Int64} {x : Int32} {v : Int64} (h : vp_in x N) (hN : N < 2 ^ 31) : row_add N f x v = vp_updL f x.toNatClampNeg (f x.toNatClampNeg + v) := by
  obtain ⟨j, hj, rfl⟩ := nI_of (vp_in_ge h)
  have hjN : j < N := by have := vp_in_lt h; rw [nI_clamp hj] at this; exact this
  unfold row_add
  rw [if_neg (nI_pos hj), if_neg (show ¬ Int32.ofNat N ≤ nI j from nI_ge hjN hN)]
theorem rl_at_n {N j : Nat} {f : Nat → Int64} (h : j < N) (hN : N < 2 ^ 31) : row_at N f (nI j) = f j := by
  rw [rl_at (vp_in_nI h hN) hN, nI_clamp (by omega)]
theorem rl_ia_n {N j : Nat} {f : Nat → Int64} (h : j < N) (hN : N < 2 ^ 31) : row_intAt N f (nI j) = (f j).toInt32 := by
  rw [rl_ia (vp_in_nI h hN) hN, nI_clamp (by omega)]
theorem rl_eq64 {x y : Int32} : x.toInt64 = y.toInt64 ↔ x = y := by
  constructor
  · intro h
    have := congrArg Int64.toInt32 h
    rwa [Int32.toInt32_toInt64, Int32.toInt32_toInt64] at this
  · intro h; rw [h]
theorem rl_lt64 {x y : Int32} : x.toInt64 < y.toInt64 ↔ x < y := by
  rw [Int64.lt_iff_toInt_lt, Int32.lt_iff_toInt_lt, Int32.toInt_toInt64, Int32.toInt_toInt64]
theorem rl_le64 {x y : Int32} : x.toInt64 ≤ y.toInt64 ↔ x ≤ y := by
  rw [Int64.le_iff_toInt_le, Int32.le_iff_toInt_le, Int32.toInt_toInt64, Int32.toInt_toInt64]
theorem rl_neg64 {x : Int32} (h : 0 ≤ x) : (-x).toInt64 = -x.toInt64 := by
  have h1 : (0 : Int32).toInt ≤ x.toInt := Int32.le_iff_toInt_le.mp h
  have h0 : (0 : Int32).toInt = 0 := rfl
  rw [h0] at h1
  have h2 : x.toInt < 2 ^ 31 := Int32.toInt_lt x
  apply Int64.toInt_inj.mp
  rw [Int32.toInt_toInt64, Int64.toInt_neg, Int32.toInt_toInt64, Int32.toInt_neg]
  rw [Int.bmod_eq_of_le (by omega) (by omega), Int.bmod_eq_of_le (by omega) (by omega)]
/-! refusals -/
theorem rl_er {x : Int32} {m : Nat} {E : String} (hm : m < 2 ^ 30) : (if x < 0 then some E else if x < nI m then none else some E) = if md_in x 0 (nI m - 1) = true then none else some E := by
  unfold md_in
  by_cases c1 : x < 0
  · rw [if_pos c1, if_pos c1, if_neg (by decide)]
  · rw [if_neg c1, if_neg c1]
    obtain ⟨j, hj, rfl⟩ := nI_of c1
    rcases m with _ | m
    · have e : nI 0 - 1 = -1 := by decide
      rw [e]
      have z0 : (0 : Int32) ≤ nI j := nI_pos' hj
      have z1 : (-1 : Int32) < 0 := by decide
      rw [if_neg (fun z => nI_pos hj (by rw [nI_0] at z; exact z)), if_pos (Int32.lt_of_lt_of_le z1 z0), if_neg (by decide)]
    · rw [nI_pred]
      by_cases c2 : j < m + 1
      · rw [if_pos (nI_lt c2 (by omega)), if_neg (nI_nlt (by omega) (by omega)), if_pos rfl]
      · rw [if_neg (nI_nlt (by omega) hj), if_pos (nI_lt (by omega) hj), if_neg (by decide)]
theorem rl_er2 {x lo hi : Int32} {E : String} : (if x < lo then some E else if x ≤ hi then none else some E) = if md_in x lo hi = true then none else some E := by
  unfold md_in
  by_cases c1 : x < lo
  · rw [if_pos c1, if_pos c1, if_neg (by decide)]
  · rw [if_neg c1, if_neg c1]
    by_cases c2 : hi < x
    · rw [if_pos c2, if_neg (Int32.not_le.mpr c2), if_neg (by decide)]
    · rw [if_neg c2, if_pos (Int32.not_lt.mp c2), if_pos rfl]
theorem rl_cur {x : Int32} : er_cur x = if md_in x 0 3 = true then none else some xIAE := rl_er (m := 4) (by decide)
theorem rl_lim {x : Int32} : er_lim x = if md_in x 0 1000000 = true then none else some xIAE := rl_er2
theorem rl_amt {x : Int32} : er_amt x = if md_amt x = true then none else some xIAE := rl_er2
section RL
variable {μ : LMt} {n : Nat} {C : Nat → Nat → Int32}
theorem rl_acc {x : Int32} (h : μ.2.2.1 0 ≤ 10) : er_acc (rl_ab μ n C) x = if md_acc μ x = true then none else some xIOB := rl_er (m := μ.2.2.1 0) (by omega)
theorem rl_tra {x : Int32} (h : μ.2.2.1 1 ≤ 150) : er_tra (rl_ab μ n C) x = if md_tra μ x = true then none else some xIOB := rl_er (m := μ.2.2.1 1) (by omega)
theorem rl_hol {x : Int32} (h : μ.2.2.1 2 ≤ 30) : er_hol (rl_ab μ n C) x = if md_hol μ x = true then none else some xIOB := rl_er (m := μ.2.2.1 2) (by omega)
theorem rl_full {m N : Nat} {E : String} {M : Int32} (hM : M = nI N) (hm : m ≤ N) (hN : N < 2 ^ 31) : (if nI m < M then none else some E) = if nI m = M then some E else none := by
  subst hM
  by_cases c : m = N
  · subst c
    rw [if_pos rfl, if_neg (fun z => Int32.lt_irrefl z)]
  · rw [if_neg (fun z => c ((nI_eq (by omega) hN).mp z)), if_pos (nI_lt (by omega) hN)]
theorem rl_roo (h : μ.2.2.1 1 ≤ 150) : er_roo (rl_ab μ n C) = if nI (μ.2.2.1 1) = 150 then some xISE else none := rl_full (m := μ.2.2.1 1) (N := 150) rfl h (by decide)
theorem rl_two {x y : Int32} (h : μ.2.2.1 0 ≤ 10) : er_two (rl_ab μ n C) x y = if x = y then some xIAE else if md_acc μ x = true then (if md_acc μ y = true then none else some xIOB) else some xIOB := by
  unfold er_two
  rw [rl_acc h, rl_acc h]
  split
  · rfl
  · by_cases c : md_acc μ x = true
    · rw [if_pos c, if_pos c]; rfl
    · rw [if_neg c, if_neg c]; rfl
theorem ls_sum_eq {f g : Nat → Int64} : ∀ {n : Nat}, (∀ i, i < n → f i = g i) → ls_sum f n = ls_sum g n
  | 0, _ => rfl
  | n + 1, h => by
    show ls_sum f n + f n = ls_sum g n + g n
    rw [ls_sum_eq (fun i hi => h i (by omega)), h n (by omega)]
theorem ls_cnt_eq {f g : Nat → Bool} : ∀ {n : Nat}, (∀ i, i < n → f i = g i) → ls_cnt f n = ls_cnt g n
  | 0, _ => rfl
  | n + 1, h => by
    show (if f n = true then ls_cnt f n + 1 else ls_cnt f n) = (if g n = true then ls_cnt g n + 1 else ls_cnt g n)
    rw [ls_cnt_eq (fun i hi => h i (by omega)), h n (by omega)]
theorem rl_held {x : Int32} (h : μ.2.2.1 2 ≤ 30) : ls_held (rl_ab μ n C) x = md_held μ x := by
  unfold ls_held md_held
  refine ls_sum_eq (fun i hi => ?_)
  have hi : i < 30 := Nat.lt_of_lt_of_le (show i < μ.2.2.1 2 from hi) h
  rw [rl_at_n (N := ls_len 17) hi (by decide), rl_at_n (N := ls_len 13) hi (by decide), rl_at_n (N := ls_len 15) hi (by decide)]
  show (if (μ.1 14 i).toInt64 = (97 : Int32).toInt64 then (if (μ.1 15 i).toInt64 = x.toInt64 then (μ.1 17 i).toInt64 else 0) else 0) = _
  simp only [rl_eq64]
theorem rl_av {x : Int32} (h : μ.2.2.1 2 ≤ 30) (hx : vp_in x 10) : ls_av (rl_ab μ n C) x = md_av μ x := by
  unfold ls_av md_av
  rw [rl_held h, rl_at (N := ls_len 2) hx (by decide), rl_at (N := ls_len 1) hx (by decide)]
  rfl
theorem rl_spe {x v : Int32} (h : μ.2.2.1 2 ≤ 30) (hx : vp_in x 10) : er_spe (rl_ab μ n C) x v = if v.toInt64 ≤ md_av μ x then none else some xUOE := by
  unfold er_spe
  rw [rl_av h hx]
theorem rl_i0 {x : Int32} (hx : vp_in x 10) : row_intAt (ls_len 0) ((rl_ab μ n C).1 0) x = μ.1 0 x.toNatClampNeg := by
  rw [rl_ia (N := ls_len 0) hx (by decide)]
  exact Int32.toInt32_toInt64 _
theorem rl_a5 {x : Int32} (hx : vp_in x 4) : row_at (ls_len 5) ((rl_ab μ n C).1 5) x = (μ.1 2 x.toNatClampNeg).toInt64 := rl_at (N := ls_len 5) hx (by decide)
theorem rl_recv {x y v : Int32} (hI : rl_I μ) (hc : ∀ i, vp_in (μ.1 0 i) 4) (hx : vp_in x 10) (hy : vp_in y 10) : ls_recv (rl_ab μ n C) x y v = md_recv μ x y v := by
  unfold ls_recv md_recv
  rw [rl_i0 hx, rl_i0 hy, rl_a5 (hc _), rl_a5 (hc _)]
  have h1 : (1 : Int64) ≤ (μ.1 2 (μ.1 0 y.toNatClampNeg).toNatClampNeg).toInt64 := by
    have := (hI.1 (μ.1 0 y.toNatClampNeg).toNatClampNeg (vp_in_lt (hc _))).1
    have h2 : (1 : Int32) ≤ μ.1 2 (μ.1 0 y.toNatClampNeg).toNatClampNeg := Int32.le_trans (by decide) this
    exact (rl_le64 (x := 1)).mpr h2
  rw [if_pos h1]
end RL
