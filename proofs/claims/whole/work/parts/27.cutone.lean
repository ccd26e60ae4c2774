/-! PART 27: the two cuts are one -/
theorem rl_z0 : ∀ (k j : Nat), j < k → md_z k (fun _ => 0) j = 0
  | 0, j, h => by omega
  | k + 1, j, h => by
    show vp_updL (md_z k (fun _ => 0)) k 0 j = 0
    unfold vp_updL
    by_cases e : j = k
    · rw [if_pos e]
    · rw [if_neg e]; exact rl_z0 k j (by omega)
section RC
variable {μ : LMt} {n : Nat} {C : Nat → Nat → Int32}
theorem rl_ii {k i N : Nat} {f : Nat → Int32} (h : i < ls_len k) (e : (rl_ab μ n C).1 k = fun i => (f i).toInt64) (hN : ls_len k < 2 ^ 31) : row_intAt (ls_len k) ((rl_ab μ n C).1 k) (nI i) = f i := by
  rw [e, rl_ia_n h hN]
  exact Int32.toInt32_toInt64 _
theorem rl_rcv (hJ : rl_J μ) {i : Nat} (hi : i < 12) : ls_rcv (rl_ab μ n C) (nI i) = md_rcv μ (nI i) := by
  obtain ⟨⟨-, -, -, -, -, cu, -, -, -, -, -, -, b19, b20⟩, hI⟩ := hJ
  unfold ls_rcv md_rcv
  rw [rl_ii (k := 18) (N := 0) (f := μ.1 19) hi rfl (by decide), rl_ii (k := 19) (N := 0) (f := μ.1 20) hi rfl (by decide), rl_ii (k := 20) (N := 0) (f := μ.1 21) hi rfl (by decide), rl_recv hI cu (b19 i) (b20 i), nI_clamp (by omega)]
theorem rl_rcv0 (hJ : rl_J μ) (i : Int32) : 0 ≤ md_rcv μ i := by
  obtain ⟨⟨-, -, -, -, -, cu, -, -, -, -, -, -, b19, b20⟩, hI⟩ := hJ
  exact (rl_rng hI cu (hI.2.2.2.2.2.2.2.2.2.1 _).1 (hI.2.2.2.2.2.2.2.2.2.1 _).2).1
theorem rl_ge1 {x : Int32} (h : 0 ≤ x) : 1 ≤ x ↔ ¬ x = 0 := by
  obtain ⟨j, hj, rfl⟩ := nI_of (Int32.not_lt.mpr h)
  constructor
  · intro z e
    rw [e] at z
    exact absurd z (by decide)
  · intro z
    rcases j with _ | j
    · exact absurd rfl z
    · exact nI_le (a := 1) (by omega) hj
theorem rl_cinj {x y : Int32} (hx : vp_in x 10) (hy : vp_in y 10) : x = y ↔ y.toNatClampNeg = x.toNatClampNeg := by
  obtain ⟨j, hj, rfl⟩ := nI_of (vp_in_ge hx)
  obtain ⟨k, hk, rfl⟩ := nI_of (vp_in_ge hy)
  rw [nI_clamp hj, nI_clamp hk, nI_eq hj hk]
  exact eq_comm
theorem rl_nt1 {i j : Nat} {f : Nat → Int64} : md_nt1 μ i f j = (if j = (μ.1 20 i).toNatClampNeg then (if j = (μ.1 19 i).toNatClampNeg then f j - (μ.1 21 i).toInt64 else f j) + (md_rcv μ (nI i)).toInt64 else (if j = (μ.1 19 i).toNatClampNeg then f j - (μ.1 21 i).toInt64 else f j)) := by
  unfold md_nt1 vp_updL
  by_cases e : j = (μ.1 20 i).toNatClampNeg
  · rw [if_pos e, if_pos e, ← e]
    by_cases e2 : j = (μ.1 19 i).toNatClampNeg
    · rw [if_pos e2, if_pos e2, ← e2]
    · rw [if_neg e2, if_neg e2]
  · rw [if_neg e, if_neg e]
    by_cases e2 : j = (μ.1 19 i).toNatClampNeg
    · rw [if_pos e2, if_pos e2, ← e2]
    · rw [if_neg e2, if_neg e2]
theorem rl_nof (hJ : rl_J μ) {x : Int32} (hx : vp_in x 10) {f : Nat → Int64} (hf : f x.toNatClampNeg = 0) : ∀ c, c ≤ 12 → ls_nof (rl_ab μ n C) x c = md_nt μ c f x.toNatClampNeg
  | 0, _ => hf.symm
  | c + 1, hc => by
    have hc' : c < 12 := by omega
    show ls_nof1 (rl_ab μ n C) x c (if row_at (ls_len 18) ((rl_ab μ n C).1 18) (nI c) = x.toInt64 then ls_nof (rl_ab μ n C) x c - row_at (ls_len 20) ((rl_ab μ n C).1 20) (nI c) else ls_nof (rl_ab μ n C) x c) = md_nt1 μ c (md_nt μ c f) x.toNatClampNeg
    unfold ls_nof1
    rw [rl_nt1, rl_nof hJ hx hf c (by omega), rl_rcv hJ hc', rl_at_n (N := ls_len 18) hc' (by decide), rl_at_n (N := ls_len 19) hc' (by decide), rl_at_n (N := ls_len 20) hc' (by decide)]
    rw [show (rl_ab μ n C).1 18 c = (μ.1 19 c).toInt64 from rfl, show (rl_ab μ n C).1 19 c = (μ.1 20 c).toInt64 from rfl, show (rl_ab μ n C).1 20 c = (μ.1 21 c).toInt64 from rfl]
    obtain ⟨⟨-, -, -, -, -, -, -, -, -, -, -, -, b19, b20⟩, -⟩ := hJ
    simp only [rl_eq64, rl_cinj (b19 c) hx, rl_cinj (b20 c) hx]
theorem rl_nn {sm f : Nat → Int64} {N : Nat} (hN : N ≤ 10) (h : ∀ j, j < N → sm j = md_av μ (nI j) + f j) : ∀ k i, i + k ≤ N → ls_nn sm k i = md_ak μ f k i
  | 0, _, _ => rfl
  | k + 1, i, hi => by
    simp only [ls_nn, md_ak]
    rw [rl_at_n (N := 10) (by omega) (by decide), h i (by omega), rl_nn hN h k (i + 1) (by omega)]
theorem rl_fill (h2 : μ.2.2.1 2 ≤ 30) : ∀ (k i : Nat) (sm : Nat → Int64), i + k ≤ 10 → ∀ j, ls_fill (rl_ab μ n C) k i sm j = if i ≤ j ∧ j < i + k then md_av μ (nI j) else sm j
  | 0, i, sm, _, j => by
    rw [if_neg (by omega)]
    rfl
  | k + 1, i, sm, h, j => by
    show ls_fill (rl_ab μ n C) k (i + 1) (row_put 10 sm (nI i) (ls_av (rl_ab μ n C) (nI i))) j = _
    rw [rl_fill h2 k (i + 1) _ (by omega) j, rl_pt (vp_in_nI (show i < 10 by omega) (by decide)) (by decide), nI_clamp (by omega), rl_av h2 (vp_in_nI (show i < 10 by omega) (by decide))]
    unfold vp_updL
    by_cases e : j = i
    · subst e
      rw [if_neg (by omega), if_pos rfl, if_pos (by omega)]
    · rw [if_neg e]
      by_cases z : i + 1 ≤ j ∧ j < i + 1 + k
      · rw [if_pos z, if_pos (by omega)]
      · rw [if_neg z, if_neg (by omega)]
theorem rl_sm2 (hJ : rl_J μ) {i : Nat} (hi : i < 12) {sm f : Nat → Int64} {j : Nat} {a : Int64} (h : sm j = a + f j) : ls_sm2 (rl_ab μ n C) i sm j = a + md_nt1 μ i f j := by
  unfold ls_sm2
  rw [rl_rcv hJ hi, rl_ii (k := 18) (N := 0) (f := μ.1 19) hi rfl (by decide), rl_ii (k := 19) (N := 0) (f := μ.1 20) hi rfl (by decide), rl_at_n (N := ls_len 20) hi (by decide), show (rl_ab μ n C).1 20 i = (μ.1 21 i).toInt64 from rfl]
  obtain ⟨⟨-, -, -, -, -, -, -, -, -, -, -, -, b19, b20⟩, -⟩ := hJ
  rw [rl_ad (b19 i) (by decide), rl_ad (b20 i) (by decide), rl_nt1]
  unfold vp_updL
  by_cases e : j = (μ.1 20 i).toNatClampNeg
  · rw [if_pos e, if_pos e, ← e]
    by_cases e2 : j = (μ.1 19 i).toNatClampNeg
    · rw [if_pos e2, if_pos e2, ← e2, h, Int64.sub_eq_add_neg, Int64.add_assoc, Int64.add_assoc, Int64.add_assoc]
    · rw [if_neg e2, if_neg e2, h, Int64.add_assoc]
  · rw [if_neg e, if_neg e]
    by_cases e2 : j = (μ.1 19 i).toNatClampNeg
    · rw [if_pos e2, if_pos e2, ← e2, h, Int64.sub_eq_add_neg, Int64.add_assoc]
    · rw [if_neg e2, if_neg e2, h]
theorem rl_rk : ∀ (k i : Nat), md_rk μ k i = true ↔ ∀ j, i ≤ j → j < i + k → ¬ md_rcv μ (nI j) = 0
  | 0, i => ⟨fun _ j h1 h2 => by omega, fun _ => rfl⟩
  | k + 1, i => by
    simp only [md_rk]
    by_cases e : md_rcv μ (nI i) = 0
    · rw [if_pos e]
      exact ⟨fun z => by (cases z), fun z => absurd e (z i (Nat.le_refl _) (by omega))⟩
    · rw [if_neg e, rl_rk k (i + 1)]
      constructor
      · intro z j h1 h2
        by_cases w : j = i
        · rw [w]; exact e
        · exact z j (by omega) (by omega)
      · intro z j h1 h2
        exact z j (by omega) (by omega)
theorem rl_room {m c : Nat} (hm : m ≤ 150) (hc : c ≤ 12) : nI m + nI c ≤ 150 ↔ m + c ≤ 150 := by
  rw [nI_add]
  exact nI_leI (a := m + c) (b := 150) (by omega) (by decide)
theorem rl_try_no : ∀ (k i g : Nat), (∀ c, i ≤ c → c < i + k → ¬ md_can μ c = true) → md_try μ k i g = g
  | 0, _, _, _ => rfl
  | k + 1, i, g, h => by
    simp only [md_try]
    rw [if_neg (h i (Nat.le_refl _) (by omega)), rl_try_no k (i + 1) g (fun c h1 h2 => h c (by omega) (by omega))]
theorem rl_cb (hJ : rl_J μ) : ∀ (k i : Nat) (sm : Nat → Int64) (g : Nat), i + k ≤ 12 → μ.2.2.1 1 + i + k ≤ 150 → (∀ j, j < μ.2.2.1 0 → sm j = md_av μ (nI j) + md_nt μ i (md_z 10 (fun _ => 0)) j) → md_rk μ i 0 = true → ls_cb (rl_ab μ n C) k i sm g = md_try μ k (i + 1) g
  | 0, _, _, _, _, _, _, _ => rfl
  | k + 1, i, sm, g, h1, h2, h3, h4 => by
    have hi : i < 12 := by omega
    have hs : ∀ j, j < μ.2.2.1 0 → ls_sm2 (rl_ab μ n C) i sm j = md_av μ (nI j) + md_nt μ (i + 1) (md_z 10 (fun _ => 0)) j := fun j hj => rl_sm2 hJ hi (h3 j hj)
    simp only [ls_cb, md_try]
    rw [rl_rcv hJ hi]
    by_cases c : md_rcv μ (nI i) = 0
    · rw [if_neg (fun z => (rl_ge1 (rl_rcv0 hJ _)).mp z c)]
      have hno : ∀ q, i + 1 ≤ q → q < i + 1 + (k + 1) → ¬ md_can μ q = true := by
        intro q q1 q2 z
        unfold md_can at z
        by_cases w1 : nI (μ.2.2.1 1) + nI q ≤ 150
        · rw [if_pos w1] at z
          by_cases w2 : md_rk μ q 0 = true
          · exact (rl_rk q 0).mp w2 i (Nat.zero_le _) (by omega) c
          · rw [if_neg w2] at z; cases z
        · rw [if_neg w1] at z; cases z
      exact (rl_try_no (k + 1) (i + 1) g hno).symm
    · rw [if_pos ((rl_ge1 (rl_rcv0 hJ _)).mpr c)]
      have hrk : md_rk μ (i + 1) 0 = true := by
        rw [rl_rk]
        intro j z1 z2
        by_cases w : j = i
        · rw [w]; exact c
        · exact (rl_rk i 0).mp h4 j z1 (by omega)
      have hcan : md_can μ (i + 1) = md_ak μ (md_nt μ (i + 1) (md_z 10 (fun _ => 0))) (μ.2.2.1 0) 0 := by
        unfold md_can
        rw [if_pos ((rl_room hJ.1.2.1 (by omega)).mpr (by omega)), if_pos hrk]
      have hnn : ls_nn (ls_sm2 (rl_ab μ n C) i sm) (μ.2.2.1 0) 0 = md_can μ (i + 1) := by
        rw [hcan]
        exact rl_nn hJ.1.1 hs (μ.2.2.1 0) 0 (by omega)
      rw [show (rl_ab μ n C).2.1 0 = μ.2.2.1 0 from rfl, hnn]
      rw [rl_cb hJ k (i + 1) _ (i + 1) (by omega) (by omega) hs hrk, rl_cb hJ k (i + 1) _ g (by omega) (by omega) hs hrk]
theorem rl_try_app : ∀ (a b i g : Nat), md_try μ (a + b) i g = md_try μ b (i + a) (md_try μ a i g)
  | 0, b, i, g => by rw [Nat.zero_add]; rfl
  | a + 1, b, i, g => by
    rw [show a + 1 + b = (a + b) + 1 from by omega]
    simp only [md_try]
    rw [rl_try_app a b (i + 1) i, rl_try_app a b (i + 1) g, show i + 1 + a = i + (a + 1) from by omega]
    split <;> rfl
theorem rl_ctn : ∀ m, md_ctn μ m = md_try μ m 1 0
  | 0 => rfl
  | m + 1 => by
    rw [rl_try_app m 1 1 0]
    simp only [md_ctn, md_try]
    rw [Nat.add_comm 1 m, rl_ctn m]
theorem rl_cut (hJ : rl_J μ) : ls_cut (rl_ab μ n C) = md_ctn μ (μ.2.2.1 3) := by
  rw [rl_ctn]
  have hb : ls_bnd (rl_ab μ n C) = if 150 - μ.2.2.1 1 < μ.2.2.1 3 then 150 - μ.2.2.1 1 else μ.2.2.1 3 := rfl
  have h1 := hJ.1.2.1
  have h3 := hJ.1.2.2.2.1
  have h0 := hJ.1.1
  show ls_cb (rl_ab μ n C) (ls_bnd (rl_ab μ n C)) 0 (ls_fill (rl_ab μ n C) (μ.2.2.1 0) 0 (fun _ => 0)) 0 = _
  have hs : ∀ j, j < μ.2.2.1 0 → ls_fill (rl_ab μ n C) (μ.2.2.1 0) 0 (fun _ => 0) j = md_av μ (nI j) + md_nt μ 0 (md_z 10 (fun _ => 0)) j := by
    intro j hj
    rw [rl_fill hJ.1.2.2.1 _ _ _ (by omega) j, if_pos (by omega)]
    have : md_nt μ 0 (md_z 10 (fun _ => 0)) j = 0 := rl_z0 10 j (by omega)
    rw [this, Int64.add_zero]
  have hle : ls_bnd (rl_ab μ n C) ≤ μ.2.2.1 3 ∧ ls_bnd (rl_ab μ n C) ≤ 150 - μ.2.2.1 1 := by
    rw [hb]
    split <;> omega
  rw [rl_cb hJ _ 0 _ 0 (by omega) (by omega) hs rfl]
  obtain ⟨r, hr⟩ : ∃ r, μ.2.2.1 3 = ls_bnd (rl_ab μ n C) + r := ⟨μ.2.2.1 3 - ls_bnd (rl_ab μ n C), by omega⟩
  rw [hr, rl_try_app]
  refine (rl_try_no _ _ _ ?_).symm
  intro c z1 z2 z
  have hbb : ls_bnd (rl_ab μ n C) = 150 - μ.2.2.1 1 := by
    rw [hb] at z1 z2 hr ⊢
    split at z2
    · rw [if_pos (by assumption)]
    · rename_i w
      rw [if_neg w] at hr z1
      omega
  unfold md_can at z
  rw [if_neg (fun w => by have := (rl_room (m := μ.2.2.1 1) (c := c) h1 (by omega)).mp w; omega)] at z
  cases z
theorem rl_can (hJ : rl_J μ) {c : Nat} (hc : c ≤ 12) : ls_can (rl_ab μ n C) c = md_can μ c := by
  have hro : ∀ (k i : Nat), i + k ≤ 12 → ls_rok (rl_ab μ n C) k i = md_rk μ k i := by
    intro k
    induction k with
    | zero => intro i _; rfl
    | succ k ih =>
      intro i hi
      simp only [ls_rok, md_rk]
      rw [rl_rcv hJ (by omega), ih (i + 1) (by omega)]
      by_cases e : md_rcv μ (nI i) = 0
      · rw [if_pos e, if_neg (fun z => (rl_ge1 (rl_rcv0 hJ _)).mp z e)]
      · rw [if_neg e, if_pos ((rl_ge1 (rl_rcv0 hJ _)).mpr e)]
  have hao : ∀ (k i : Nat), i + k ≤ 10 → ls_aok (rl_ab μ n C) c k i = md_ak μ (md_nt μ c (md_z 10 (fun _ => 0))) k i := by
    intro k
    induction k with
    | zero => intro i _; rfl
    | succ k ih =>
      intro i hi
      have hv : vp_in (nI i) 10 := vp_in_nI (by omega) (by decide)
      have hz : md_z 10 (fun _ => 0) (nI i).toNatClampNeg = 0 := rl_z0 10 _ (vp_in_lt hv)
      simp only [ls_aok, md_ak]
      rw [rl_av hJ.1.2.2.1 hv, rl_nof hJ hv hz c hc, ih (i + 1) (by omega), nI_clamp (by omega)]
  unfold ls_can md_can
  rw [hro c 0 (by omega)]
  show (if nI (μ.2.2.1 1) + nI c ≤ 150 then (if md_rk μ c 0 = true then ls_aok (rl_ab μ n C) c (μ.2.2.1 0) 0 else false) else false) = _
  rw [hao (μ.2.2.1 0) 0 (by have := hJ.1.1; omega)]
theorem rl_try (hJ : rl_J μ) : ∀ (k i g : Nat), i + k ≤ 13 → ls_try (rl_ab μ n C) k i g = md_try μ k i g
  | 0, _, _, _ => rfl
  | k + 1, i, g, h => by
    simp only [ls_try, md_try]
    rw [rl_can hJ (by omega), rl_try hJ k (i + 1) i (by omega), rl_try hJ k (i + 1) g (by omega)]
theorem rl_stl1 (hJ : rl_J μ) {i : Nat} (hi : i < μ.2.2.1 3) (hm : μ.2.2.1 1 < 150) : ls_stl1 (rl_ab μ n C) i = rl_ab (md_sl1 μ i) n C ∧ rl_J (md_sl1 μ i) := by
  have hi12 : i < 12 := Nat.lt_of_lt_of_le hi hJ.1.2.2.2.1
  have hJ' := hJ
  obtain ⟨⟨-, -, -, -, -, cu, -, -, -, -, -, -, b19, b20⟩, hI⟩ := hJ
  have ha := hI.2.2.2.2.2.2.2.2.2.1 i
  have hr := rl_rng (x := μ.1 19 i) (y := μ.1 20 i) hI cu ha.1 ha.2
  have hb : ∀ {z : Int32}, z = -1 → ¬ vp_in z 10 := fun e w => vp_in_ge w (by rw [e]; decide)
  have e1 : md_rcv μ (nI i) = md_recv μ (μ.1 19 i) (μ.1 20 i) (μ.1 21 i) := by
    unfold md_rcv
    rw [nI_clamp (by omega)]
  unfold ls_stl1 md_sl1
  rw [rl_ii (k := 18) (N := 0) (f := μ.1 19) hi12 rfl (by decide), rl_ii (k := 19) (N := 0) (f := μ.1 20) hi12 rfl (by decide), rl_ii (k := 20) (N := 0) (f := μ.1 21) hi12 rfl (by decide), rl_recv hI cu (b19 i) (b20 i), e1]
  exact ⟨rl_post hm (Or.inr (b19 i)) (Or.inr (b20 i)) (fun z => hb z.1 (b19 i)) ha.1 hr.1 cu, hJ'.mks hm (Or.inr (b19 i)) (Or.inr (b20 i)) (hI.2.2.2.2.2.2.2.2.2.2 i hi) ⟨ha.1, Int32.le_trans ha.2 (by decide)⟩ hr⟩
theorem rl_sl : ∀ (k i : Nat) (τ : LMt), rl_J τ → i + k ≤ τ.2.2.1 3 → τ.2.2.1 1 + k ≤ 150 → ls_stl k i (rl_ab τ n C) = rl_ab (md_sl k i τ) n C ∧ rl_J (md_sl k i τ) ∧ (∀ q, (q < 7 ∨ 13 < q) → (md_sl k i τ).1 q = τ.1 q) ∧ (md_sl k i τ).2.2.1 = va_up τ.2.2.1 1 (τ.2.2.1 1 + k)
  | 0, i, τ, hJ, _, _ => ⟨rfl, hJ, fun _ _ => rfl, by funext j; unfold va_up; by_cases e : j = 1 <;> simp [md_sl, e]⟩
  | k + 1, i, τ, hJ, h1, h2 => by
    obtain ⟨e1, e2⟩ := rl_stl1 (n := n) (C := C) hJ (i := i) (by omega) (by omega)
    have hN : (md_sl1 τ i).2.2.1 = va_up τ.2.2.1 1 (τ.2.2.1 1 + 1) := md_makes_N
    obtain ⟨a1, a2, a3, a4⟩ := rl_sl k (i + 1) (md_sl1 τ i) e2 (by rw [hN]; show i + 1 + k ≤ τ.2.2.1 3; omega) (by rw [hN]; show τ.2.2.1 1 + 1 + k ≤ 150; omega)
    refine ⟨?_, a2, ?_, ?_⟩
    · show ls_stl k (i + 1) (ls_stl1 (rl_ab τ n C) i) = _
      rw [e1, a1]
      rfl
    · intro q hq
      exact (a3 q hq).trans (md_makes_I hq)
    · refine a4.trans ?_
      rw [hN]
      funext j
      unfold va_up
      by_cases e : j = 1
      · subst e
        simp only [if_true]
        omega
      · simp only [if_neg e]
end RC
