/-! PART 25: what the reference keeps, kept -/
def rl_J (μ : LMt) : Prop := MInv μ ∧ rl_I μ
theorem rl_all {P : Int32 → Prop} {f : Nat → Int32} {m : Nat} {v : Int32} (h : ∀ i, P (f i)) (hv : P v) : ∀ i, P (upd f m v i) := by
  intro i
  unfold upd
  split
  · exact hv
  · exact h i
theorem rl_pair {f g : Nat → Int32} {m k : Nat} {x y : Int32} (h : ∀ i, i < k → ¬ f i = g i) (hm : k ≤ m ∨ True) (hv : ¬ x = y) : ∀ i, (i < k ∨ i = m) → ¬ upd f m x i = upd g m y i := by
  intro i hi
  unfold upd
  by_cases e : i = m
  · rw [if_pos e, if_pos e]; exact hv
  · rw [if_neg e, if_neg e]; exact h i (hi.resolve_right e)
theorem rl_J.of {μ τ : LMt} (h : rl_J μ) (h1 : τ.1 = μ.1) (h2 : τ.2.2.1 = μ.2.2.1) : rl_J τ := by
  obtain ⟨a, b, c, d⟩ := τ
  obtain ⟨a', b', c', d'⟩ := μ
  cases h1
  cases h2
  exact h
theorem rl_J.sT {μ : LMt} (h : rl_J μ) (v : Int32) : rl_J (lm_T μ v) := h.of rfl rfl
theorem rl_J.sJ {μ : LMt} (h : rl_J μ) (k : Nat) (f : Nat → Int64) : rl_J (lm_J μ k f) := h.of rfl rfl
theorem rl_J.s1 {μ : LMt} (h : rl_J μ) (f : Nat → Int32) : rl_J (lm_I μ 1 f) := h
theorem rl_J.s14 {μ : LMt} (h : rl_J μ) (f : Nat → Int32) : rl_J (lm_I μ 14 f) := h
theorem rl_J.s22 {μ : LMt} (h : rl_J μ) (f : Nat → Int32) : rl_J (lm_I μ 22 f) := h
theorem rl_J.rmb {μ : LMt} (h : rl_J μ) (v k m a b c d : Int32) : rl_J (md_rmb μ v k m a b c d) := h
theorem rl_J.s2 {μ : LMt} (h : rl_J μ) {m : Nat} {v : Int32} (h1 : 100 ≤ v) (h2 : v ≤ 1000) : rl_J (lm_I μ 2 (upd (μ.1 2) m v)) := by
  obtain ⟨⟨b0, b1, b2, b3, b4, cu, ra, p8, p9, pp, h15, h16, b19, b20⟩, i1, i2, i3, i4, i5, i6, i7, i8, i9, i10, i11⟩ := h
  refine ⟨⟨b0, b1, b2, b3, b4, cu, ?_, p8, p9, pp, h15, h16, b19, b20⟩, ?_, i2, i3, i4, i5, i6, i7, i8, i9, i10, i11⟩
  · intro i hi
    show ¬ (upd (μ.1 2) m v i).toInt64 = 0
    unfold upd
    split
    · intro z
      have z1 : v = 0 := rl_eq64.mp z
      rw [z1] at h1
      exact absurd h1 (by decide)
    · exact ra i hi
  · intro i hi
    show 100 ≤ upd (μ.1 2) m v i ∧ upd (μ.1 2) m v i ≤ 1000
    unfold upd
    split
    · exact ⟨h1, h2⟩
    · exact i1 i hi
theorem rl_J.opn {μ : LMt} (h : rl_J μ) {x y : Int32} (hm : μ.2.2.1 0 < 10) (hx : vp_in x 4) : rl_J (lm_N (lm_I (lm_I μ 0 (upd (μ.1 0) (μ.2.2.1 0) x)) 1 (upd (μ.1 1) (μ.2.2.1 0) y)) 0 (μ.2.2.1 0 + 1)) := by
  obtain ⟨⟨b0, b1, b2, b3, b4, cu, ra, p8, p9, pp, h15, h16, b19, b20⟩, hI⟩ := h
  exact ⟨⟨hm, b1, b2, b3, b4, rl_all (P := fun v => vp_in v 4) cu hx, ra, p8, p9, pp, h15, h16, b19, b20⟩, hI⟩
theorem rl_J.mk4 {μ : LMt} (h : rl_J μ) {kd x y p r : Int32} (hm : μ.2.2.1 1 < 150) (hx : x = -1 ∨ vp_in x 10) (hy : y = -1 ∨ vp_in y 10) (hxy : ¬ x = y) (hp : 0 ≤ p ∧ p ≤ 10000000) (hr : 0 ≤ r ∧ r ≤ 10000000) : rl_J (md_mk4 μ kd x y p r) := by
  obtain ⟨⟨b0, b1, b2, b3, b4, cu, ra, p8, p9, pp, h15, h16, b19, b20⟩, i1, i2, i3, i4, i5, i6, i7, i8, i9, i10, i11⟩ := h
  have hx1 : ¬ x < 0 → vp_in x 10 := fun z => hx.resolve_left (fun e => z (by rw [e]; decide))
  have hy1 : ¬ y < 0 → vp_in y 10 := fun z => hy.resolve_left (fun e => z (by rw [e]; decide))
  have hn : ∀ {z : Int32}, vp_in z 10 → 0 ≤ z := fun w => Int32.not_lt.mp (vp_in_ge w)
  refine ⟨⟨b0, hm, b2, b3, b4, cu, ra, rl_all (P := fun v => ¬ v < 0 → vp_in v 10) p8 hx1, rl_all (P := fun v => ¬ v < 0 → vp_in v 10) p9 hy1, ?_, h15, h16, b19, b20⟩, i1, rl_all (P := fun v => 0 ≤ v ∧ v ≤ 10000000) i2 hp, rl_all (P := fun v => 0 ≤ v ∧ v ≤ 10000000) i3 hr, rl_all (P := fun v => v = -1 ∨ 0 ≤ v) i4 (hx.imp_right hn), rl_all (P := fun v => v = -1 ∨ 0 ≤ v) i5 (hy.imp_right hn), ?_, rl_all (P := fun v => v = -1 ∨ 0 ≤ v) i7 (Or.inl rfl), i8, i9, i10, i11⟩
  · intro i
    show ¬ (upd (μ.1 8) (μ.2.2.1 1) x i < 0 ∧ upd (μ.1 9) (μ.2.2.1 1) y i < 0)
    unfold upd
    by_cases e : i = μ.2.2.1 1
    · rw [if_pos e, if_pos e]
      rintro ⟨z1, z2⟩
      refine hxy ?_
      rw [hx.resolve_right (fun w => vp_in_ge w z1), hy.resolve_right (fun w => vp_in_ge w z2)]
    · rw [if_neg e, if_neg e]; exact pp i
  · intro i hi
    have hi : i < μ.2.2.1 1 + 1 := hi
    exact rl_pair i6 (Or.inr trivial) hxy i (by omega)
theorem rl_J.mks {μ : LMt} (h : rl_J μ) {kd x y p r : Int32} (hm : μ.2.2.1 1 < 150) (hx : x = -1 ∨ vp_in x 10) (hy : y = -1 ∨ vp_in y 10) (hxy : ¬ x = y) (hp : 0 ≤ p ∧ p ≤ 10000000) (hr : 0 ≤ r ∧ r ≤ 10000000) : rl_J (md_makes μ kd x y p r) :=
  rl_J.mk4 (h.of md_mk_1.1 md_mk_1.2) (by rw [md_mk_1.2]; exact hm) hx hy hxy hp hr
theorem rl_J.hds {μ : LMt} (h : rl_J μ) {x y v d : Int32} (hm : μ.2.2.1 2 < 30) (hx : vp_in x 10) (hy : vp_in y 10) (hxy : ¬ x = y) (hv : 0 ≤ v ∧ v ≤ 1000000) : rl_J (md_hds μ x y v d) := by
  obtain ⟨⟨b0, b1, b2, b3, b4, cu, ra, p8, p9, pp, h15, h16, b19, b20⟩, i1, i2, i3, i4, i5, i6, i7, i8, i9, i10, i11⟩ := h
  refine ⟨⟨b0, b1, hm, b3, b4, cu, ra, p8, p9, pp, rl_all (P := fun v => vp_in v 10) h15 hx, rl_all (P := fun v => vp_in v 10) h16 hy, b19, b20⟩, i1, i2, i3, i4, i5, i6, i7, rl_all (P := fun v => 0 ≤ v ∧ v ≤ 1000000) i8 hv, ?_, i10, i11⟩
  intro i hi
  have hi : i < μ.2.2.1 2 + 1 := hi
  exact rl_pair i9 (Or.inr trivial) hxy i (by omega)
theorem rl_J.pay {μ : LMt} (h : rl_J μ) {x y v : Int32} (hm : μ.2.2.1 3 < 12) (hx : vp_in x 10) (hy : vp_in y 10) (hxy : ¬ x = y) (hv : 0 ≤ v ∧ v ≤ 1000000) : rl_J (lm_N (lm_I (lm_I (lm_I μ 19 (upd (μ.1 19) (μ.2.2.1 3) x)) 20 (upd (μ.1 20) (μ.2.2.1 3) y)) 21 (upd (μ.1 21) (μ.2.2.1 3) v)) 3 (μ.2.2.1 3 + 1)) := by
  obtain ⟨⟨b0, b1, b2, b3, b4, cu, ra, p8, p9, pp, h15, h16, b19, b20⟩, i1, i2, i3, i4, i5, i6, i7, i8, i9, i10, i11⟩ := h
  refine ⟨⟨b0, b1, b2, hm, b4, cu, ra, p8, p9, pp, h15, h16, rl_all (P := fun v => vp_in v 10) b19 hx, rl_all (P := fun v => vp_in v 10) b20 hy⟩, i1, i2, i3, i4, i5, i6, i7, i8, i9, rl_all (P := fun v => 0 ≤ v ∧ v ≤ 1000000) i10 hv, ?_⟩
  intro i hi
  have hi : i < μ.2.2.1 3 + 1 := hi
  exact rl_pair i11 (Or.inr trivial) hxy i (by omega)
theorem rl_J.tk3 {μ : LMt} (h : rl_J μ) {mn i : Nat} (hi : i + mn < μ.2.2.1 3) : rl_J (md_tk1 mn i (md_tk1 mn i (md_tk1 mn i μ 19) 20) 21) := by
  obtain ⟨⟨b0, b1, b2, b3, b4, cu, ra, p8, p9, pp, h15, h16, b19, b20⟩, i1, i2, i3, i4, i5, i6, i7, i8, i9, i10, i11⟩ := h
  refine ⟨⟨b0, b1, b2, b3, b4, cu, ra, p8, p9, pp, h15, h16, rl_all (P := fun v => vp_in v 10) b19 (b19 (i + mn)), rl_all (P := fun v => vp_in v 10) b20 (b20 (i + mn))⟩, i1, i2, i3, i4, i5, i6, i7, i8, i9, rl_all (P := fun v => 0 ≤ v ∧ v ≤ 1000000) i10 (i10 (i + mn)), ?_⟩
  intro j hj
  exact rl_pair i11 (Or.inr trivial) (i11 (i + mn) hi) j (Or.inl hj)
theorem rl_J.tk {mn : Nat} : ∀ (k i : Nat) {μ : LMt}, rl_J μ → i + mn + k ≤ μ.2.2.1 3 → rl_J (md_tk mn k i μ)
  | 0, _, _, h, _ => h
  | k + 1, i, μ, h, hk => rl_J.tk k (i + 1) (h.tk3 (by omega)) (show i + 1 + mn + k ≤ μ.2.2.1 3 by omega)
theorem rl_J.n3 {μ : LMt} (h : rl_J μ) {v : Nat} (hv : v ≤ μ.2.2.1 3) : rl_J (lm_N μ 3 v) := by
  obtain ⟨⟨b0, b1, b2, b3, b4, cu, ra, p8, p9, pp, h15, h16, b19, b20⟩, i1, i2, i3, i4, i5, i6, i7, i8, i9, i10, i11⟩ := h
  exact ⟨⟨b0, b1, b2, Nat.le_trans hv b3, b4, cu, ra, p8, p9, pp, h15, h16, b19, b20⟩, i1, i2, i3, i4, i5, i6, i7, i8, i9, i10, fun i hi => i11 i (Nat.lt_of_lt_of_le hi hv)⟩
theorem rl_tk_z {mn : Nat} : ∀ (k i : Nat) (μ : LMt), (md_tk mn k i μ).2.2 = μ.2.2
  | 0, _, _ => rfl
  | k + 1, i, μ => rl_tk_z k (i + 1) (md_tk1 mn i (md_tk1 mn i (md_tk1 mn i μ 19) 20) 21)
theorem rl_J.out {μ : LMt} (h : rl_J μ) {ix cn : Nat} (hc : ix + cn ≤ μ.2.2.1 3) : rl_J (md_out μ ix cn) := by
  unfold md_out
  rw [rl_tkN]
  refine rl_J.n3 (h.tk _ _ (by omega)) ?_
  rw [rl_tk_z]
  omega
theorem rl_J.n4 {μ : LMt} (h : rl_J μ) {v : Nat} (hv : v < 2 ^ 29) : rl_J (lm_N μ 4 v) := by
  obtain ⟨⟨b0, b1, b2, b3, b4, cu, ra, p8, p9, pp, h15, h16, b19, b20⟩, i1, i2, i3, i4, i5, i6, i7, i8, i9, i10, i11⟩ := h
  exact ⟨⟨b0, b1, b2, b3, hv, cu, ra, p8, p9, pp, h15, h16, b19, b20⟩, i1, i2, i3, i4, i5, i6, i7, i8, i9, i10, i11⟩
theorem rl_J.ex {D : Nat} : ∀ (k i : Nat) {μ : LMt} (c : Nat), rl_J μ → rl_J (md_ex D k i μ c).1
  | 0, _, _, _, h => h
  | k + 1, i, μ, c, h => by
    simp only [md_ex]
    split
    · split
      · exact rl_J.ex k (i + 1) (c + 1) (h.s14 _)
      · exact rl_J.ex k (i + 1) c h
    · exact rl_J.ex k (i + 1) c h
theorem rl_J.fg {D : Nat} : ∀ (k i : Nat) {μ : LMt}, rl_J μ → rl_J (md_fg D k i μ)
  | 0, _, _, h => h
  | k + 1, i, μ, h => rl_J.fg k (i + 1) (h.s22 _)
/-- what is received lies in a range -/
theorem rl_rng {μ : LMt} {x y v : Int32} (hI : rl_I μ) (hc : ∀ i, vp_in (μ.1 0 i) 4) (h0 : 0 ≤ v) (h1 : v ≤ 1000000) : 0 ≤ md_recv μ x y v ∧ md_recv μ x y v ≤ 10000000 := by
  unfold md_recv
  split
  · exact ⟨h0, Int32.le_trans h1 (by decide)⟩
  · obtain ⟨a1, a2⟩ := hI.1 _ (vp_in_lt (hc x.toNatClampNeg))
    obtain ⟨b1, b2⟩ := hI.1 _ (vp_in_lt (hc y.toNatClampNeg))
    revert a1 a2 b1 b2
    generalize μ.1 2 (μ.1 0 x.toNatClampNeg).toNatClampNeg = ra
    generalize μ.1 2 (μ.1 0 y.toNatClampNeg).toNatClampNeg = rb
    intro a1 a2 b1 b2
    have z0 : (0 : Int32).toInt = 0 := rfl
    have zA : (100 : Int32).toInt = 100 := rfl
    have zB : (1000 : Int32).toInt = 1000 := rfl
    have zC : (1000000 : Int32).toInt = 1000000 := rfl
    have zD : (10000000 : Int32).toInt = 10000000 := rfl
    rw [Int32.le_iff_toInt_le] at h0 h1 a1 a2 b1 b2
    rw [z0] at h0
    rw [zC] at h1
    rw [zA] at a1 b1
    rw [zB] at a2 b2
    have hp0 : 0 ≤ v.toInt * ra.toInt := Int.mul_nonneg h0 (by omega)
    have hp1 : v.toInt * ra.toInt ≤ 1000000 * 1000 := Int.mul_le_mul h1 a2 (by omega) (by decide)
    have hq0 : 0 ≤ v.toInt * ra.toInt / rb.toInt := Int.ediv_nonneg hp0 (by omega)
    have hq1 : v.toInt * ra.toInt / rb.toInt ≤ 10000000 := Int.ediv_le_of_le_mul (by omega) (by omega)
    have e1 : (v.toInt64 * ra.toInt64).toInt = v.toInt * ra.toInt := by
      rw [Int64.toInt_mul, Int32.toInt_toInt64, Int32.toInt_toInt64, Int.bmod_eq_of_le (by omega) (by omega)]
    have e2 : (v.toInt64 * ra.toInt64 / rb.toInt64).toInt = v.toInt * ra.toInt / rb.toInt := by
      rw [Int64.toInt_div, e1, Int32.toInt_toInt64, Int.tdiv_eq_ediv_of_nonneg hp0, Int.bmod_eq_of_le (by omega) (by omega)]
    have e3 : (v.toInt64 * ra.toInt64 / rb.toInt64).toInt32.toInt = v.toInt * ra.toInt / rb.toInt := by
      rw [Int64.toInt_toInt32, e2, Int.bmod_eq_of_le (by omega) (by omega)]
    rw [Int32.le_iff_toInt_le, Int32.le_iff_toInt_le, e3, z0, zD]
    exact ⟨hq0, hq1⟩
theorem rl_J.s13 {μ : LMt} (h : rl_J μ) {m : Nat} {v : Int32} (hv : v = -1 ∨ 0 ≤ v) : rl_J (lm_I μ 13 (upd (μ.1 13) m v)) := by
  obtain ⟨⟨b0, b1, b2, b3, b4, cu, ra, p8, p9, pp, h15, h16, b19, b20⟩, i1, i2, i3, i4, i5, i6, i7, i8, i9, i10, i11⟩ := h
  exact ⟨⟨b0, b1, b2, b3, b4, cu, ra, p8, p9, pp, h15, h16, b19, b20⟩, i1, i2, i3, i4, i5, i6, rl_all (P := fun v => v = -1 ∨ 0 ≤ v) i7 hv, i8, i9, i10, i11⟩
