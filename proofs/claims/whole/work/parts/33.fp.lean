/-! PART 33: the quotients are numbers -/
theorem fp_rr {f : FP.Core.Fmt} {s : Bool} {a b : Nat} {e : Int} : FP.Core.roundRatio f s a b e ≠ .nan := by
  unfold FP.Core.roundRatio
  split
  · exact fun h => nomatch h
  · unfold FP.Core.roundAt FP.Core.settle FP.Core.bound
    split
    · split <;> exact fun h => nomatch h
    · split <;> exact fun h => nomatch h
theorem fp_rd {f : FP.Core.Fmt} {d : FP.Core.Datum} (h : d ≠ .nan) : FP.Core.round f d ≠ .nan := by
  cases d with
  | nan => exact absurd rfl h
  | inf s => exact fun h => nomatch h
  | fin s c q => exact fp_rr
/-- a number that is no zero -/
def fp_nz : FP.Core.Datum → Bool
  | .fin _ d _ => decide (d ≠ 0)
  | _ => false
theorem fp_qu {f : FP.Core.Fmt} {d e : FP.Core.Datum} (h1 : d ≠ .nan) (h2 : fp_nz e = true) : FP.Core.quotient f d e ≠ .nan := by
  cases e with
  | nan => cases h2
  | inf s => cases h2
  | fin t x r =>
    have hx : x ≠ 0 := of_decide_eq_true h2
    cases d with
    | nan => exact absurd rfl h1
    | inf s => exact fun h => nomatch h
    | fin s c q =>
      show (if x = 0 then (if c = 0 then FP.Core.Datum.nan else .inf (s != t)) else FP.Core.roundRatio f (s != t) c x (q - r)) ≠ .nan
      rw [if_neg hx]
      exact fp_rr
theorem fp_v64 {x : UInt64} (h : FP.Core.val64 x ≠ .nan) : vf_n64 x := by
  unfold vf_n64
  rw [UInt64.le_iff_toNat_le, UInt64.toNat_and]
  have e1 : (0x7fffffffffffffff : UInt64).toNat = 2 ^ 63 - 1 := rfl
  have e2 : (0x7ff0000000000000 : UInt64).toNat = 2047 * 2 ^ 52 := rfl
  rw [e1, e2, Nat.and_two_pow_sub_one_eq_mod]
  unfold FP.Core.val64 FP.Core.decode at h
  have t1 : FP.Core.fieldE FP.Core.b64 x.toNat = x.toNat / 2 ^ 52 % 2 ^ 11 := rfl
  have t2 : FP.Core.fieldT FP.Core.b64 x.toNat = x.toNat % 2 ^ 52 := rfl
  have t3 : FP.Core.b64.exps - 1 = 2047 := rfl
  rw [t1, t2, t3] at h
  by_cases c1 : x.toNat / 2 ^ 52 % 2 ^ 11 = 2047
  · rw [if_pos c1] at h
    by_cases c2 : x.toNat % 2 ^ 52 = 0
    · omega
    · rw [if_neg c2] at h
      exact absurd rfl h
  · omega
theorem fp_v32 {x : UInt32} (h : FP.Core.val32 x ≠ .nan) : vf_n32 x := by
  unfold vf_n32
  rw [UInt32.le_iff_toNat_le, UInt32.toNat_and]
  have e1 : (0x7fffffff : UInt32).toNat = 2 ^ 31 - 1 := rfl
  have e2 : (0x7f800000 : UInt32).toNat = 255 * 2 ^ 23 := rfl
  rw [e1, e2, Nat.and_two_pow_sub_one_eq_mod]
  unfold FP.Core.val32 FP.Core.decode at h
  have t1 : FP.Core.fieldE FP.Core.b32 x.toNat = x.toNat / 2 ^ 23 % 2 ^ 8 := rfl
  have t2 : FP.Core.fieldT FP.Core.b32 x.toNat = x.toNat % 2 ^ 23 := rfl
  have t3 : FP.Core.b32.exps - 1 = 255 := rfl
  rw [t1, t2, t3] at h
  by_cases c1 : x.toNat / 2 ^ 23 % 2 ^ 8 = 255
  · rw [if_pos c1] at h
    by_cases c2 : x.toNat % 2 ^ 23 = 0
    · omega
    · rw [if_neg c2] at h
      exact absurd rfl h
  · omega
theorem fp_oi (i : Int) : FP.Core.ofInt i ≠ .nan := fun h => nomatch h
theorem fp_c64 : ∀ n : Fin 151, n.val ≠ 0 → fp_nz (FP.Core.val64 (FP.Core.i2d (nI n.val))) = true := by decide +kernel
theorem fp_c32 : ∀ n : Fin 151, n.val ≠ 0 → fp_nz (FP.Core.val32 (FP.Core.i2f (nI n.val))) = true := by decide +kernel
theorem fp_mean {S : Int64} {n : Nat} (h1 : 1 ≤ n) (h2 : n ≤ 150) : vf_n64 (FP.ddiv (FP.l2d S) (FP.i2d (nI n))) ∧ FP.dcmp (FP.ddiv (FP.l2d S) (FP.i2d (nI n))) (FP.ddiv (FP.l2d S) (FP.i2d (nI n))) = some .eq := by
  have h : FP.Core.val64 (FP.Core.ddiv (FP.Core.l2d S) (FP.Core.i2d (nI n))) ≠ .nan := by
    rw [FP.Core.val64_ddiv, FP.Core.val64_l2d]
    exact fp_qu (fp_rd (fp_oi _)) (fp_c64 ⟨n, by omega⟩ (by show n ≠ 0; omega))
  exact ⟨fp_v64 h, FP.Core.dcmp_self h⟩
theorem fp_share {c : Int32} {n : Nat} (h1 : 1 ≤ n) (h2 : n ≤ 150) : vf_n32 (FP.fdiv (FP.i2f c) (FP.i2f (nI n))) ∧ vf_n64 (FP.f2d (FP.fdiv (FP.i2f c) (FP.i2f (nI n)))) ∧ FP.dcmp (FP.f2d (FP.fdiv (FP.i2f c) (FP.i2f (nI n)))) (FP.f2d (FP.fdiv (FP.i2f c) (FP.i2f (nI n)))) = some .eq := by
  have h : FP.Core.val32 (FP.Core.fdiv (FP.Core.i2f c) (FP.Core.i2f (nI n))) ≠ .nan := by
    rw [FP.Core.val32_fdiv, FP.Core.val32_i2f]
    exact fp_qu (fp_rd (fp_oi _)) (fp_c32 ⟨n, by omega⟩ (by show n ≠ 0; omega))
  have e : FP.f2d (FP.fdiv (FP.i2f c) (FP.i2f (nI n))) = FP.Core.f2d (FP.Core.fdiv (FP.Core.i2f c) (FP.Core.i2f (nI n))) := by
    show (if FP.Core.fIsNaN (FP.Core.fdiv (FP.Core.i2f c) (FP.Core.i2f (nI n))) = true then _ else FP.Core.f2d (FP.Core.fdiv (FP.Core.i2f c) (FP.Core.i2f (nI n)))) = _
    rw [if_neg (fun z => h ((FP.Core.fIsNaN_iff _).mp z))]
  have h64 : FP.Core.val64 (FP.Core.f2d (FP.Core.fdiv (FP.Core.i2f c) (FP.Core.i2f (nI n)))) ≠ .nan := by
    rw [FP.Core.val64_f2d]
    exact fp_rd h
  rw [e]
  exact ⟨fp_v32 h, fp_v64 h64, FP.Core.dcmp_self h64⟩
