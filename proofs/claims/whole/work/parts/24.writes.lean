/-! PART 24: the class's writes are the reference's -/
section RW
variable {μ : LMt} {n : Nat} {C : Nat → Nat → Int32}
theorem rl_T {v : Int32} : rl_ab (lm_T μ v) n C = rl_ab μ n C := rfl
theorem rl_j6 {f : Nat → Int64} : rl_ab (lm_J μ 6 f) n C = rl_ab μ n C := by
  refine Prod.ext ?_ rfl
  funext q; rcases q with _ | _ | _ | _ | _ | _ | _ | _ | _ | _ | _ | _ | _ | _ | _ | _ | _ | _ | _ | _ | _ | q <;> rfl
theorem rl_wJ2 {f : Nat → Int64} : ls_row (rl_ab μ n C) 2 f = rl_ab (lm_J μ 3 f) n C := by
  refine Prod.ext ?_ rfl
  funext q; rcases q with _ | _ | _ | _ | _ | _ | _ | _ | _ | _ | _ | _ | _ | _ | _ | _ | _ | _ | _ | _ | _ | q <;> rfl
theorem rl_wJ3 {f : Nat → Int64} : ls_row (rl_ab μ n C) 3 f = rl_ab (lm_J μ 4 f) n C := by
  refine Prod.ext ?_ rfl
  funext q; rcases q with _ | _ | _ | _ | _ | _ | _ | _ | _ | _ | _ | _ | _ | _ | _ | _ | _ | _ | _ | _ | _ | q <;> rfl
theorem rl_wJ4 {f : Nat → Int64} : ls_row (rl_ab μ n C) 4 f = rl_ab (lm_J μ 5 f) n C := by
  refine Prod.ext ?_ rfl
  funext q; rcases q with _ | _ | _ | _ | _ | _ | _ | _ | _ | _ | _ | _ | _ | _ | _ | _ | _ | _ | _ | _ | _ | q <;> rfl
theorem rl_wI0 {f : Nat → Int32} : ls_row (rl_ab μ n C) 0 (fun i => (f i).toInt64) = rl_ab (lm_I μ 0 f) n C := by
  refine Prod.ext ?_ rfl
  funext q; rcases q with _ | _ | _ | _ | _ | _ | _ | _ | _ | _ | _ | _ | _ | _ | _ | _ | _ | _ | _ | _ | _ | q <;> rfl
theorem rl_wI1 {f : Nat → Int32} : ls_row (rl_ab μ n C) 1 (fun i => (f i).toInt64) = rl_ab (lm_I μ 1 f) n C := by
  refine Prod.ext ?_ rfl
  funext q; rcases q with _ | _ | _ | _ | _ | _ | _ | _ | _ | _ | _ | _ | _ | _ | _ | _ | _ | _ | _ | _ | _ | q <;> rfl
theorem rl_wI5 {f : Nat → Int32} : ls_row (rl_ab μ n C) 5 (fun i => (f i).toInt64) = rl_ab (lm_I μ 2 f) n C := by
  refine Prod.ext ?_ rfl
  funext q; rcases q with _ | _ | _ | _ | _ | _ | _ | _ | _ | _ | _ | _ | _ | _ | _ | _ | _ | _ | _ | _ | _ | q <;> rfl
theorem rl_wI6 {f : Nat → Int32} : ls_row (rl_ab μ n C) 6 (fun i => (f i).toInt64) = rl_ab (lm_I μ 7 f) n C := by
  refine Prod.ext ?_ rfl
  funext q; rcases q with _ | _ | _ | _ | _ | _ | _ | _ | _ | _ | _ | _ | _ | _ | _ | _ | _ | _ | _ | _ | _ | q <;> rfl
theorem rl_wI7 {f : Nat → Int32} : ls_row (rl_ab μ n C) 7 (fun i => (f i).toInt64) = rl_ab (lm_I μ 8 f) n C := by
  refine Prod.ext ?_ rfl
  funext q; rcases q with _ | _ | _ | _ | _ | _ | _ | _ | _ | _ | _ | _ | _ | _ | _ | _ | _ | _ | _ | _ | _ | q <;> rfl
theorem rl_wI8 {f : Nat → Int32} : ls_row (rl_ab μ n C) 8 (fun i => (f i).toInt64) = rl_ab (lm_I μ 9 f) n C := by
  refine Prod.ext ?_ rfl
  funext q; rcases q with _ | _ | _ | _ | _ | _ | _ | _ | _ | _ | _ | _ | _ | _ | _ | _ | _ | _ | _ | _ | _ | q <;> rfl
theorem rl_wI9 {f : Nat → Int32} : ls_row (rl_ab μ n C) 9 (fun i => (f i).toInt64) = rl_ab (lm_I μ 10 f) n C := by
  refine Prod.ext ?_ rfl
  funext q; rcases q with _ | _ | _ | _ | _ | _ | _ | _ | _ | _ | _ | _ | _ | _ | _ | _ | _ | _ | _ | _ | _ | q <;> rfl
theorem rl_wI10 {f : Nat → Int32} : ls_row (rl_ab μ n C) 10 (fun i => (f i).toInt64) = rl_ab (lm_I μ 11 f) n C := by
  refine Prod.ext ?_ rfl
  funext q; rcases q with _ | _ | _ | _ | _ | _ | _ | _ | _ | _ | _ | _ | _ | _ | _ | _ | _ | _ | _ | _ | _ | q <;> rfl
theorem rl_wI11 {f : Nat → Int32} : ls_row (rl_ab μ n C) 11 (fun i => (f i).toInt64) = rl_ab (lm_I μ 12 f) n C := by
  refine Prod.ext ?_ rfl
  funext q; rcases q with _ | _ | _ | _ | _ | _ | _ | _ | _ | _ | _ | _ | _ | _ | _ | _ | _ | _ | _ | _ | _ | q <;> rfl
theorem rl_wI12 {f : Nat → Int32} : ls_row (rl_ab μ n C) 12 (fun i => (f i).toInt64) = rl_ab (lm_I μ 13 f) n C := by
  refine Prod.ext ?_ rfl
  funext q; rcases q with _ | _ | _ | _ | _ | _ | _ | _ | _ | _ | _ | _ | _ | _ | _ | _ | _ | _ | _ | _ | _ | q <;> rfl
theorem rl_wI13 {f : Nat → Int32} : ls_row (rl_ab μ n C) 13 (fun i => (f i).toInt64) = rl_ab (lm_I μ 15 f) n C := by
  refine Prod.ext ?_ rfl
  funext q; rcases q with _ | _ | _ | _ | _ | _ | _ | _ | _ | _ | _ | _ | _ | _ | _ | _ | _ | _ | _ | _ | _ | q <;> rfl
theorem rl_wI14 {f : Nat → Int32} : ls_row (rl_ab μ n C) 14 (fun i => (f i).toInt64) = rl_ab (lm_I μ 16 f) n C := by
  refine Prod.ext ?_ rfl
  funext q; rcases q with _ | _ | _ | _ | _ | _ | _ | _ | _ | _ | _ | _ | _ | _ | _ | _ | _ | _ | _ | _ | _ | q <;> rfl
theorem rl_wI15 {f : Nat → Int32} : ls_row (rl_ab μ n C) 15 (fun i => (f i).toInt64) = rl_ab (lm_I μ 17 f) n C := by
  refine Prod.ext ?_ rfl
  funext q; rcases q with _ | _ | _ | _ | _ | _ | _ | _ | _ | _ | _ | _ | _ | _ | _ | _ | _ | _ | _ | _ | _ | q <;> rfl
theorem rl_wI16 {f : Nat → Int32} : ls_row (rl_ab μ n C) 16 (fun i => (f i).toInt64) = rl_ab (lm_I μ 18 f) n C := by
  refine Prod.ext ?_ rfl
  funext q; rcases q with _ | _ | _ | _ | _ | _ | _ | _ | _ | _ | _ | _ | _ | _ | _ | _ | _ | _ | _ | _ | _ | q <;> rfl
theorem rl_wI17 {f : Nat → Int32} : ls_row (rl_ab μ n C) 17 (fun i => (f i).toInt64) = rl_ab (lm_I μ 14 f) n C := by
  refine Prod.ext ?_ rfl
  funext q; rcases q with _ | _ | _ | _ | _ | _ | _ | _ | _ | _ | _ | _ | _ | _ | _ | _ | _ | _ | _ | _ | _ | q <;> rfl
theorem rl_wI18 {f : Nat → Int32} : ls_row (rl_ab μ n C) 18 (fun i => (f i).toInt64) = rl_ab (lm_I μ 19 f) n C := by
  refine Prod.ext ?_ rfl
  funext q; rcases q with _ | _ | _ | _ | _ | _ | _ | _ | _ | _ | _ | _ | _ | _ | _ | _ | _ | _ | _ | _ | _ | q <;> rfl
theorem rl_wI19 {f : Nat → Int32} : ls_row (rl_ab μ n C) 19 (fun i => (f i).toInt64) = rl_ab (lm_I μ 20 f) n C := by
  refine Prod.ext ?_ rfl
  funext q; rcases q with _ | _ | _ | _ | _ | _ | _ | _ | _ | _ | _ | _ | _ | _ | _ | _ | _ | _ | _ | _ | _ | q <;> rfl
theorem rl_wI20 {f : Nat → Int32} : ls_row (rl_ab μ n C) 20 (fun i => (f i).toInt64) = rl_ab (lm_I μ 21 f) n C := by
  refine Prod.ext ?_ rfl
  funext q; rcases q with _ | _ | _ | _ | _ | _ | _ | _ | _ | _ | _ | _ | _ | _ | _ | _ | _ | _ | _ | _ | _ | q <;> rfl
theorem rl_wN0 {m : Nat} : ls_sz (rl_ab μ n C) 0 m = rl_ab (lm_N μ 0 m) n C := by
  refine Prod.ext ?_ (Prod.ext ?_ rfl)
  · funext q; rcases q with _ | _ | _ | _ | _ | _ | _ | _ | _ | _ | _ | _ | _ | _ | _ | _ | _ | _ | _ | _ | _ | q <;> rfl
  · funext q; rcases q with _ | _ | _ | _ | _ | _ | q <;> rfl
theorem rl_wN1 {m : Nat} : ls_sz (rl_ab μ n C) 1 m = rl_ab (lm_N μ 1 m) n C := by
  refine Prod.ext ?_ (Prod.ext ?_ rfl)
  · funext q; rcases q with _ | _ | _ | _ | _ | _ | _ | _ | _ | _ | _ | _ | _ | _ | _ | _ | _ | _ | _ | _ | _ | q <;> rfl
  · funext q; rcases q with _ | _ | _ | _ | _ | _ | q <;> rfl
theorem rl_wN2 {m : Nat} : ls_sz (rl_ab μ n C) 2 m = rl_ab (lm_N μ 2 m) n C := by
  refine Prod.ext ?_ (Prod.ext ?_ rfl)
  · funext q; rcases q with _ | _ | _ | _ | _ | _ | _ | _ | _ | _ | _ | _ | _ | _ | _ | _ | _ | _ | _ | _ | _ | q <;> rfl
  · funext q; rcases q with _ | _ | _ | _ | _ | _ | q <;> rfl
theorem rl_wN3 {m : Nat} : ls_sz (rl_ab μ n C) 3 m = rl_ab (lm_N μ 3 m) n C := by
  refine Prod.ext ?_ (Prod.ext ?_ rfl)
  · funext q; rcases q with _ | _ | _ | _ | _ | _ | _ | _ | _ | _ | _ | _ | _ | _ | _ | _ | _ | _ | _ | _ | _ | q <;> rfl
  · funext q; rcases q with _ | _ | _ | _ | _ | _ | q <;> rfl
theorem rl_wN5 {m : Nat} : ls_sz (rl_ab μ n C) 5 m = rl_ab (lm_N μ 4 m) n C := by
  refine Prod.ext ?_ (Prod.ext ?_ rfl)
  · funext q; rcases q with _ | _ | _ | _ | _ | _ | _ | _ | _ | _ | _ | _ | _ | _ | _ | _ | _ | _ | _ | _ | _ | q <;> rfl
  · funext q; rcases q with _ | _ | _ | _ | _ | _ | q <;> rfl
theorem rl_i22 {f : Nat → Int32} : rl_ab (lm_I μ 22 f) n C = rl_ab μ n C := by
  refine Prod.ext ?_ rfl
  funext q; rcases q with _ | _ | _ | _ | _ | _ | _ | _ | _ | _ | _ | _ | _ | _ | _ | _ | _ | _ | _ | _ | _ | q <;> rfl
theorem rl_i23 {f : Nat → Int32} : rl_ab (lm_I μ 23 f) n C = rl_ab μ n C := by
  refine Prod.ext ?_ rfl
  funext q; rcases q with _ | _ | _ | _ | _ | _ | _ | _ | _ | _ | _ | _ | _ | _ | _ | _ | _ | _ | _ | _ | _ | q <;> rfl
theorem rl_i24 {f : Nat → Int32} : rl_ab (lm_I μ 24 f) n C = rl_ab μ n C := by
  refine Prod.ext ?_ rfl
  funext q; rcases q with _ | _ | _ | _ | _ | _ | _ | _ | _ | _ | _ | _ | _ | _ | _ | _ | _ | _ | _ | _ | _ | q <;> rfl
theorem rl_i25 {f : Nat → Int32} : rl_ab (lm_I μ 25 f) n C = rl_ab μ n C := by
  refine Prod.ext ?_ rfl
  funext q; rcases q with _ | _ | _ | _ | _ | _ | _ | _ | _ | _ | _ | _ | _ | _ | _ | _ | _ | _ | _ | _ | _ | q <;> rfl
theorem rl_up {f : Nat → Int32} {N : Nat} {x v : Int32} (h : vp_in x N) (hN : N < 2 ^ 31) : row_put N (fun i => (f i).toInt64) x v.toInt64 = fun i => (upd f x.toNatClampNeg v i).toInt64 := by
  rw [rl_pt h hN]
  funext i
  unfold vp_updL upd
  split <;> rfl
theorem rl_un {f : Nat → Int32} {N j : Nat} {v : Int32} (h : j < N) (hN : N < 2 ^ 31) : row_put N (fun i => (f i).toInt64) (nI j) v.toInt64 = fun i => (upd f j v i).toInt64 := by
  rw [rl_up (vp_in_nI h hN) hN, nI_clamp (by omega)]
theorem rl_P0 {x v : Int32} (h : vp_in x (ls_len 0)) : ls_P (rl_ab μ n C) 0 x v.toInt64 = rl_ab (lm_I μ 0 (upd (μ.1 0) x.toNatClampNeg v)) n C := by
  rw [← rl_wI0, ← rl_up (f := μ.1 0) h (by decide)]; rfl
theorem rl_Pn0 {m : Nat} {v : Int32} (h : m < ls_len 0) : ls_P (rl_ab μ n C) 0 (nI m) v.toInt64 = rl_ab (lm_I μ 0 (upd (μ.1 0) m v)) n C := by
  rw [← rl_wI0, ← rl_un (f := μ.1 0) h (by decide)]; rfl
theorem rl_P1 {x v : Int32} (h : vp_in x (ls_len 1)) : ls_P (rl_ab μ n C) 1 x v.toInt64 = rl_ab (lm_I μ 1 (upd (μ.1 1) x.toNatClampNeg v)) n C := by
  rw [← rl_wI1, ← rl_up (f := μ.1 1) h (by decide)]; rfl
theorem rl_Pn1 {m : Nat} {v : Int32} (h : m < ls_len 1) : ls_P (rl_ab μ n C) 1 (nI m) v.toInt64 = rl_ab (lm_I μ 1 (upd (μ.1 1) m v)) n C := by
  rw [← rl_wI1, ← rl_un (f := μ.1 1) h (by decide)]; rfl
theorem rl_P5 {x v : Int32} (h : vp_in x (ls_len 5)) : ls_P (rl_ab μ n C) 5 x v.toInt64 = rl_ab (lm_I μ 2 (upd (μ.1 2) x.toNatClampNeg v)) n C := by
  rw [← rl_wI5, ← rl_up (f := μ.1 2) h (by decide)]; rfl
theorem rl_Pn5 {m : Nat} {v : Int32} (h : m < ls_len 5) : ls_P (rl_ab μ n C) 5 (nI m) v.toInt64 = rl_ab (lm_I μ 2 (upd (μ.1 2) m v)) n C := by
  rw [← rl_wI5, ← rl_un (f := μ.1 2) h (by decide)]; rfl
theorem rl_P6 {x v : Int32} (h : vp_in x (ls_len 6)) : ls_P (rl_ab μ n C) 6 x v.toInt64 = rl_ab (lm_I μ 7 (upd (μ.1 7) x.toNatClampNeg v)) n C := by
  rw [← rl_wI6, ← rl_up (f := μ.1 7) h (by decide)]; rfl
theorem rl_Pn6 {m : Nat} {v : Int32} (h : m < ls_len 6) : ls_P (rl_ab μ n C) 6 (nI m) v.toInt64 = rl_ab (lm_I μ 7 (upd (μ.1 7) m v)) n C := by
  rw [← rl_wI6, ← rl_un (f := μ.1 7) h (by decide)]; rfl
theorem rl_P7 {x v : Int32} (h : vp_in x (ls_len 7)) : ls_P (rl_ab μ n C) 7 x v.toInt64 = rl_ab (lm_I μ 8 (upd (μ.1 8) x.toNatClampNeg v)) n C := by
  rw [← rl_wI7, ← rl_up (f := μ.1 8) h (by decide)]; rfl
theorem rl_Pn7 {m : Nat} {v : Int32} (h : m < ls_len 7) : ls_P (rl_ab μ n C) 7 (nI m) v.toInt64 = rl_ab (lm_I μ 8 (upd (μ.1 8) m v)) n C := by
  rw [← rl_wI7, ← rl_un (f := μ.1 8) h (by decide)]; rfl
theorem rl_P8 {x v : Int32} (h : vp_in x (ls_len 8)) : ls_P (rl_ab μ n C) 8 x v.toInt64 = rl_ab (lm_I μ 9 (upd (μ.1 9) x.toNatClampNeg v)) n C := by
  rw [← rl_wI8, ← rl_up (f := μ.1 9) h (by decide)]; rfl
theorem rl_Pn8 {m : Nat} {v : Int32} (h : m < ls_len 8) : ls_P (rl_ab μ n C) 8 (nI m) v.toInt64 = rl_ab (lm_I μ 9 (upd (μ.1 9) m v)) n C := by
  rw [← rl_wI8, ← rl_un (f := μ.1 9) h (by decide)]; rfl
theorem rl_P9 {x v : Int32} (h : vp_in x (ls_len 9)) : ls_P (rl_ab μ n C) 9 x v.toInt64 = rl_ab (lm_I μ 10 (upd (μ.1 10) x.toNatClampNeg v)) n C := by
  rw [← rl_wI9, ← rl_up (f := μ.1 10) h (by decide)]; rfl
theorem rl_Pn9 {m : Nat} {v : Int32} (h : m < ls_len 9) : ls_P (rl_ab μ n C) 9 (nI m) v.toInt64 = rl_ab (lm_I μ 10 (upd (μ.1 10) m v)) n C := by
  rw [← rl_wI9, ← rl_un (f := μ.1 10) h (by decide)]; rfl
theorem rl_P10 {x v : Int32} (h : vp_in x (ls_len 10)) : ls_P (rl_ab μ n C) 10 x v.toInt64 = rl_ab (lm_I μ 11 (upd (μ.1 11) x.toNatClampNeg v)) n C := by
  rw [← rl_wI10, ← rl_up (f := μ.1 11) h (by decide)]; rfl
theorem rl_Pn10 {m : Nat} {v : Int32} (h : m < ls_len 10) : ls_P (rl_ab μ n C) 10 (nI m) v.toInt64 = rl_ab (lm_I μ 11 (upd (μ.1 11) m v)) n C := by
  rw [← rl_wI10, ← rl_un (f := μ.1 11) h (by decide)]; rfl
theorem rl_P11 {x v : Int32} (h : vp_in x (ls_len 11)) : ls_P (rl_ab μ n C) 11 x v.toInt64 = rl_ab (lm_I μ 12 (upd (μ.1 12) x.toNatClampNeg v)) n C := by
  rw [← rl_wI11, ← rl_up (f := μ.1 12) h (by decide)]; rfl
theorem rl_Pn11 {m : Nat} {v : Int32} (h : m < ls_len 11) : ls_P (rl_ab μ n C) 11 (nI m) v.toInt64 = rl_ab (lm_I μ 12 (upd (μ.1 12) m v)) n C := by
  rw [← rl_wI11, ← rl_un (f := μ.1 12) h (by decide)]; rfl
theorem rl_P12 {x v : Int32} (h : vp_in x (ls_len 12)) : ls_P (rl_ab μ n C) 12 x v.toInt64 = rl_ab (lm_I μ 13 (upd (μ.1 13) x.toNatClampNeg v)) n C := by
  rw [← rl_wI12, ← rl_up (f := μ.1 13) h (by decide)]; rfl
theorem rl_Pn12 {m : Nat} {v : Int32} (h : m < ls_len 12) : ls_P (rl_ab μ n C) 12 (nI m) v.toInt64 = rl_ab (lm_I μ 13 (upd (μ.1 13) m v)) n C := by
  rw [← rl_wI12, ← rl_un (f := μ.1 13) h (by decide)]; rfl
theorem rl_P13 {x v : Int32} (h : vp_in x (ls_len 13)) : ls_P (rl_ab μ n C) 13 x v.toInt64 = rl_ab (lm_I μ 15 (upd (μ.1 15) x.toNatClampNeg v)) n C := by
  rw [← rl_wI13, ← rl_up (f := μ.1 15) h (by decide)]; rfl
theorem rl_Pn13 {m : Nat} {v : Int32} (h : m < ls_len 13) : ls_P (rl_ab μ n C) 13 (nI m) v.toInt64 = rl_ab (lm_I μ 15 (upd (μ.1 15) m v)) n C := by
  rw [← rl_wI13, ← rl_un (f := μ.1 15) h (by decide)]; rfl
theorem rl_P14 {x v : Int32} (h : vp_in x (ls_len 14)) : ls_P (rl_ab μ n C) 14 x v.toInt64 = rl_ab (lm_I μ 16 (upd (μ.1 16) x.toNatClampNeg v)) n C := by
  rw [← rl_wI14, ← rl_up (f := μ.1 16) h (by decide)]; rfl
theorem rl_Pn14 {m : Nat} {v : Int32} (h : m < ls_len 14) : ls_P (rl_ab μ n C) 14 (nI m) v.toInt64 = rl_ab (lm_I μ 16 (upd (μ.1 16) m v)) n C := by
  rw [← rl_wI14, ← rl_un (f := μ.1 16) h (by decide)]; rfl
theorem rl_P15 {x v : Int32} (h : vp_in x (ls_len 15)) : ls_P (rl_ab μ n C) 15 x v.toInt64 = rl_ab (lm_I μ 17 (upd (μ.1 17) x.toNatClampNeg v)) n C := by
  rw [← rl_wI15, ← rl_up (f := μ.1 17) h (by decide)]; rfl
theorem rl_Pn15 {m : Nat} {v : Int32} (h : m < ls_len 15) : ls_P (rl_ab μ n C) 15 (nI m) v.toInt64 = rl_ab (lm_I μ 17 (upd (μ.1 17) m v)) n C := by
  rw [← rl_wI15, ← rl_un (f := μ.1 17) h (by decide)]; rfl
theorem rl_P16 {x v : Int32} (h : vp_in x (ls_len 16)) : ls_P (rl_ab μ n C) 16 x v.toInt64 = rl_ab (lm_I μ 18 (upd (μ.1 18) x.toNatClampNeg v)) n C := by
  rw [← rl_wI16, ← rl_up (f := μ.1 18) h (by decide)]; rfl
theorem rl_Pn16 {m : Nat} {v : Int32} (h : m < ls_len 16) : ls_P (rl_ab μ n C) 16 (nI m) v.toInt64 = rl_ab (lm_I μ 18 (upd (μ.1 18) m v)) n C := by
  rw [← rl_wI16, ← rl_un (f := μ.1 18) h (by decide)]; rfl
theorem rl_P17 {x v : Int32} (h : vp_in x (ls_len 17)) : ls_P (rl_ab μ n C) 17 x v.toInt64 = rl_ab (lm_I μ 14 (upd (μ.1 14) x.toNatClampNeg v)) n C := by
  rw [← rl_wI17, ← rl_up (f := μ.1 14) h (by decide)]; rfl
theorem rl_Pn17 {m : Nat} {v : Int32} (h : m < ls_len 17) : ls_P (rl_ab μ n C) 17 (nI m) v.toInt64 = rl_ab (lm_I μ 14 (upd (μ.1 14) m v)) n C := by
  rw [← rl_wI17, ← rl_un (f := μ.1 14) h (by decide)]; rfl
theorem rl_P18 {x v : Int32} (h : vp_in x (ls_len 18)) : ls_P (rl_ab μ n C) 18 x v.toInt64 = rl_ab (lm_I μ 19 (upd (μ.1 19) x.toNatClampNeg v)) n C := by
  rw [← rl_wI18, ← rl_up (f := μ.1 19) h (by decide)]; rfl
theorem rl_Pn18 {m : Nat} {v : Int32} (h : m < ls_len 18) : ls_P (rl_ab μ n C) 18 (nI m) v.toInt64 = rl_ab (lm_I μ 19 (upd (μ.1 19) m v)) n C := by
  rw [← rl_wI18, ← rl_un (f := μ.1 19) h (by decide)]; rfl
theorem rl_P19 {x v : Int32} (h : vp_in x (ls_len 19)) : ls_P (rl_ab μ n C) 19 x v.toInt64 = rl_ab (lm_I μ 20 (upd (μ.1 20) x.toNatClampNeg v)) n C := by
  rw [← rl_wI19, ← rl_up (f := μ.1 20) h (by decide)]; rfl
theorem rl_Pn19 {m : Nat} {v : Int32} (h : m < ls_len 19) : ls_P (rl_ab μ n C) 19 (nI m) v.toInt64 = rl_ab (lm_I μ 20 (upd (μ.1 20) m v)) n C := by
  rw [← rl_wI19, ← rl_un (f := μ.1 20) h (by decide)]; rfl
theorem rl_P20 {x v : Int32} (h : vp_in x (ls_len 20)) : ls_P (rl_ab μ n C) 20 x v.toInt64 = rl_ab (lm_I μ 21 (upd (μ.1 21) x.toNatClampNeg v)) n C := by
  rw [← rl_wI20, ← rl_up (f := μ.1 21) h (by decide)]; rfl
theorem rl_Pn20 {m : Nat} {v : Int32} (h : m < ls_len 20) : ls_P (rl_ab μ n C) 20 (nI m) v.toInt64 = rl_ab (lm_I μ 21 (upd (μ.1 21) m v)) n C := by
  rw [← rl_wI20, ← rl_un (f := μ.1 21) h (by decide)]; rfl
theorem rl_A2 {x : Int32} {v : Int64} (h : vp_in x (ls_len 2)) : ls_A (rl_ab μ n C) 2 x v = rl_ab (md_ad μ 3 x v) n C := by
  unfold md_ad; rw [← rl_wJ2, ← rl_ad (f := μ.2.1 3) h (by decide)]; rfl
theorem rl_S2 {x v : Int32} (h : vp_in x (ls_len 2)) (hv : 0 ≤ v) : ls_A (rl_ab μ n C) 2 x (-v).toInt64 = rl_ab (md_sb μ 3 x v.toInt64) n C := by
  rw [rl_neg64 hv, rl_A2 h]; unfold md_ad md_sb; rw [← Int64.sub_eq_add_neg]
theorem rl_A3 {x : Int32} {v : Int64} (h : vp_in x (ls_len 3)) : ls_A (rl_ab μ n C) 3 x v = rl_ab (md_ad μ 4 x v) n C := by
  unfold md_ad; rw [← rl_wJ3, ← rl_ad (f := μ.2.1 4) h (by decide)]; rfl
theorem rl_S3 {x v : Int32} (h : vp_in x (ls_len 3)) (hv : 0 ≤ v) : ls_A (rl_ab μ n C) 3 x (-v).toInt64 = rl_ab (md_sb μ 4 x v.toInt64) n C := by
  rw [rl_neg64 hv, rl_A3 h]; unfold md_ad md_sb; rw [← Int64.sub_eq_add_neg]
theorem rl_A4 {x : Int32} {v : Int64} (h : vp_in x (ls_len 4)) : ls_A (rl_ab μ n C) 4 x v = rl_ab (md_ad μ 5 x v) n C := by
  unfold md_ad; rw [← rl_wJ4, ← rl_ad (f := μ.2.1 5) h (by decide)]; rfl
theorem rl_S4 {x v : Int32} (h : vp_in x (ls_len 4)) (hv : 0 ≤ v) : ls_A (rl_ab μ n C) 4 x (-v).toInt64 = rl_ab (md_sb μ 5 x v.toInt64) n C := by
  rw [rl_neg64 hv, rl_A4 h]; unfold md_ad md_sb; rw [← Int64.sub_eq_add_neg]
theorem rl_open {x y : Int32} (h : μ.2.2.1 0 < 10) : ls_open (rl_ab μ n C) x y = rl_ab (lm_N (lm_I (lm_I μ 0 (upd (μ.1 0) (μ.2.2.1 0) x)) 1 (upd (μ.1 1) (μ.2.2.1 0) y)) 0 (μ.2.2.1 0 + 1)) n C := by
  unfold ls_open
  rw [show (rl_ab μ n C).2.1 0 = μ.2.2.1 0 from rfl, rl_Pn0 h, rl_Pn1 h, rl_wN0]
  rfl
theorem rl_bapp {x y v : Int32} (h : μ.2.2.1 3 < 12) : ls_bapp (rl_ab μ n C) x y v = rl_ab (lm_N (lm_I (lm_I (lm_I μ 19 (upd (μ.1 19) (μ.2.2.1 3) x)) 20 (upd (μ.1 20) (μ.2.2.1 3) y)) 21 (upd (μ.1 21) (μ.2.2.1 3) v)) 3 (μ.2.2.1 3 + 1)) n C := by
  unfold ls_bapp
  rw [show (rl_ab μ n C).2.1 3 = μ.2.2.1 3 from rfl, rl_Pn18 h, rl_Pn19 h, rl_Pn20 h, rl_wN3]
  rfl
theorem rl_happ {x y v d1 d : Int32} (h : μ.2.2.1 2 < 30) (hd : d1 = nI (μ.2.2.1 4) + d) : ls_happ (rl_ab μ n C) x y v d1 = rl_ab (md_hds μ x y v d) n C := by
  subst hd
  unfold ls_happ
  rw [show (rl_ab μ n C).2.1 2 = μ.2.2.1 2 from rfl, rl_Pn13 h, rl_Pn14 h, rl_Pn15 h, rl_Pn16 h, show (97 : Int64) = (97 : Int32).toInt64 from rfl, rl_Pn17 h, rl_wN2]
  refine Prod.ext ?_ (Prod.ext ?_ rfl)
  · funext q; rcases q with _ | _ | _ | _ | _ | _ | _ | _ | _ | _ | _ | _ | _ | _ | _ | _ | _ | _ | _ | _ | _ | q <;> rfl
  · funext q; rcases q with _ | _ | _ | _ | _ | _ | q <;> rfl
theorem rl_app {kd x y p r d : Int32} (h : μ.2.2.1 1 < 150) (hd : d = nI (μ.2.2.1 4)) : ls_app (rl_ab μ n C) kd x y p r d = rl_ab (md_mk4 μ kd x y p r) n C := by
  subst hd
  unfold ls_app
  rw [show (rl_ab μ n C).2.1 1 = μ.2.2.1 1 from rfl, rl_Pn6 h, rl_Pn7 h, rl_Pn8 h, rl_Pn9 h, rl_Pn10 h, rl_Pn11 h, show (-1 : Int64) = (-1 : Int32).toInt64 from rfl, rl_Pn12 h, rl_wN1]
  rfl
theorem rl_from {x y : Int32} (hx : x = -1 ∨ vp_in x 10) (hy : ¬ x = -1 ∨ vp_in y 10) : ls_from (rl_ab μ n C) x y = md_cur μ x y := by
  unfold ls_from md_cur
  rcases hx with rfl | hx
  · rw [if_pos rfl, if_pos (by decide)]
    exact rl_i0 (hy.resolve_left (fun z => z rfl))
  · have h1 : ¬ x = -1 := fun z => vp_in_ge hx (by rw [z]; decide)
    rw [if_neg h1, if_neg (vp_in_ge hx)]
    exact rl_i0 hx
theorem rl_mk1 {x y p : Int32} (hx : x = -1 ∨ vp_in x 10) (hp : 0 ≤ p) (hc : vp_in (md_cur μ x y) 4) : ls_chg (rl_ab μ n C) x (md_cur μ x y) (-p) = rl_ab (md_mk1 μ x y p) n C := by
  unfold ls_chg md_mk1
  rcases hx with rfl | hx
  · rw [if_pos rfl, if_pos (by decide)]
    exact rl_S3 hc hp
  · have h1 : ¬ x = -1 := fun z => vp_in_ge hx (by rw [z]; decide)
    rw [if_neg h1, if_neg (vp_in_ge hx)]
    exact rl_S2 hx hp
theorem rl_mk2 {τ : LMt} {x y r : Int32} (hy : y = -1 ∨ vp_in y 10) (hc : vp_in (md_cur μ y x) 4) : ls_chg (rl_ab τ n C) y (md_cur μ y x) r = rl_ab (md_mk2 μ τ x y r) n C := by
  unfold ls_chg md_mk2
  rcases hy with rfl | hy
  · rw [if_pos rfl, if_pos (by decide)]
    exact rl_A3 hc
  · have h1 : ¬ y = -1 := fun z => vp_in_ge hy (by rw [z]; decide)
    rw [if_neg h1, if_neg (vp_in_ge hy)]
    exact rl_A2 hy
theorem rl_post {kd x y p r : Int32} (hm : μ.2.2.1 1 < 150) (hx : x = -1 ∨ vp_in x 10) (hy : y = -1 ∨ vp_in y 10) (hxy : ¬ (x = -1 ∧ y = -1)) (hp : 0 ≤ p) (hr : 0 ≤ r) (hc : ∀ i, vp_in (μ.1 0 i) 4) : ls_post (rl_ab μ n C) kd x y p r = rl_ab (md_makes μ kd x y p r) n C := by
  have hx2 : ¬ x = -1 ∨ vp_in y 10 := by
    by_cases e : x = -1
    · exact Or.inr (hy.resolve_left (fun z => hxy ⟨e, z⟩))
    · exact Or.inl e
  have hy2 : ¬ y = -1 ∨ vp_in x 10 := by
    by_cases e : y = -1
    · exact Or.inr (hx.resolve_left (fun z => hxy ⟨z, e⟩))
    · exact Or.inl e
  unfold ls_post ls_move ls_mv1
  rw [rl_from hx hx2, rl_from hy hy2, rl_mk1 hx hp (hc _), rl_mk2 (x := x) hy (hc _)]
  have e3 : (if md_cur μ x y = md_cur μ y x then rl_ab (md_mk2 μ (md_mk1 μ x y p) x y r) n C else ls_A (ls_A (rl_ab (md_mk2 μ (md_mk1 μ x y p) x y r) n C) 4 (md_cur μ x y) p.toInt64) 4 (md_cur μ y x) (-r).toInt64) = rl_ab (md_mk3 μ (md_mk2 μ (md_mk1 μ x y p) x y r) x y p r) n C := by
    unfold md_mk3
    split
    · rfl
    · rw [rl_A4 (x := md_cur μ x y) (hc _), rl_S4 (x := md_cur μ y x) (hc _) hr]
  rw [e3, rl_app (by rw [md_mk_1.2]; exact hm) (by rw [md_mk_1.2]; rfl)]
  rfl
theorem rl_rm1 {cn i : Nat} {τ : LMt} (h : i + cn < 12) : ls_rm1 (nI cn) (i + cn) (ls_rm1 (nI cn) (i + cn) (ls_rm1 (nI cn) (i + cn) (rl_ab τ n C) 18) 19) 20 = rl_ab (md_tk1 cn i (md_tk1 cn i (md_tk1 cn i τ 19) 20) 21) n C := by
  have e : nI (i + cn) - nI cn = nI i := by rw [nI_sub (by omega), Nat.add_sub_cancel]
  unfold ls_rm1 md_tk1
  rw [e, rl_at_n (N := ls_len 18) h (by decide), rl_at_n (N := ls_len 19) h (by decide), rl_at_n (N := ls_len 20) h (by decide)]
  have hi : i < 12 := by omega
  rw [show (rl_ab τ n C).1 18 (i + cn) = (τ.1 19 (i + cn)).toInt64 from rfl, rl_Pn18 hi]
  rw [show (rl_ab (lm_I τ 19 (upd (τ.1 19) i (τ.1 19 (i + cn)))) n C).1 19 (i + cn) = (τ.1 20 (i + cn)).toInt64 from rfl, rl_Pn19 hi]
  rw [show (rl_ab (lm_I (lm_I τ 19 (upd (τ.1 19) i (τ.1 19 (i + cn)))) 20 (upd ((lm_I τ 19 (upd (τ.1 19) i (τ.1 19 (i + cn)))).1 20) i (τ.1 20 (i + cn)))) n C).1 20 (i + cn) = (τ.1 21 (i + cn)).toInt64 from rfl, rl_Pn20 hi]
  rfl
theorem rl_rm {cn : Nat} : ∀ (k i : Nat) (τ : LMt), i + cn + k ≤ 12 → ls_rm (nI cn) k (i + cn) (rl_ab τ n C) = rl_ab (md_tk cn k i τ) n C
  | 0, _, _, _ => rfl
  | k + 1, i, τ, h => by
    show ls_rm (nI cn) k (i + cn + 1) (ls_rm1 (nI cn) (i + cn) (ls_rm1 (nI cn) (i + cn) (ls_rm1 (nI cn) (i + cn) (rl_ab τ n C) 18) 19) 20) = rl_ab (md_tk cn k (i + 1) (md_tk1 cn i (md_tk1 cn i (md_tk1 cn i τ 19) 20) 21)) n C
    rw [rl_rm1 (by omega), ← rl_rm k (i + 1) _ (by omega), show i + cn + 1 = i + 1 + cn from by omega]
theorem rl_tkN {mn v : Nat} : ∀ (k i : Nat) (τ : LMt), md_tk mn k i (lm_N τ 3 v) = lm_N (md_tk mn k i τ) 3 v
  | 0, _, _ => rfl
  | k + 1, i, τ => rl_tkN k (i + 1) (md_tk1 mn i (md_tk1 mn i (md_tk1 mn i τ 19) 20) 21)
theorem rl_out {ix cn : Nat} (h : μ.2.2.1 3 ≤ 12) (hc : ix + cn ≤ μ.2.2.1 3) : ls_rem (rl_ab μ n C) ix cn = rl_ab (md_out μ ix cn) n C := by
  unfold ls_rem md_out
  rw [show (rl_ab μ n C).2.1 3 = μ.2.2.1 3 from rfl, rl_rm _ _ _ (by omega), rl_wN3, rl_tkN, show μ.2.2.1 3 - (ix + cn) = μ.2.2.1 3 - cn - ix from by omega]
theorem rl_exp {D : Nat} : ∀ (k i : Nat) (τ : LMt) (c : Nat), i + k ≤ 30 → ls_exp (nI D) k i (rl_ab τ n C) c = (rl_ab (md_ex D k i τ c).1 n C, (md_ex D k i τ c).2)
  | 0, _, _, _, _ => rfl
  | k + 1, i, τ, c, h => by
    have hi : i < 30 := by omega
    simp only [ls_exp, md_ex]
    rw [rl_at_n (N := ls_len 17) hi (by decide), rl_at_n (N := ls_len 16) hi (by decide)]
    rw [show (rl_ab τ n C).1 17 i = (τ.1 14 i).toInt64 from rfl, show (rl_ab τ n C).1 16 i = (τ.1 18 i).toInt64 from rfl, show (97 : Int64) = (97 : Int32).toInt64 from rfl]
    by_cases c1 : τ.1 14 i = 97
    · rw [if_pos (rl_eq64.mpr c1), if_pos c1]
      by_cases c2 : τ.1 18 i < nI D
      · rw [if_neg (fun z => Int32.not_le.mpr c2 (rl_le64.mp z)), if_pos c2, show (120 : Int64) = (120 : Int32).toInt64 from rfl, rl_Pn17 hi, rl_exp k (i + 1) _ _ (by omega)]
      · rw [if_pos (rl_le64.mpr (Int32.not_lt.mp c2)), if_neg c2, rl_exp k (i + 1) _ _ (by omega)]
    · rw [if_neg (fun z => c1 (rl_eq64.mp z)), if_neg c1, rl_exp k (i + 1) _ _ (by omega)]
theorem rl_fg {D : Nat} : ∀ (k i : Nat) (τ : LMt), rl_ab (md_fg D k i τ) n C = rl_ab τ n C
  | 0, _, _ => rfl
  | k + 1, i, τ => by
    simp only [md_fg]
    rw [rl_fg k (i + 1), rl_i22]
end RW
