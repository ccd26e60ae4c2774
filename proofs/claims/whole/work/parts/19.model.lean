/-! PART 19: the reference: its world and its methods -/
/-- the reference's state: int rows (by the class's fields), long rows, counters (0 accounts, 1 made, 2 holds, 3 waiting, 4 the day), 'thrown' -/
abbrev LMt : Type := (Nat → Nat → Int32) × (Nat → Nat → Int64) × (Nat → Nat) × Int32
def lm_I (μ : LMt) (k : Nat) (f : Nat → Int32) : LMt := (va_up μ.1 k f, μ.2.1, μ.2.2.1, μ.2.2.2)
def lm_J (μ : LMt) (k : Nat) (f : Nat → Int64) : LMt := (μ.1, va_up μ.2.1 k f, μ.2.2.1, μ.2.2.2)
def lm_N (μ : LMt) (k n : Nat) : LMt := (μ.1, μ.2.1, va_up μ.2.2.1 k n, μ.2.2.2)
def lm_T (μ : LMt) (v : Int32) : LMt := (μ.1, μ.2.1, μ.2.2.1, v)
theorem lm_I1 {μ : LMt} {k j : Nat} {f : Nat → Int32} : (lm_I μ k f).1 j = if j = k then f else μ.1 j := rfl
theorem lm_I2 {μ : LMt} {k : Nat} {f : Nat → Int32} : (lm_I μ k f).2.1 = μ.2.1 := rfl
theorem lm_I3 {μ : LMt} {k : Nat} {f : Nat → Int32} : (lm_I μ k f).2.2.1 = μ.2.2.1 := rfl
theorem lm_I4 {μ : LMt} {k : Nat} {f : Nat → Int32} : (lm_I μ k f).2.2.2 = μ.2.2.2 := rfl
theorem lm_J1 {μ : LMt} {k : Nat} {f : Nat → Int64} : (lm_J μ k f).1 = μ.1 := rfl
theorem lm_J2 {μ : LMt} {k j : Nat} {f : Nat → Int64} : (lm_J μ k f).2.1 j = if j = k then f else μ.2.1 j := rfl
theorem lm_J3 {μ : LMt} {k : Nat} {f : Nat → Int64} : (lm_J μ k f).2.2.1 = μ.2.2.1 := rfl
theorem lm_J4 {μ : LMt} {k : Nat} {f : Nat → Int64} : (lm_J μ k f).2.2.2 = μ.2.2.2 := rfl
theorem lm_N1 {μ : LMt} {k n : Nat} : (lm_N μ k n).1 = μ.1 := rfl
theorem lm_N2 {μ : LMt} {k n : Nat} : (lm_N μ k n).2.1 = μ.2.1 := rfl
theorem lm_N3 {μ : LMt} {k j n : Nat} : (lm_N μ k n).2.2.1 j = if j = k then n else μ.2.2.1 j := rfl
theorem lm_N4 {μ : LMt} {k n : Nat} : (lm_N μ k n).2.2.2 = μ.2.2.2 := rfl
theorem lm_T1 {μ : LMt} {v : Int32} : (lm_T μ v).1 = μ.1 := rfl
theorem lm_T2 {μ : LMt} {v : Int32} : (lm_T μ v).2.1 = μ.2.1 := rfl
theorem lm_T3 {μ : LMt} {v : Int32} : (lm_T μ v).2.2.1 = μ.2.2.1 := rfl
theorem lm_T4 {μ : LMt} {v : Int32} : (lm_T μ v).2.2.2 = v := rfl
/-- its object (place 0) and its rows (place k+1) -/
def lm_cell (b : Nat → Nat) (μ : LMt) (k : Nat) : hl_C := match k with
  | 0 => .inr (10, [.ref (b 1), .ref (b 2), .ref (b 3), .ref (b 4), .ref (b 5), .ref (b 6), .ref (b 7), .ref (b 8), .ref (b 9), .ref (b 10), .ref (b 11), .ref (b 12), .ref (b 13), .ref (b 14), .ref (b 15), .ref (b 16), .ref (b 17), .ref (b 18), .ref (b 19), .ref (b 20), .ref (b 21), .ref (b 22), .ref (b 23), .ref (b 24), .ref (b 25), .ref (b 26), .int (μ.2.2.2), .int (nI (μ.2.2.1 0)), .int (nI (μ.2.2.1 1)), .int (nI (μ.2.2.1 2)), .int (nI (μ.2.2.1 3)), .int (nI (μ.2.2.1 4))])
  | 1 => .inl (10, .inl (μ.1 0))
  | 2 => .inl (10, .inl (μ.1 1))
  | 3 => .inl (4, .inl (μ.1 2))
  | 4 => .inl (10, .inr (.inl (μ.2.1 3)))
  | 5 => .inl (4, .inr (.inl (μ.2.1 4)))
  | 6 => .inl (4, .inr (.inl (μ.2.1 5)))
  | 7 => .inl (10, .inr (.inl (μ.2.1 6)))
  | 8 => .inl (150, .inl (μ.1 7))
  | 9 => .inl (150, .inl (μ.1 8))
  | 10 => .inl (150, .inl (μ.1 9))
  | 11 => .inl (150, .inl (μ.1 10))
  | 12 => .inl (150, .inl (μ.1 11))
  | 13 => .inl (150, .inl (μ.1 12))
  | 14 => .inl (150, .inl (μ.1 13))
  | 15 => .inl (30, .inl (μ.1 14))
  | 16 => .inl (30, .inl (μ.1 15))
  | 17 => .inl (30, .inl (μ.1 16))
  | 18 => .inl (30, .inl (μ.1 17))
  | 19 => .inl (30, .inl (μ.1 18))
  | 20 => .inl (12, .inl (μ.1 19))
  | 21 => .inl (12, .inl (μ.1 20))
  | 22 => .inl (12, .inl (μ.1 21))
  | 23 => .inl (1000, .inl (μ.1 22))
  | 24 => .inl (4000, .inl (μ.1 23))
  | 25 => .inl (1000, .inl (μ.1 24))
  | 26 => .inl (1000, .inl (μ.1 25))
  | _ => .inl (0, .inl (fun _ => 0))
def LMr (b : Nat → Nat) (μ : LMt) (h : hl_H) : Prop := ∀ k : Nat, k < 27 → h (b k) = some (lm_cell b μ k)
def LMd (b : Nat → Nat) (h0 h : hl_H) : Prop := (∀ i j : Nat, i < 27 → j < 27 → b i = b j → i = j) ∧ (∀ i : Nat, i < 27 → h0 (b i) = none) ∧ ∀ (q : Nat) (x : hl_C), h0 q = some x → h q = some x
def LMw (b : Nat → Nat) (μ : LMt) (h0 h : hl_H) : Prop := LMr b μ h ∧ LMd b h0 h
section LMR
variable {b : Nat → Nat} {μ : LMt} {h h0 : hl_H}
theorem LMr.f0 (q : LMr b μ h) : h (b 0) = some (.inr (10, [.ref (b 1), .ref (b 2), .ref (b 3), .ref (b 4), .ref (b 5), .ref (b 6), .ref (b 7), .ref (b 8), .ref (b 9), .ref (b 10), .ref (b 11), .ref (b 12), .ref (b 13), .ref (b 14), .ref (b 15), .ref (b 16), .ref (b 17), .ref (b 18), .ref (b 19), .ref (b 20), .ref (b 21), .ref (b 22), .ref (b 23), .ref (b 24), .ref (b 25), .ref (b 26), .int (μ.2.2.2), .int (nI (μ.2.2.1 0)), .int (nI (μ.2.2.1 1)), .int (nI (μ.2.2.1 2)), .int (nI (μ.2.2.1 3)), .int (nI (μ.2.2.1 4))])) := q 0 (by decide)
theorem LMr.a0 (q : LMr b μ h) : h (b 1) = some (.inl (10, .inl (μ.1 0))) := q 1 (by decide)
theorem LMr.a1 (q : LMr b μ h) : h (b 2) = some (.inl (10, .inl (μ.1 1))) := q 2 (by decide)
theorem LMr.a2 (q : LMr b μ h) : h (b 3) = some (.inl (4, .inl (μ.1 2))) := q 3 (by decide)
theorem LMr.a3 (q : LMr b μ h) : h (b 4) = some (.inl (10, .inr (.inl (μ.2.1 3)))) := q 4 (by decide)
theorem LMr.a4 (q : LMr b μ h) : h (b 5) = some (.inl (4, .inr (.inl (μ.2.1 4)))) := q 5 (by decide)
theorem LMr.a5 (q : LMr b μ h) : h (b 6) = some (.inl (4, .inr (.inl (μ.2.1 5)))) := q 6 (by decide)
theorem LMr.a6 (q : LMr b μ h) : h (b 7) = some (.inl (10, .inr (.inl (μ.2.1 6)))) := q 7 (by decide)
theorem LMr.a7 (q : LMr b μ h) : h (b 8) = some (.inl (150, .inl (μ.1 7))) := q 8 (by decide)
theorem LMr.a8 (q : LMr b μ h) : h (b 9) = some (.inl (150, .inl (μ.1 8))) := q 9 (by decide)
theorem LMr.a9 (q : LMr b μ h) : h (b 10) = some (.inl (150, .inl (μ.1 9))) := q 10 (by decide)
theorem LMr.a10 (q : LMr b μ h) : h (b 11) = some (.inl (150, .inl (μ.1 10))) := q 11 (by decide)
theorem LMr.a11 (q : LMr b μ h) : h (b 12) = some (.inl (150, .inl (μ.1 11))) := q 12 (by decide)
theorem LMr.a12 (q : LMr b μ h) : h (b 13) = some (.inl (150, .inl (μ.1 12))) := q 13 (by decide)
theorem LMr.a13 (q : LMr b μ h) : h (b 14) = some (.inl (150, .inl (μ.1 13))) := q 14 (by decide)
theorem LMr.a14 (q : LMr b μ h) : h (b 15) = some (.inl (30, .inl (μ.1 14))) := q 15 (by decide)
theorem LMr.a15 (q : LMr b μ h) : h (b 16) = some (.inl (30, .inl (μ.1 15))) := q 16 (by decide)
theorem LMr.a16 (q : LMr b μ h) : h (b 17) = some (.inl (30, .inl (μ.1 16))) := q 17 (by decide)
theorem LMr.a17 (q : LMr b μ h) : h (b 18) = some (.inl (30, .inl (μ.1 17))) := q 18 (by decide)
theorem LMr.a18 (q : LMr b μ h) : h (b 19) = some (.inl (30, .inl (μ.1 18))) := q 19 (by decide)
theorem LMr.a19 (q : LMr b μ h) : h (b 20) = some (.inl (12, .inl (μ.1 19))) := q 20 (by decide)
theorem LMr.a20 (q : LMr b μ h) : h (b 21) = some (.inl (12, .inl (μ.1 20))) := q 21 (by decide)
theorem LMr.a21 (q : LMr b μ h) : h (b 22) = some (.inl (12, .inl (μ.1 21))) := q 22 (by decide)
theorem LMr.a22 (q : LMr b μ h) : h (b 23) = some (.inl (1000, .inl (μ.1 22))) := q 23 (by decide)
theorem LMr.a23 (q : LMr b μ h) : h (b 24) = some (.inl (4000, .inl (μ.1 23))) := q 24 (by decide)
theorem LMr.a24 (q : LMr b μ h) : h (b 25) = some (.inl (1000, .inl (μ.1 24))) := q 25 (by decide)
theorem LMr.a25 (q : LMr b μ h) : h (b 26) = some (.inl (1000, .inl (μ.1 25))) := q 26 (by decide)
theorem LMw.set (w : LMw b μ h0 h) {μ' : LMt} (j : Nat) (hj : j < 27) (x : hl_C) (hx : lm_cell b μ' j = x) (ho : ∀ k, k < 27 → k ≠ j → lm_cell b μ' k = lm_cell b μ k) : LMw b μ' h0 (hl_set h (b j) x) := by
  obtain ⟨q, d1, d2, d3⟩ := w
  refine ⟨fun k hk => ?_, d1, d2, fun p y hp => ?_⟩
  · by_cases e : k = j
    · subst e; rw [hs_set1, hx]
    · rw [hs_set2 (fun z => e (d1 k j hk hj z)), q k hk, ho k hk e]
  · by_cases e : p = b j
    · subst e; rw [d2 j hj] at hp; cases hp
    · rw [hs_set2 e]; exact d3 p y hp
theorem lm_of27 {P : Nat → Prop} (h0 : P 0) (h1 : P 1) (h2 : P 2) (h3 : P 3) (h4 : P 4) (h5 : P 5) (h6 : P 6) (h7 : P 7) (h8 : P 8) (h9 : P 9) (h10 : P 10) (h11 : P 11) (h12 : P 12) (h13 : P 13) (h14 : P 14) (h15 : P 15) (h16 : P 16) (h17 : P 17) (h18 : P 18) (h19 : P 19) (h20 : P 20) (h21 : P 21) (h22 : P 22) (h23 : P 23) (h24 : P 24) (h25 : P 25) (h26 : P 26) : ∀ k : Nat, k < 27 → P k
  | 0, _ => h0
  | 1, _ => h1
  | 2, _ => h2
  | 3, _ => h3
  | 4, _ => h4
  | 5, _ => h5
  | 6, _ => h6
  | 7, _ => h7
  | 8, _ => h8
  | 9, _ => h9
  | 10, _ => h10
  | 11, _ => h11
  | 12, _ => h12
  | 13, _ => h13
  | 14, _ => h14
  | 15, _ => h15
  | 16, _ => h16
  | 17, _ => h17
  | 18, _ => h18
  | 19, _ => h19
  | 20, _ => h20
  | 21, _ => h21
  | 22, _ => h22
  | 23, _ => h23
  | 24, _ => h24
  | 25, _ => h25
  | 26, _ => h26
  | k + 27, h => absurd h (by omega)
theorem LMw.sT (w : LMw b μ h0 h) (v : Int32) : LMw b (lm_T μ v) h0 (hl_set h (b 0) (.inr (10, [.ref (b 1), .ref (b 2), .ref (b 3), .ref (b 4), .ref (b 5), .ref (b 6), .ref (b 7), .ref (b 8), .ref (b 9), .ref (b 10), .ref (b 11), .ref (b 12), .ref (b 13), .ref (b 14), .ref (b 15), .ref (b 16), .ref (b 17), .ref (b 18), .ref (b 19), .ref (b 20), .ref (b 21), .ref (b 22), .ref (b 23), .ref (b 24), .ref (b 25), .ref (b 26), .int v, .int (nI (μ.2.2.1 0)), .int (nI (μ.2.2.1 1)), .int (nI (μ.2.2.1 2)), .int (nI (μ.2.2.1 3)), .int (nI (μ.2.2.1 4))]))) :=
  w.set 0 (by decide) _ rfl (lm_of27 (P := fun k => k ≠ 0 → lm_cell b (lm_T μ v) k = lm_cell b μ k) (fun e => (e rfl).elim) (fun _ => rfl) (fun _ => rfl) (fun _ => rfl) (fun _ => rfl) (fun _ => rfl) (fun _ => rfl) (fun _ => rfl) (fun _ => rfl) (fun _ => rfl) (fun _ => rfl) (fun _ => rfl) (fun _ => rfl) (fun _ => rfl) (fun _ => rfl) (fun _ => rfl) (fun _ => rfl) (fun _ => rfl) (fun _ => rfl) (fun _ => rfl) (fun _ => rfl) (fun _ => rfl) (fun _ => rfl) (fun _ => rfl) (fun _ => rfl) (fun _ => rfl) (fun _ => rfl))
theorem LMw.sN0 (w : LMw b μ h0 h) (n : Nat) : LMw b (lm_N μ 0 n) h0 (hl_set h (b 0) (.inr (10, [.ref (b 1), .ref (b 2), .ref (b 3), .ref (b 4), .ref (b 5), .ref (b 6), .ref (b 7), .ref (b 8), .ref (b 9), .ref (b 10), .ref (b 11), .ref (b 12), .ref (b 13), .ref (b 14), .ref (b 15), .ref (b 16), .ref (b 17), .ref (b 18), .ref (b 19), .ref (b 20), .ref (b 21), .ref (b 22), .ref (b 23), .ref (b 24), .ref (b 25), .ref (b 26), .int (μ.2.2.2), .int (nI n), .int (nI (μ.2.2.1 1)), .int (nI (μ.2.2.1 2)), .int (nI (μ.2.2.1 3)), .int (nI (μ.2.2.1 4))]))) :=
  w.set 0 (by decide) _ rfl (lm_of27 (P := fun k => k ≠ 0 → lm_cell b (lm_N μ 0 n) k = lm_cell b μ k) (fun e => (e rfl).elim) (fun _ => rfl) (fun _ => rfl) (fun _ => rfl) (fun _ => rfl) (fun _ => rfl) (fun _ => rfl) (fun _ => rfl) (fun _ => rfl) (fun _ => rfl) (fun _ => rfl) (fun _ => rfl) (fun _ => rfl) (fun _ => rfl) (fun _ => rfl) (fun _ => rfl) (fun _ => rfl) (fun _ => rfl) (fun _ => rfl) (fun _ => rfl) (fun _ => rfl) (fun _ => rfl) (fun _ => rfl) (fun _ => rfl) (fun _ => rfl) (fun _ => rfl) (fun _ => rfl))
theorem LMw.sN1 (w : LMw b μ h0 h) (n : Nat) : LMw b (lm_N μ 1 n) h0 (hl_set h (b 0) (.inr (10, [.ref (b 1), .ref (b 2), .ref (b 3), .ref (b 4), .ref (b 5), .ref (b 6), .ref (b 7), .ref (b 8), .ref (b 9), .ref (b 10), .ref (b 11), .ref (b 12), .ref (b 13), .ref (b 14), .ref (b 15), .ref (b 16), .ref (b 17), .ref (b 18), .ref (b 19), .ref (b 20), .ref (b 21), .ref (b 22), .ref (b 23), .ref (b 24), .ref (b 25), .ref (b 26), .int (μ.2.2.2), .int (nI (μ.2.2.1 0)), .int (nI n), .int (nI (μ.2.2.1 2)), .int (nI (μ.2.2.1 3)), .int (nI (μ.2.2.1 4))]))) :=
  w.set 0 (by decide) _ rfl (lm_of27 (P := fun k => k ≠ 0 → lm_cell b (lm_N μ 1 n) k = lm_cell b μ k) (fun e => (e rfl).elim) (fun _ => rfl) (fun _ => rfl) (fun _ => rfl) (fun _ => rfl) (fun _ => rfl) (fun _ => rfl) (fun _ => rfl) (fun _ => rfl) (fun _ => rfl) (fun _ => rfl) (fun _ => rfl) (fun _ => rfl) (fun _ => rfl) (fun _ => rfl) (fun _ => rfl) (fun _ => rfl) (fun _ => rfl) (fun _ => rfl) (fun _ => rfl) (fun _ => rfl) (fun _ => rfl) (fun _ => rfl) (fun _ => rfl) (fun _ => rfl) (fun _ => rfl) (fun _ => rfl))
theorem LMw.sN2 (w : LMw b μ h0 h) (n : Nat) : LMw b (lm_N μ 2 n) h0 (hl_set h (b 0) (.inr (10, [.ref (b 1), .ref (b 2), .ref (b 3), .ref (b 4), .ref (b 5), .ref (b 6), .ref (b 7), .ref (b 8), .ref (b 9), .ref (b 10), .ref (b 11), .ref (b 12), .ref (b 13), .ref (b 14), .ref (b 15), .ref (b 16), .ref (b 17), .ref (b 18), .ref (b 19), .ref (b 20), .ref (b 21), .ref (b 22), .ref (b 23), .ref (b 24), .ref (b 25), .ref (b 26), .int (μ.2.2.2), .int (nI (μ.2.2.1 0)), .int (nI (μ.2.2.1 1)), .int (nI n), .int (nI (μ.2.2.1 3)), .int (nI (μ.2.2.1 4))]))) :=
  w.set 0 (by decide) _ rfl (lm_of27 (P := fun k => k ≠ 0 → lm_cell b (lm_N μ 2 n) k = lm_cell b μ k) (fun e => (e rfl).elim) (fun _ => rfl) (fun _ => rfl) (fun _ => rfl) (fun _ => rfl) (fun _ => rfl) (fun _ => rfl) (fun _ => rfl) (fun _ => rfl) (fun _ => rfl) (fun _ => rfl) (fun _ => rfl) (fun _ => rfl) (fun _ => rfl) (fun _ => rfl) (fun _ => rfl) (fun _ => rfl) (fun _ => rfl) (fun _ => rfl) (fun _ => rfl) (fun _ => rfl) (fun _ => rfl) (fun _ => rfl) (fun _ => rfl) (fun _ => rfl) (fun _ => rfl) (fun _ => rfl))
theorem LMw.sN3 (w : LMw b μ h0 h) (n : Nat) : LMw b (lm_N μ 3 n) h0 (hl_set h (b 0) (.inr (10, [.ref (b 1), .ref (b 2), .ref (b 3), .ref (b 4), .ref (b 5), .ref (b 6), .ref (b 7), .ref (b 8), .ref (b 9), .ref (b 10), .ref (b 11), .ref (b 12), .ref (b 13), .ref (b 14), .ref (b 15), .ref (b 16), .ref (b 17), .ref (b 18), .ref (b 19), .ref (b 20), .ref (b 21), .ref (b 22), .ref (b 23), .ref (b 24), .ref (b 25), .ref (b 26), .int (μ.2.2.2), .int (nI (μ.2.2.1 0)), .int (nI (μ.2.2.1 1)), .int (nI (μ.2.2.1 2)), .int (nI n), .int (nI (μ.2.2.1 4))]))) :=
  w.set 0 (by decide) _ rfl (lm_of27 (P := fun k => k ≠ 0 → lm_cell b (lm_N μ 3 n) k = lm_cell b μ k) (fun e => (e rfl).elim) (fun _ => rfl) (fun _ => rfl) (fun _ => rfl) (fun _ => rfl) (fun _ => rfl) (fun _ => rfl) (fun _ => rfl) (fun _ => rfl) (fun _ => rfl) (fun _ => rfl) (fun _ => rfl) (fun _ => rfl) (fun _ => rfl) (fun _ => rfl) (fun _ => rfl) (fun _ => rfl) (fun _ => rfl) (fun _ => rfl) (fun _ => rfl) (fun _ => rfl) (fun _ => rfl) (fun _ => rfl) (fun _ => rfl) (fun _ => rfl) (fun _ => rfl) (fun _ => rfl))
theorem LMw.sN4 (w : LMw b μ h0 h) (n : Nat) : LMw b (lm_N μ 4 n) h0 (hl_set h (b 0) (.inr (10, [.ref (b 1), .ref (b 2), .ref (b 3), .ref (b 4), .ref (b 5), .ref (b 6), .ref (b 7), .ref (b 8), .ref (b 9), .ref (b 10), .ref (b 11), .ref (b 12), .ref (b 13), .ref (b 14), .ref (b 15), .ref (b 16), .ref (b 17), .ref (b 18), .ref (b 19), .ref (b 20), .ref (b 21), .ref (b 22), .ref (b 23), .ref (b 24), .ref (b 25), .ref (b 26), .int (μ.2.2.2), .int (nI (μ.2.2.1 0)), .int (nI (μ.2.2.1 1)), .int (nI (μ.2.2.1 2)), .int (nI (μ.2.2.1 3)), .int (nI n)]))) :=
  w.set 0 (by decide) _ rfl (lm_of27 (P := fun k => k ≠ 0 → lm_cell b (lm_N μ 4 n) k = lm_cell b μ k) (fun e => (e rfl).elim) (fun _ => rfl) (fun _ => rfl) (fun _ => rfl) (fun _ => rfl) (fun _ => rfl) (fun _ => rfl) (fun _ => rfl) (fun _ => rfl) (fun _ => rfl) (fun _ => rfl) (fun _ => rfl) (fun _ => rfl) (fun _ => rfl) (fun _ => rfl) (fun _ => rfl) (fun _ => rfl) (fun _ => rfl) (fun _ => rfl) (fun _ => rfl) (fun _ => rfl) (fun _ => rfl) (fun _ => rfl) (fun _ => rfl) (fun _ => rfl) (fun _ => rfl) (fun _ => rfl))
theorem LMw.iN0 (w : LMw b μ h0 h) : LMw b (lm_N μ 0 (μ.2.2.1 0 + 1)) h0 (hl_set h (b 0) (.inr (10, [.ref (b 1), .ref (b 2), .ref (b 3), .ref (b 4), .ref (b 5), .ref (b 6), .ref (b 7), .ref (b 8), .ref (b 9), .ref (b 10), .ref (b 11), .ref (b 12), .ref (b 13), .ref (b 14), .ref (b 15), .ref (b 16), .ref (b 17), .ref (b 18), .ref (b 19), .ref (b 20), .ref (b 21), .ref (b 22), .ref (b 23), .ref (b 24), .ref (b 25), .ref (b 26), .int (μ.2.2.2), .int (nI (μ.2.2.1 0) + 1), .int (nI (μ.2.2.1 1)), .int (nI (μ.2.2.1 2)), .int (nI (μ.2.2.1 3)), .int (nI (μ.2.2.1 4))]))) := by
  have e := w.sN0 (μ.2.2.1 0 + 1)
  rw [← nI_1] at e
  exact e
theorem LMw.iN1 (w : LMw b μ h0 h) : LMw b (lm_N μ 1 (μ.2.2.1 1 + 1)) h0 (hl_set h (b 0) (.inr (10, [.ref (b 1), .ref (b 2), .ref (b 3), .ref (b 4), .ref (b 5), .ref (b 6), .ref (b 7), .ref (b 8), .ref (b 9), .ref (b 10), .ref (b 11), .ref (b 12), .ref (b 13), .ref (b 14), .ref (b 15), .ref (b 16), .ref (b 17), .ref (b 18), .ref (b 19), .ref (b 20), .ref (b 21), .ref (b 22), .ref (b 23), .ref (b 24), .ref (b 25), .ref (b 26), .int (μ.2.2.2), .int (nI (μ.2.2.1 0)), .int (nI (μ.2.2.1 1) + 1), .int (nI (μ.2.2.1 2)), .int (nI (μ.2.2.1 3)), .int (nI (μ.2.2.1 4))]))) := by
  have e := w.sN1 (μ.2.2.1 1 + 1)
  rw [← nI_1] at e
  exact e
theorem LMw.iN2 (w : LMw b μ h0 h) : LMw b (lm_N μ 2 (μ.2.2.1 2 + 1)) h0 (hl_set h (b 0) (.inr (10, [.ref (b 1), .ref (b 2), .ref (b 3), .ref (b 4), .ref (b 5), .ref (b 6), .ref (b 7), .ref (b 8), .ref (b 9), .ref (b 10), .ref (b 11), .ref (b 12), .ref (b 13), .ref (b 14), .ref (b 15), .ref (b 16), .ref (b 17), .ref (b 18), .ref (b 19), .ref (b 20), .ref (b 21), .ref (b 22), .ref (b 23), .ref (b 24), .ref (b 25), .ref (b 26), .int (μ.2.2.2), .int (nI (μ.2.2.1 0)), .int (nI (μ.2.2.1 1)), .int (nI (μ.2.2.1 2) + 1), .int (nI (μ.2.2.1 3)), .int (nI (μ.2.2.1 4))]))) := by
  have e := w.sN2 (μ.2.2.1 2 + 1)
  rw [← nI_1] at e
  exact e
theorem LMw.iN3 (w : LMw b μ h0 h) : LMw b (lm_N μ 3 (μ.2.2.1 3 + 1)) h0 (hl_set h (b 0) (.inr (10, [.ref (b 1), .ref (b 2), .ref (b 3), .ref (b 4), .ref (b 5), .ref (b 6), .ref (b 7), .ref (b 8), .ref (b 9), .ref (b 10), .ref (b 11), .ref (b 12), .ref (b 13), .ref (b 14), .ref (b 15), .ref (b 16), .ref (b 17), .ref (b 18), .ref (b 19), .ref (b 20), .ref (b 21), .ref (b 22), .ref (b 23), .ref (b 24), .ref (b 25), .ref (b 26), .int (μ.2.2.2), .int (nI (μ.2.2.1 0)), .int (nI (μ.2.2.1 1)), .int (nI (μ.2.2.1 2)), .int (nI (μ.2.2.1 3) + 1), .int (nI (μ.2.2.1 4))]))) := by
  have e := w.sN3 (μ.2.2.1 3 + 1)
  rw [← nI_1] at e
  exact e
theorem LMw.iN4 (w : LMw b μ h0 h) : LMw b (lm_N μ 4 (μ.2.2.1 4 + 1)) h0 (hl_set h (b 0) (.inr (10, [.ref (b 1), .ref (b 2), .ref (b 3), .ref (b 4), .ref (b 5), .ref (b 6), .ref (b 7), .ref (b 8), .ref (b 9), .ref (b 10), .ref (b 11), .ref (b 12), .ref (b 13), .ref (b 14), .ref (b 15), .ref (b 16), .ref (b 17), .ref (b 18), .ref (b 19), .ref (b 20), .ref (b 21), .ref (b 22), .ref (b 23), .ref (b 24), .ref (b 25), .ref (b 26), .int (μ.2.2.2), .int (nI (μ.2.2.1 0)), .int (nI (μ.2.2.1 1)), .int (nI (μ.2.2.1 2)), .int (nI (μ.2.2.1 3)), .int (nI (μ.2.2.1 4) + 1)]))) := by
  have e := w.sN4 (μ.2.2.1 4 + 1)
  rw [← nI_1] at e
  exact e
theorem LMw.s0 (w : LMw b μ h0 h) (f : Nat → Int32) : LMw b (lm_I μ 0 f) h0 (hl_set h (b 1) (.inl (10, .inl (f)))) :=
  w.set 1 (by decide) _ rfl (lm_of27 (P := fun k => k ≠ 1 → lm_cell b (lm_I μ 0 f) k = lm_cell b μ k) (fun _ => rfl) (fun e => (e rfl).elim) (fun _ => rfl) (fun _ => rfl) (fun _ => rfl) (fun _ => rfl) (fun _ => rfl) (fun _ => rfl) (fun _ => rfl) (fun _ => rfl) (fun _ => rfl) (fun _ => rfl) (fun _ => rfl) (fun _ => rfl) (fun _ => rfl) (fun _ => rfl) (fun _ => rfl) (fun _ => rfl) (fun _ => rfl) (fun _ => rfl) (fun _ => rfl) (fun _ => rfl) (fun _ => rfl) (fun _ => rfl) (fun _ => rfl) (fun _ => rfl) (fun _ => rfl))
theorem LMw.s1 (w : LMw b μ h0 h) (f : Nat → Int32) : LMw b (lm_I μ 1 f) h0 (hl_set h (b 2) (.inl (10, .inl (f)))) :=
  w.set 2 (by decide) _ rfl (lm_of27 (P := fun k => k ≠ 2 → lm_cell b (lm_I μ 1 f) k = lm_cell b μ k) (fun _ => rfl) (fun _ => rfl) (fun e => (e rfl).elim) (fun _ => rfl) (fun _ => rfl) (fun _ => rfl) (fun _ => rfl) (fun _ => rfl) (fun _ => rfl) (fun _ => rfl) (fun _ => rfl) (fun _ => rfl) (fun _ => rfl) (fun _ => rfl) (fun _ => rfl) (fun _ => rfl) (fun _ => rfl) (fun _ => rfl) (fun _ => rfl) (fun _ => rfl) (fun _ => rfl) (fun _ => rfl) (fun _ => rfl) (fun _ => rfl) (fun _ => rfl) (fun _ => rfl) (fun _ => rfl))
theorem LMw.s2 (w : LMw b μ h0 h) (f : Nat → Int32) : LMw b (lm_I μ 2 f) h0 (hl_set h (b 3) (.inl (4, .inl (f)))) :=
  w.set 3 (by decide) _ rfl (lm_of27 (P := fun k => k ≠ 3 → lm_cell b (lm_I μ 2 f) k = lm_cell b μ k) (fun _ => rfl) (fun _ => rfl) (fun _ => rfl) (fun e => (e rfl).elim) (fun _ => rfl) (fun _ => rfl) (fun _ => rfl) (fun _ => rfl) (fun _ => rfl) (fun _ => rfl) (fun _ => rfl) (fun _ => rfl) (fun _ => rfl) (fun _ => rfl) (fun _ => rfl) (fun _ => rfl) (fun _ => rfl) (fun _ => rfl) (fun _ => rfl) (fun _ => rfl) (fun _ => rfl) (fun _ => rfl) (fun _ => rfl) (fun _ => rfl) (fun _ => rfl) (fun _ => rfl) (fun _ => rfl))
theorem LMw.s3 (w : LMw b μ h0 h) (f : Nat → Int64) : LMw b (lm_J μ 3 f) h0 (hl_set h (b 4) (.inl (10, .inr (.inl (f))))) :=
  w.set 4 (by decide) _ rfl (lm_of27 (P := fun k => k ≠ 4 → lm_cell b (lm_J μ 3 f) k = lm_cell b μ k) (fun _ => rfl) (fun _ => rfl) (fun _ => rfl) (fun _ => rfl) (fun e => (e rfl).elim) (fun _ => rfl) (fun _ => rfl) (fun _ => rfl) (fun _ => rfl) (fun _ => rfl) (fun _ => rfl) (fun _ => rfl) (fun _ => rfl) (fun _ => rfl) (fun _ => rfl) (fun _ => rfl) (fun _ => rfl) (fun _ => rfl) (fun _ => rfl) (fun _ => rfl) (fun _ => rfl) (fun _ => rfl) (fun _ => rfl) (fun _ => rfl) (fun _ => rfl) (fun _ => rfl) (fun _ => rfl))
theorem LMw.s4 (w : LMw b μ h0 h) (f : Nat → Int64) : LMw b (lm_J μ 4 f) h0 (hl_set h (b 5) (.inl (4, .inr (.inl (f))))) :=
  w.set 5 (by decide) _ rfl (lm_of27 (P := fun k => k ≠ 5 → lm_cell b (lm_J μ 4 f) k = lm_cell b μ k) (fun _ => rfl) (fun _ => rfl) (fun _ => rfl) (fun _ => rfl) (fun _ => rfl) (fun e => (e rfl).elim) (fun _ => rfl) (fun _ => rfl) (fun _ => rfl) (fun _ => rfl) (fun _ => rfl) (fun _ => rfl) (fun _ => rfl) (fun _ => rfl) (fun _ => rfl) (fun _ => rfl) (fun _ => rfl) (fun _ => rfl) (fun _ => rfl) (fun _ => rfl) (fun _ => rfl) (fun _ => rfl) (fun _ => rfl) (fun _ => rfl) (fun _ => rfl) (fun _ => rfl) (fun _ => rfl))
theorem LMw.s5 (w : LMw b μ h0 h) (f : Nat → Int64) : LMw b (lm_J μ 5 f) h0 (hl_set h (b 6) (.inl (4, .inr (.inl (f))))) :=
  w.set 6 (by decide) _ rfl (lm_of27 (P := fun k => k ≠ 6 → lm_cell b (lm_J μ 5 f) k = lm_cell b μ k) (fun _ => rfl) (fun _ => rfl) (fun _ => rfl) (fun _ => rfl) (fun _ => rfl) (fun _ => rfl) (fun e => (e rfl).elim) (fun _ => rfl) (fun _ => rfl) (fun _ => rfl) (fun _ => rfl) (fun _ => rfl) (fun _ => rfl) (fun _ => rfl) (fun _ => rfl) (fun _ => rfl) (fun _ => rfl) (fun _ => rfl) (fun _ => rfl) (fun _ => rfl) (fun _ => rfl) (fun _ => rfl) (fun _ => rfl) (fun _ => rfl) (fun _ => rfl) (fun _ => rfl) (fun _ => rfl))
theorem LMw.s6 (w : LMw b μ h0 h) (f : Nat → Int64) : LMw b (lm_J μ 6 f) h0 (hl_set h (b 7) (.inl (10, .inr (.inl (f))))) :=
  w.set 7 (by decide) _ rfl (lm_of27 (P := fun k => k ≠ 7 → lm_cell b (lm_J μ 6 f) k = lm_cell b μ k) (fun _ => rfl) (fun _ => rfl) (fun _ => rfl) (fun _ => rfl) (fun _ => rfl) (fun _ => rfl) (fun _ => rfl) (fun e => (e rfl).elim) (fun _ => rfl) (fun _ => rfl) (fun _ => rfl) (fun _ => rfl) (fun _ => rfl) (fun _ => rfl) (fun _ => rfl) (fun _ => rfl) (fun _ => rfl) (fun _ => rfl) (fun _ => rfl) (fun _ => rfl) (fun _ => rfl) (fun _ => rfl) (fun _ => rfl) (fun _ => rfl) (fun _ => rfl) (fun _ => rfl) (fun _ => rfl))
theorem LMw.s7 (w : LMw b μ h0 h) (f : Nat → Int32) : LMw b (lm_I μ 7 f) h0 (hl_set h (b 8) (.inl (150, .inl (f)))) :=
  w.set 8 (by decide) _ rfl (lm_of27 (P := fun k => k ≠ 8 → lm_cell b (lm_I μ 7 f) k = lm_cell b μ k) (fun _ => rfl) (fun _ => rfl) (fun _ => rfl) (fun _ => rfl) (fun _ => rfl) (fun _ => rfl) (fun _ => rfl) (fun _ => rfl) (fun e => (e rfl).elim) (fun _ => rfl) (fun _ => rfl) (fun _ => rfl) (fun _ => rfl) (fun _ => rfl) (fun _ => rfl) (fun _ => rfl) (fun _ => rfl) (fun _ => rfl) (fun _ => rfl) (fun _ => rfl) (fun _ => rfl) (fun _ => rfl) (fun _ => rfl) (fun _ => rfl) (fun _ => rfl) (fun _ => rfl) (fun _ => rfl))
theorem LMw.s8 (w : LMw b μ h0 h) (f : Nat → Int32) : LMw b (lm_I μ 8 f) h0 (hl_set h (b 9) (.inl (150, .inl (f)))) :=
  w.set 9 (by decide) _ rfl (lm_of27 (P := fun k => k ≠ 9 → lm_cell b (lm_I μ 8 f) k = lm_cell b μ k) (fun _ => rfl) (fun _ => rfl) (fun _ => rfl) (fun _ => rfl) (fun _ => rfl) (fun _ => rfl) (fun _ => rfl) (fun _ => rfl) (fun _ => rfl) (fun e => (e rfl).elim) (fun _ => rfl) (fun _ => rfl) (fun _ => rfl) (fun _ => rfl) (fun _ => rfl) (fun _ => rfl) (fun _ => rfl) (fun _ => rfl) (fun _ => rfl) (fun _ => rfl) (fun _ => rfl) (fun _ => rfl) (fun _ => rfl) (fun _ => rfl) (fun _ => rfl) (fun _ => rfl) (fun _ => rfl))
theorem LMw.s9 (w : LMw b μ h0 h) (f : Nat → Int32) : LMw b (lm_I μ 9 f) h0 (hl_set h (b 10) (.inl (150, .inl (f)))) :=
  w.set 10 (by decide) _ rfl (lm_of27 (P := fun k => k ≠ 10 → lm_cell b (lm_I μ 9 f) k = lm_cell b μ k) (fun _ => rfl) (fun _ => rfl) (fun _ => rfl) (fun _ => rfl) (fun _ => rfl) (fun _ => rfl) (fun _ => rfl) (fun _ => rfl) (fun _ => rfl) (fun _ => rfl) (fun e => (e rfl).elim) (fun _ => rfl) (fun _ => rfl) (fun _ => rfl) (fun _ => rfl) (fun _ => rfl) (fun _ => rfl) (fun _ => rfl) (fun _ => rfl) (fun _ => rfl) (fun _ => rfl) (fun _ => rfl) (fun _ => rfl) (fun _ => rfl) (fun _ => rfl) (fun _ => rfl) (fun _ => rfl))
theorem LMw.s10 (w : LMw b μ h0 h) (f : Nat → Int32) : LMw b (lm_I μ 10 f) h0 (hl_set h (b 11) (.inl (150, .inl (f)))) :=
  w.set 11 (by decide) _ rfl (lm_of27 (P := fun k => k ≠ 11 → lm_cell b (lm_I μ 10 f) k = lm_cell b μ k) (fun _ => rfl) (fun _ => rfl) (fun _ => rfl) (fun _ => rfl) (fun _ => rfl) (fun _ => rfl) (fun _ => rfl) (fun _ => rfl) (fun _ => rfl) (fun _ => rfl) (fun _ => rfl) (fun e => (e rfl).elim) (fun _ => rfl) (fun _ => rfl) (fun _ => rfl) (fun _ => rfl) (fun _ => rfl) (fun _ => rfl) (fun _ => rfl) (fun _ => rfl) (fun _ => rfl) (fun _ => rfl) (fun _ => rfl) (fun _ => rfl) (fun _ => rfl) (fun _ => rfl) (fun _ => rfl))
theorem LMw.s11 (w : LMw b μ h0 h) (f : Nat → Int32) : LMw b (lm_I μ 11 f) h0 (hl_set h (b 12) (.inl (150, .inl (f)))) :=
  w.set 12 (by decide) _ rfl (lm_of27 (P := fun k => k ≠ 12 → lm_cell b (lm_I μ 11 f) k = lm_cell b μ k) (fun _ => rfl) (fun _ => rfl) (fun _ => rfl) (fun _ => rfl) (fun _ => rfl) (fun _ => rfl) (fun _ => rfl) (fun _ => rfl) (fun _ => rfl) (fun _ => rfl) (fun _ => rfl) (fun _ => rfl) (fun e => (e rfl).elim) (fun _ => rfl) (fun _ => rfl) (fun _ => rfl) (fun _ => rfl) (fun _ => rfl) (fun _ => rfl) (fun _ => rfl) (fun _ => rfl) (fun _ => rfl) (fun _ => rfl) (fun _ => rfl) (fun _ => rfl) (fun _ => rfl) (fun _ => rfl))
theorem LMw.s12 (w : LMw b μ h0 h) (f : Nat → Int32) : LMw b (lm_I μ 12 f) h0 (hl_set h (b 13) (.inl (150, .inl (f)))) :=
  w.set 13 (by decide) _ rfl (lm_of27 (P := fun k => k ≠ 13 → lm_cell b (lm_I μ 12 f) k = lm_cell b μ k) (fun _ => rfl) (fun _ => rfl) (fun _ => rfl) (fun _ => rfl) (fun _ => rfl) (fun _ => rfl) (fun _ => rfl) (fun _ => rfl) (fun _ => rfl) (fun _ => rfl) (fun _ => rfl) (fun _ => rfl) (fun _ => rfl) (fun e => (e rfl).elim) (fun _ => rfl) (fun _ => rfl) (fun _ => rfl) (fun _ => rfl) (fun _ => rfl) (fun _ => rfl) (fun _ => rfl) (fun _ => rfl) (fun _ => rfl) (fun _ => rfl) (fun _ => rfl) (fun _ => rfl) (fun _ => rfl))
theorem LMw.s13 (w : LMw b μ h0 h) (f : Nat → Int32) : LMw b (lm_I μ 13 f) h0 (hl_set h (b 14) (.inl (150, .inl (f)))) :=
  w.set 14 (by decide) _ rfl (lm_of27 (P := fun k => k ≠ 14 → lm_cell b (lm_I μ 13 f) k = lm_cell b μ k) (fun _ => rfl) (fun _ => rfl) (fun _ => rfl) (fun _ => rfl) (fun _ => rfl) (fun _ => rfl) (fun _ => rfl) (fun _ => rfl) (fun _ => rfl) (fun _ => rfl) (fun _ => rfl) (fun _ => rfl) (fun _ => rfl) (fun _ => rfl) (fun e => (e rfl).elim) (fun _ => rfl) (fun _ => rfl) (fun _ => rfl) (fun _ => rfl) (fun _ => rfl) (fun _ => rfl) (fun _ => rfl) (fun _ => rfl) (fun _ => rfl) (fun _ => rfl) (fun _ => rfl) (fun _ => rfl))
theorem LMw.s14 (w : LMw b μ h0 h) (f : Nat → Int32) : LMw b (lm_I μ 14 f) h0 (hl_set h (b 15) (.inl (30, .inl (f)))) :=
  w.set 15 (by decide) _ rfl (lm_of27 (P := fun k => k ≠ 15 → lm_cell b (lm_I μ 14 f) k = lm_cell b μ k) (fun _ => rfl) (fun _ => rfl) (fun _ => rfl) (fun _ => rfl) (fun _ => rfl) (fun _ => rfl) (fun _ => rfl) (fun _ => rfl) (fun _ => rfl) (fun _ => rfl) (fun _ => rfl) (fun _ => rfl) (fun _ => rfl) (fun _ => rfl) (fun _ => rfl) (fun e => (e rfl).elim) (fun _ => rfl) (fun _ => rfl) (fun _ => rfl) (fun _ => rfl) (fun _ => rfl) (fun _ => rfl) (fun _ => rfl) (fun _ => rfl) (fun _ => rfl) (fun _ => rfl) (fun _ => rfl))
theorem LMw.s15 (w : LMw b μ h0 h) (f : Nat → Int32) : LMw b (lm_I μ 15 f) h0 (hl_set h (b 16) (.inl (30, .inl (f)))) :=
  w.set 16 (by decide) _ rfl (lm_of27 (P := fun k => k ≠ 16 → lm_cell b (lm_I μ 15 f) k = lm_cell b μ k) (fun _ => rfl) (fun _ => rfl) (fun _ => rfl) (fun _ => rfl) (fun _ => rfl) (fun _ => rfl) (fun _ => rfl) (fun _ => rfl) (fun _ => rfl) (fun _ => rfl) (fun _ => rfl) (fun _ => rfl) (fun _ => rfl) (fun _ => rfl) (fun _ => rfl) (fun _ => rfl) (fun e => (e rfl).elim) (fun _ => rfl) (fun _ => rfl) (fun _ => rfl) (fun _ => rfl) (fun _ => rfl) (fun _ => rfl) (fun _ => rfl) (fun _ => rfl) (fun _ => rfl) (fun _ => rfl))
theorem LMw.s16 (w : LMw b μ h0 h) (f : Nat → Int32) : LMw b (lm_I μ 16 f) h0 (hl_set h (b 17) (.inl (30, .inl (f)))) :=
  w.set 17 (by decide) _ rfl (lm_of27 (P := fun k => k ≠ 17 → lm_cell b (lm_I μ 16 f) k = lm_cell b μ k) (fun _ => rfl) (fun _ => rfl) (fun _ => rfl) (fun _ => rfl) (fun _ => rfl) (fun _ => rfl) (fun _ => rfl) (fun _ => rfl) (fun _ => rfl) (fun _ => rfl) (fun _ => rfl) (fun _ => rfl) (fun _ => rfl) (fun _ => rfl) (fun _ => rfl) (fun _ => rfl) (fun _ => rfl) (fun e => (e rfl).elim) (fun _ => rfl) (fun _ => rfl) (fun _ => rfl) (fun _ => rfl) (fun _ => rfl) (fun _ => rfl) (fun _ => rfl) (fun _ => rfl) (fun _ => rfl))
theorem LMw.s17 (w : LMw b μ h0 h) (f : Nat → Int32) : LMw b (lm_I μ 17 f) h0 (hl_set h (b 18) (.inl (30, .inl (f)))) :=
  w.set 18 (by decide) _ rfl (lm_of27 (P := fun k => k ≠ 18 → lm_cell b (lm_I μ 17 f) k = lm_cell b μ k) (fun _ => rfl) (fun _ => rfl) (fun _ => rfl) (fun _ => rfl) (fun _ => rfl) (fun _ => rfl) (fun _ => rfl) (fun _ => rfl) (fun _ => rfl) (fun _ => rfl) (fun _ => rfl) (fun _ => rfl) (fun _ => rfl) (fun _ => rfl) (fun _ => rfl) (fun _ => rfl) (fun _ => rfl) (fun _ => rfl) (fun e => (e rfl).elim) (fun _ => rfl) (fun _ => rfl) (fun _ => rfl) (fun _ => rfl) (fun _ => rfl) (fun _ => rfl) (fun _ => rfl) (fun _ => rfl))
theorem LMw.s18 (w : LMw b μ h0 h) (f : Nat → Int32) : LMw b (lm_I μ 18 f) h0 (hl_set h (b 19) (.inl (30, .inl (f)))) :=
  w.set 19 (by decide) _ rfl (lm_of27 (P := fun k => k ≠ 19 → lm_cell b (lm_I μ 18 f) k = lm_cell b μ k) (fun _ => rfl) (fun _ => rfl) (fun _ => rfl) (fun _ => rfl) (fun _ => rfl) (fun _ => rfl) (fun _ => rfl) (fun _ => rfl) (fun _ => rfl) (fun _ => rfl) (fun _ => rfl) (fun _ => rfl) (fun _ => rfl) (fun _ => rfl) (fun _ => rfl) (fun _ => rfl) (fun _ => rfl) (fun _ => rfl) (fun _ => rfl) (fun e => (e rfl).elim) (fun _ => rfl) (fun _ => rfl) (fun _ => rfl) (fun _ => rfl) (fun _ => rfl) (fun _ => rfl) (fun _ => rfl))
theorem LMw.s19 (w : LMw b μ h0 h) (f : Nat → Int32) : LMw b (lm_I μ 19 f) h0 (hl_set h (b 20) (.inl (12, .inl (f)))) :=
  w.set 20 (by decide) _ rfl (lm_of27 (P := fun k => k ≠ 20 → lm_cell b (lm_I μ 19 f) k = lm_cell b μ k) (fun _ => rfl) (fun _ => rfl) (fun _ => rfl) (fun _ => rfl) (fun _ => rfl) (fun _ => rfl) (fun _ => rfl) (fun _ => rfl) (fun _ => rfl) (fun _ => rfl) (fun _ => rfl) (fun _ => rfl) (fun _ => rfl) (fun _ => rfl) (fun _ => rfl) (fun _ => rfl) (fun _ => rfl) (fun _ => rfl) (fun _ => rfl) (fun _ => rfl) (fun e => (e rfl).elim) (fun _ => rfl) (fun _ => rfl) (fun _ => rfl) (fun _ => rfl) (fun _ => rfl) (fun _ => rfl))
theorem LMw.s20 (w : LMw b μ h0 h) (f : Nat → Int32) : LMw b (lm_I μ 20 f) h0 (hl_set h (b 21) (.inl (12, .inl (f)))) :=
  w.set 21 (by decide) _ rfl (lm_of27 (P := fun k => k ≠ 21 → lm_cell b (lm_I μ 20 f) k = lm_cell b μ k) (fun _ => rfl) (fun _ => rfl) (fun _ => rfl) (fun _ => rfl) (fun _ => rfl) (fun _ => rfl) (fun _ => rfl) (fun _ => rfl) (fun _ => rfl) (fun _ => rfl) (fun _ => rfl) (fun _ => rfl) (fun _ => rfl) (fun _ => rfl) (fun _ => rfl) (fun _ => rfl) (fun _ => rfl) (fun _ => rfl) (fun _ => rfl) (fun _ => rfl) (fun _ => rfl) (fun e => (e rfl).elim) (fun _ => rfl) (fun _ => rfl) (fun _ => rfl) (fun _ => rfl) (fun _ => rfl))
theorem LMw.s21 (w : LMw b μ h0 h) (f : Nat → Int32) : LMw b (lm_I μ 21 f) h0 (hl_set h (b 22) (.inl (12, .inl (f)))) :=
  w.set 22 (by decide) _ rfl (lm_of27 (P := fun k => k ≠ 22 → lm_cell b (lm_I μ 21 f) k = lm_cell b μ k) (fun _ => rfl) (fun _ => rfl) (fun _ => rfl) (fun _ => rfl) (fun _ => rfl) (fun _ => rfl) (fun _ => rfl) (fun _ => rfl) (fun _ => rfl) (fun _ => rfl) (fun _ => rfl) (fun _ => rfl) (fun _ => rfl) (fun _ => rfl) (fun _ => rfl) (fun _ => rfl) (fun _ => rfl) (fun _ => rfl) (fun _ => rfl) (fun _ => rfl) (fun _ => rfl) (fun _ => rfl) (fun e => (e rfl).elim) (fun _ => rfl) (fun _ => rfl) (fun _ => rfl) (fun _ => rfl))
theorem LMw.s22 (w : LMw b μ h0 h) (f : Nat → Int32) : LMw b (lm_I μ 22 f) h0 (hl_set h (b 23) (.inl (1000, .inl (f)))) :=
  w.set 23 (by decide) _ rfl (lm_of27 (P := fun k => k ≠ 23 → lm_cell b (lm_I μ 22 f) k = lm_cell b μ k) (fun _ => rfl) (fun _ => rfl) (fun _ => rfl) (fun _ => rfl) (fun _ => rfl) (fun _ => rfl) (fun _ => rfl) (fun _ => rfl) (fun _ => rfl) (fun _ => rfl) (fun _ => rfl) (fun _ => rfl) (fun _ => rfl) (fun _ => rfl) (fun _ => rfl) (fun _ => rfl) (fun _ => rfl) (fun _ => rfl) (fun _ => rfl) (fun _ => rfl) (fun _ => rfl) (fun _ => rfl) (fun _ => rfl) (fun e => (e rfl).elim) (fun _ => rfl) (fun _ => rfl) (fun _ => rfl))
theorem LMw.s23 (w : LMw b μ h0 h) (f : Nat → Int32) : LMw b (lm_I μ 23 f) h0 (hl_set h (b 24) (.inl (4000, .inl (f)))) :=
  w.set 24 (by decide) _ rfl (lm_of27 (P := fun k => k ≠ 24 → lm_cell b (lm_I μ 23 f) k = lm_cell b μ k) (fun _ => rfl) (fun _ => rfl) (fun _ => rfl) (fun _ => rfl) (fun _ => rfl) (fun _ => rfl) (fun _ => rfl) (fun _ => rfl) (fun _ => rfl) (fun _ => rfl) (fun _ => rfl) (fun _ => rfl) (fun _ => rfl) (fun _ => rfl) (fun _ => rfl) (fun _ => rfl) (fun _ => rfl) (fun _ => rfl) (fun _ => rfl) (fun _ => rfl) (fun _ => rfl) (fun _ => rfl) (fun _ => rfl) (fun _ => rfl) (fun e => (e rfl).elim) (fun _ => rfl) (fun _ => rfl))
theorem LMw.s24 (w : LMw b μ h0 h) (f : Nat → Int32) : LMw b (lm_I μ 24 f) h0 (hl_set h (b 25) (.inl (1000, .inl (f)))) :=
  w.set 25 (by decide) _ rfl (lm_of27 (P := fun k => k ≠ 25 → lm_cell b (lm_I μ 24 f) k = lm_cell b μ k) (fun _ => rfl) (fun _ => rfl) (fun _ => rfl) (fun _ => rfl) (fun _ => rfl) (fun _ => rfl) (fun _ => rfl) (fun _ => rfl) (fun _ => rfl) (fun _ => rfl) (fun _ => rfl) (fun _ => rfl) (fun _ => rfl) (fun _ => rfl) (fun _ => rfl) (fun _ => rfl) (fun _ => rfl) (fun _ => rfl) (fun _ => rfl) (fun _ => rfl) (fun _ => rfl) (fun _ => rfl) (fun _ => rfl) (fun _ => rfl) (fun _ => rfl) (fun e => (e rfl).elim) (fun _ => rfl))
theorem LMw.s25 (w : LMw b μ h0 h) (f : Nat → Int32) : LMw b (lm_I μ 25 f) h0 (hl_set h (b 26) (.inl (1000, .inl (f)))) :=
  w.set 26 (by decide) _ rfl (lm_of27 (P := fun k => k ≠ 26 → lm_cell b (lm_I μ 25 f) k = lm_cell b μ k) (fun _ => rfl) (fun _ => rfl) (fun _ => rfl) (fun _ => rfl) (fun _ => rfl) (fun _ => rfl) (fun _ => rfl) (fun _ => rfl) (fun _ => rfl) (fun _ => rfl) (fun _ => rfl) (fun _ => rfl) (fun _ => rfl) (fun _ => rfl) (fun _ => rfl) (fun _ => rfl) (fun _ => rfl) (fun _ => rfl) (fun _ => rfl) (fun _ => rfl) (fun _ => rfl) (fun _ => rfl) (fun _ => rfl) (fun _ => rfl) (fun _ => rfl) (fun _ => rfl) (fun e => (e rfl).elim))
end LMR
section ST
variable {G : hl_G} {l : Launch} {M : hl_M} {d k n : Nat} {Q : Option Value → hl_H → Prop} {X : String → hl_H → Prop}
variable {p : Program} {e : Env} {s : State} {m : MethodId} {args : Array Value} {below : List Frame} {meth : Method} {c : Code} {lv : List (Nat × Value)} {st : List Value} {h h0 : hl_H} {ce sl pc : Nat}
theorem hl_st {b : Nat → Nat} {μ : LMt} (w : LMw b μ h0 h) (hw : ∀ g, LMw b μ h0 g → hl_GM G M d k n Q X p l e s m args below meth c pc lv st g ce sl) : hl_GM G M d k n Q X p l e s m args below meth c pc lv st h ce sl := hw h w
/-- a static call that reads alone -/
theorem hl_callRS (B : hl_B G M d k n p s m args meth c) {N : hl_M} {d1 na idx kk : Nat} {av1 rest : List Value} {v : Value} (hct : hl_Ct G l N d1 0 0 av1 (fun g => g = h) (fun r g => r = some v ∧ g = h) (fun _ _ => False)) (hm : hl_ms N na) (hd : decode M.2.1 pc = .ok (.invokestatic idx, 3)) (hk : hl_w kk (Jvm.Cond.methodLink M.1.cls idx N.1) = true)
    (hna : av1.length = na) (hrest : (rest.map fun v => v.category).sum ≤ 8) (hfr : d1 + 1 ≤ d) (hlo : N.2.2.1 ≤ 21) (hce : ce ≤ k) (hsl : sl ≤ n)
    (hw : hl_GM G M d k n Q X p l e s m args below meth c (pc + 3) lv (v :: rest) h ce sl) : hl_GM G M d k n Q X p l e s m args below meth c pc lv (av1.reverse ++ rest) h ce sl :=
  hl_callS B hct hm hd hk hna hrest hfr hlo hce hsl rfl (fun r h' q => by
    obtain ⟨rfl, rfl⟩ := q
    exact hw) (fun E h' q => q.elim)
end ST
