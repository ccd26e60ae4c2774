/-! PART 07: the world of one LedgerStream -/
/-- the state: the rows (0-5 Books: currencies limits balances outsides exchanges rates; 6-12 Journal: kinds payers payees paid received days reversals; 13-17 Holds: payers payees amounts lastDays states; 18-20 Batch: payers payees amounts), the sizes (0 accounts, 1 transactions, 2 holds, 3 payments, 4 calls, 5 the day), the calls that are remembered (field j of call i) -/
abbrev LSt : Type := (Nat → Nat → Int64) × (Nat → Nat) × (Nat → Nat → Int32)
def ls_len (k : Nat) : Nat := if k < 3 then 10 else if k < 6 then 4 else if k < 13 then 150 else if k < 18 then 30 else if k < 21 then 12 else 10
/-- the cells of the object by their places: 0 itself, 1 books, 2 journal, 3 holds, 4 batch, 5 memory, 6 the row of calls, 7+k a row, 29+k its array; row 21 is 'sums' -/
def ls_cell (a ca : Nat → Nat) (σ : LSt) (sm : Nat → Int64) (k : Nat) : hl_C :=
  if k = 0 then .inr (9, [.ref (a 1), .ref (a 2), .ref (a 3), .ref (a 4), .ref (a 5), .ref (a 28), .int (nI (σ.2.1 5))])
  else if k = 1 then .inr (3, [.int (nI (σ.2.1 0)), .ref (a 7), .ref (a 8), .ref (a 9), .ref (a 10), .ref (a 11), .ref (a 12)])
  else if k = 2 then .inr (6, [.int (nI (σ.2.1 1)), .ref (a 13), .ref (a 14), .ref (a 15), .ref (a 16), .ref (a 17), .ref (a 18), .ref (a 19)])
  else if k = 3 then .inr (5, [.int (nI (σ.2.1 2)), .ref (a 20), .ref (a 21), .ref (a 22), .ref (a 23), .ref (a 24)])
  else if k = 4 then .inr (2, [.int (nI (σ.2.1 3)), .ref (a 25), .ref (a 26), .ref (a 27)])
  else if k = 5 then .inr (7, [.int (nI (σ.2.1 4)), .ref (a 6)])
  else if k = 6 then .inl (180, .inr (.inr (.inr (.inr (fun i => if i < σ.2.1 4 then some (ca i) else none)))))
  else if k < 29 then .inr (8, [.ref (a (k + 22))])
  else .inl (ls_len (k - 29), .inr (.inl (if k = 50 then sm else σ.1 (k - 29))))
def ls_call (σ : LSt) (i : Nat) : hl_C := .inr (4, [.int (σ.2.2 i 0), .int (σ.2.2 i 1), .int (σ.2.2 i 2), .int (σ.2.2 i 3), .int (σ.2.2 i 4), .int (σ.2.2 i 5), .int (σ.2.2 i 6), .int (σ.2.2 i 7)])
/-- the heap holds the object -/
def LSr (a ca : Nat → Nat) (σ : LSt) (h : hl_H) : Prop := ∃ sm : Nat → Int64, (∀ k : Nat, k < 51 → h (a k) = some (ls_cell a ca σ sm k)) ∧ ∀ i : Nat, i < σ.2.1 4 → h (ca i) = some (ls_call σ i)
/-- the addresses are apart, and h0 is elsewhere and stays -/
def LSd (a ca : Nat → Nat) (n : Nat) (h0 h : hl_H) : Prop := (∀ i j : Nat, i < 51 → j < 51 → a i = a j → i = j) ∧ (∀ i j : Nat, i < n → j < n → ca i = ca j → i = j) ∧ (∀ i j : Nat, i < 51 → j < n → a i ≠ ca j) ∧ (∀ i : Nat, i < 51 → h0 (a i) = none) ∧ (∀ i : Nat, i < n → h0 (ca i) = none) ∧ ∀ (q : Nat) (x : hl_C), h0 q = some x → h q = some x
def LSw (a ca : Nat → Nat) (σ : LSt) (h0 h : hl_H) : Prop := LSr a ca σ h ∧ LSd a ca (σ.2.1 4) h0 h
section LSR
variable {a ca : Nat → Nat} {σ : LSt} {h h0 : hl_H}
theorem LSr.f0 (q : LSr a ca σ h) : h (a 0) = some (.inr (9, [.ref (a 1), .ref (a 2), .ref (a 3), .ref (a 4), .ref (a 5), .ref (a 28), .int (nI (σ.2.1 5))])) := by
  obtain ⟨sm, q1, q2⟩ := q
  exact q1 0 (by decide)
theorem LSr.f1 (q : LSr a ca σ h) : h (a 1) = some (.inr (3, [.int (nI (σ.2.1 0)), .ref (a 7), .ref (a 8), .ref (a 9), .ref (a 10), .ref (a 11), .ref (a 12)])) := by
  obtain ⟨sm, q1, q2⟩ := q
  exact q1 1 (by decide)
theorem LSr.f2 (q : LSr a ca σ h) : h (a 2) = some (.inr (6, [.int (nI (σ.2.1 1)), .ref (a 13), .ref (a 14), .ref (a 15), .ref (a 16), .ref (a 17), .ref (a 18), .ref (a 19)])) := by
  obtain ⟨sm, q1, q2⟩ := q
  exact q1 2 (by decide)
theorem LSr.f3 (q : LSr a ca σ h) : h (a 3) = some (.inr (5, [.int (nI (σ.2.1 2)), .ref (a 20), .ref (a 21), .ref (a 22), .ref (a 23), .ref (a 24)])) := by
  obtain ⟨sm, q1, q2⟩ := q
  exact q1 3 (by decide)
theorem LSr.f4 (q : LSr a ca σ h) : h (a 4) = some (.inr (2, [.int (nI (σ.2.1 3)), .ref (a 25), .ref (a 26), .ref (a 27)])) := by
  obtain ⟨sm, q1, q2⟩ := q
  exact q1 4 (by decide)
theorem LSr.f5 (q : LSr a ca σ h) : h (a 5) = some (.inr (7, [.int (nI (σ.2.1 4)), .ref (a 6)])) := by
  obtain ⟨sm, q1, q2⟩ := q
  exact q1 5 (by decide)
theorem LSr.f6 (q : LSr a ca σ h) : h (a 6) = some (.inl (180, .inr (.inr (.inr (.inr (fun i => if i < σ.2.1 4 then some (ca i) else none)))))) := by
  obtain ⟨sm, q1, q2⟩ := q
  exact q1 6 (by decide)
theorem LSr.fc (q : LSr a ca σ h) {i : Nat} (hi : i < σ.2.1 4) : h (ca i) = some (ls_call σ i) := by
  obtain ⟨sm, q1, q2⟩ := q
  exact q2 i hi
theorem LSr.fr (q : LSr a ca σ h) (k : Nat) (hk : k < 22) : h (a (7 + k)) = some (.inr (8, [.ref (a (29 + k))])) := by
  obtain ⟨sm, q1, q2⟩ := q
  have e := q1 (7 + k) (by omega)
  unfold ls_cell at e
  rw [if_neg (by omega), if_neg (by omega), if_neg (by omega), if_neg (by omega), if_neg (by omega), if_neg (by omega), if_neg (by omega), if_pos (by omega)] at e
  rw [e, show 7 + k + 22 = 29 + k by omega]
theorem LSr.fa (q : LSr a ca σ h) (k : Nat) (hk : k < 21) : h (a (29 + k)) = some (.inl (ls_len k, .inr (.inl (σ.1 k)))) := by
  obtain ⟨sm, q1, q2⟩ := q
  have e := q1 (29 + k) (by omega)
  unfold ls_cell at e
  rw [if_neg (by omega), if_neg (by omega), if_neg (by omega), if_neg (by omega), if_neg (by omega), if_neg (by omega), if_neg (by omega), if_neg (by omega), if_neg (show ¬ 29 + k = 50 by omega), show 29 + k - 29 = k by omega] at e
  exact e
theorem ls_len_lt (k : Nat) : ls_len k < 2 ^ 31 := by
  unfold ls_len
  repeat' split
  all_goals decide
/-- reads of a row -/
theorem ls_at {G : hl_G} {l : Launch} (q : LSr a ca σ h) (k : Nat) (hk : k < 21) (i : Int32) : hl_Ct G l mX6_at 0 0 0 [.ref (a (7 + k)), .int i] (fun g => g = h) (fun v g => v = some (.long (row_at (ls_len k) (σ.1 k) i)) ∧ g = h) (fun _ _ => False) :=
  ct_X6_at (q.fr k (by omega)) (q.fa k hk) (ls_len_lt k)
theorem ls_intAt {G : hl_G} {l : Launch} (q : LSr a ca σ h) (k : Nat) (hk : k < 21) (i : Int32) : hl_Ct G l mX6_intAt 0 0 0 [.ref (a (7 + k)), .int i] (fun g => g = h) (fun v g => v = some (.int (row_intAt (ls_len k) (σ.1 k) i)) ∧ g = h) (fun _ _ => False) :=
  ct_X6_intAt (q.fr k (by omega)) (q.fa k hk) (ls_len_lt k)
/-- a row of the state set -/
def ls_row (σ : LSt) (k : Nat) (f : Nat → Int64) : LSt := (va_up σ.1 k f, σ.2.1, σ.2.2)
/-- a size set -/
def ls_sz (σ : LSt) (k n : Nat) : LSt := (σ.1, va_up σ.2.1 k n, σ.2.2)
theorem hl_Ct.mo {G : hl_G} {l : Launch} {M : hl_M} {d k n : Nat} {av : List Value} {P : hl_H → Prop} {Q : Option Value → hl_H → Prop} {X : String → hl_H → Prop} {Q' : Option Value → hl_H → Prop} (hh : hl_Ct G l M d k n av P Q X) (hQ : ∀ r h, Q r h → Q' r h) : hl_Ct G l M d k n av P Q' X :=
  hl_Ct.mono hh (fun _ z => z) hQ (fun _ _ z => z)
theorem hl_Ct.all {G : hl_G} {l : Launch} {M : hl_M} {d k n : Nat} {av : List Value} {P : hl_H → Prop} {Q : Option Value → hl_H → Prop} {X : String → hl_H → Prop} (hh : ∀ h, P h → hl_Ct G l M d k n av (fun g => g = h) Q X) : hl_Ct G l M d k n av P Q X := by
  intro p e h1 h2 h3 s m args below h4 h5 h6 h7
  obtain ⟨hv, hE, hS, g, hPh, hp⟩ := h6
  exact hh g hp p e h1 h2 h3 s m args below h4 h5 ⟨hv, hE, hS, g, hPh, rfl⟩ h7
/-- a cell at place j changes -/
theorem LSw.set (q : LSw a ca σ h0 h) {σ' : LSt} (j : Nat) (hj : j < 51) (x : hl_C) (hn : σ'.2.1 4 = σ.2.1 4) (hc : σ'.2.2 = σ.2.2)
    (hx : ∀ sm, (∃ sm', x = ls_cell a ca σ' sm' j ∧ ∀ k, k < 51 → k ≠ j → ls_cell a ca σ' sm' k = ls_cell a ca σ sm k)) : LSw a ca σ' h0 (hl_set h (a j) x) := by
  obtain ⟨⟨sm, q1, q2⟩, d1, d2, d3, d4, d5, d6⟩ := q
  obtain ⟨sm', hx1, hx2⟩ := hx sm
  refine ⟨⟨sm', fun k hk => ?_, fun i hi => ?_⟩, d1, ?_, ?_, d4, ?_, fun b y hb => ?_⟩
  · by_cases hkj : k = j
    · subst hkj; rw [hs_set1, hx1]
    · rw [hs_set2 (fun z => hkj (d1 k j hk hj z)), q1 k hk, hx2 k hk hkj]
  · rw [hn] at hi
    rw [hs_set2 (fun z => d3 j i hj hi z.symm), q2 i hi]
    unfold ls_call
    rw [hc]
  · rw [hn]; exact d2
  · rw [hn]; exact d3
  · rw [hn]; exact d5
  · by_cases hba : b = a j
    · subst hba; rw [d4 j hj] at hb; cases hb
    · rw [hs_set2 hba]; exact d6 b y hb
theorem LSw.setRow (q : LSw a ca σ h0 h) (k : Nat) (hk : k < 21) (f : Nat → Int64) : LSw a ca (ls_row σ k f) h0 (hl_set h (a (29 + k)) (.inl (ls_len k, .inr (.inl f)))) := by
  refine q.set (29 + k) (by omega) _ rfl rfl (fun sm => ⟨sm, ?_, fun j hj hne => ?_⟩)
  · unfold ls_cell
    rw [if_neg (by omega), if_neg (by omega), if_neg (by omega), if_neg (by omega), if_neg (by omega), if_neg (by omega), if_neg (by omega), if_neg (by omega), if_neg (show ¬ 29 + k = 50 by omega), show 29 + k - 29 = k by omega]
    simp [ls_row, va_up]
  · unfold ls_cell ls_row
    by_cases h50 : j = 50
    · subst h50; rfl
    · by_cases hlt : j < 29
      · simp only [hlt, if_true]
      · have e9 : j - 29 ≠ k := by omega
        simp [show j ≠ 0 by omega, show j ≠ 1 by omega, show j ≠ 2 by omega, show j ≠ 3 by omega, show j ≠ 4 by omega, show j ≠ 5 by omega, show j ≠ 6 by omega, hlt, h50, va_up, e9]
theorem LSw.setSums (q : LSw a ca σ h0 h) (f : Nat → Int64) : LSw a ca σ h0 (hl_set h (a 50) (.inl (10, .inr (.inl f)))) := by
  refine q.set 50 (by omega) _ rfl rfl (fun sm => ⟨f, ?_, fun j hj hne => ?_⟩)
  · rfl
  · unfold ls_cell
    simp only [hne, if_false]
theorem ls_put {G : hl_G} {l : Launch} (k : Nat) (hk : k < 21) (i : Int32) (v : Int64) : hl_Ct G l mX6_put 0 0 0 [.ref (a (7 + k)), .int i, .long v] (LSw a ca σ h0) (fun r g => r = none ∧ LSw a ca (ls_row σ k (row_put (ls_len k) (σ.1 k) i v)) h0 g) (fun _ _ => False) :=
  hl_Ct.all fun h q => (ct_X6_put (q.1.fr k (by omega)) (q.1.fa k hk) (ls_len_lt k)).mo (fun r g z => ⟨z.1, by rw [z.2]; exact q.setRow k hk _⟩)
theorem ls_add {G : hl_G} {l : Launch} (k : Nat) (hk : k < 21) (i : Int32) (v : Int64) : hl_Ct G l mX6_add 0 0 0 [.ref (a (7 + k)), .int i, .long v] (LSw a ca σ h0) (fun r g => r = none ∧ LSw a ca (ls_row σ k (row_add (ls_len k) (σ.1 k) i v)) h0 g) (fun _ _ => False) :=
  hl_Ct.all fun h q => (ct_X6_add (q.1.fr k (by omega)) (q.1.fa k hk) (ls_len_lt k)).mo (fun r g z => ⟨z.1, by rw [z.2]; exact q.setRow k hk _⟩)
/-! the sizes change -/
theorem LSw.sz0 (q : LSw a ca σ h0 h) (n : Nat) : LSw a ca (ls_sz σ 0 n) h0 (hl_set h (a 1) (.inr (3, [.int (nI n), .ref (a 7), .ref (a 8), .ref (a 9), .ref (a 10), .ref (a 11), .ref (a 12)]))) :=
  q.set 1 (by decide) _ rfl rfl (fun sm => ⟨sm, rfl, fun k hk hne => by simp [ls_cell, ls_sz, va_up, hne]⟩)
theorem LSw.sz1 (q : LSw a ca σ h0 h) (n : Nat) : LSw a ca (ls_sz σ 1 n) h0 (hl_set h (a 2) (.inr (6, [.int (nI n), .ref (a 13), .ref (a 14), .ref (a 15), .ref (a 16), .ref (a 17), .ref (a 18), .ref (a 19)]))) :=
  q.set 2 (by decide) _ rfl rfl (fun sm => ⟨sm, rfl, fun k hk hne => by simp [ls_cell, ls_sz, va_up, hne]⟩)
theorem LSw.sz2 (q : LSw a ca σ h0 h) (n : Nat) : LSw a ca (ls_sz σ 2 n) h0 (hl_set h (a 3) (.inr (5, [.int (nI n), .ref (a 20), .ref (a 21), .ref (a 22), .ref (a 23), .ref (a 24)]))) :=
  q.set 3 (by decide) _ rfl rfl (fun sm => ⟨sm, rfl, fun k hk hne => by simp [ls_cell, ls_sz, va_up, hne]⟩)
theorem LSw.sz3 (q : LSw a ca σ h0 h) (n : Nat) : LSw a ca (ls_sz σ 3 n) h0 (hl_set h (a 4) (.inr (2, [.int (nI n), .ref (a 25), .ref (a 26), .ref (a 27)]))) :=
  q.set 4 (by decide) _ rfl rfl (fun sm => ⟨sm, rfl, fun k hk hne => by simp [ls_cell, ls_sz, va_up, hne]⟩)
theorem LSw.sz5 (q : LSw a ca σ h0 h) (n : Nat) : LSw a ca (ls_sz σ 5 n) h0 (hl_set h (a 0) (.inr (9, [.ref (a 1), .ref (a 2), .ref (a 3), .ref (a 4), .ref (a 5), .ref (a 28), .int (nI n)]))) :=
  q.set 0 (by decide) _ rfl rfl (fun sm => ⟨sm, rfl, fun k hk hne => by simp [ls_cell, ls_sz, va_up, hne]⟩)
end LSR
