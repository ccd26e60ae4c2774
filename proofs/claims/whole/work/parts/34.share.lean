/-! PART 34: what the law's forty cases share -/
abbrev mL_law : hl_M := (yL_law, cL_law, 9, some .boolean)
def lk_Q : Option Value → hl_H → Prop := fun r _ => r = some (.int 1)
theorem lk_cd {NM : List String} {o : Option String} (h : lw_cd NM o = 0) (hN : NM.length < 2 ^ 30) : o = none := by
  cases o with
  | none => rfl
  | some E =>
    have hx : ∀ (L : List String), lw_ix L E ≤ L.length := by
      intro L
      induction L with
      | nil => exact Nat.le_refl _
      | cons F L ih =>
        show (if F = E then 0 else lw_ix L E + 1) ≤ L.length + 1
        split <;> omega
    have := hx NM
    exact absurd h (nI_ne0 (n := lw_ix NM E + 1) (by omega) (by omega))
theorem rl_R.mi {t : Nat} {σ : LSt} {μ : LMt} (h : rl_R t σ μ) : MInv μ := by
  obtain ⟨n, C, e, hn, ht, hM, hI, hM2⟩ := h
  exact hM
theorem rl_R.sz {t : Nat} {σ : LSt} {μ : LMt} (h : rl_R t σ μ) : σ.2.1 1 = μ.2.2.1 1 ∧ μ.2.2.1 1 ≤ 150 := by
  obtain ⟨n, C, e, hn, ht, hM, hI, hM2⟩ := h
  subst e
  exact ⟨rfl, hM.2.1⟩
theorem lk_cmp {x y : Int64} (h : x = y) : lg_cmp x y = 0 := (lg_cmp_eq x y).mpr h
theorem lk_in0 : vp_in (0 : Int32) 1 := by unfold vp_in; decide
theorem lk_c0 : (0 : Int32).toNatClampNeg = 0 := by decide
theorem lk_eq {x : Int32} : (x = x) = True := eq_self x
theorem lk_1 {n : Nat} (h : ¬ nI n ≤ 0) : 1 ≤ n := by
  rcases n with _ | n
  · exact absurd (by decide) h
  · omega
theorem lk_2 {n : Nat} (h : 1 ≤ nI n) : 1 ≤ n := by
  rcases n with _ | n
  · exact absurd h (by decide)
  · omega
theorem mv_openAccount {μ : LMt} {x : Int32} {y : Int32} : ∃ w, (md_openAccount μ x y).2 = Value.int w := by
  unfold md_openAccount
  repeat' split
  all_goals exact ⟨_, rfl⟩
theorem mv_setLimit {μ : LMt} {x : Int32} {y : Int32} : ∃ w, (md_setLimit μ x y).2 = Value.int w := by
  unfold md_setLimit
  repeat' split
  all_goals exact ⟨_, rfl⟩
theorem mv_setRate {μ : LMt} {x : Int32} {y : Int32} : ∃ w, (md_setRate μ x y).2 = Value.int w := by
  unfold md_setRate
  repeat' split
  all_goals exact ⟨_, rfl⟩
theorem mv_deposit {μ : LMt} {x : Int32} {y : Int32} {z : Int32} : ∃ w, (md_deposit μ x y z).2 = Value.int w := by
  unfold md_deposit
  repeat' split
  all_goals exact ⟨_, rfl⟩
theorem mv_withdraw {μ : LMt} {x : Int32} {y : Int32} {z : Int32} : ∃ w, (md_withdraw μ x y z).2 = Value.int w := by
  unfold md_withdraw
  repeat' split
  all_goals exact ⟨_, rfl⟩
theorem mv_transfer {μ : LMt} {x : Int32} {y : Int32} {z : Int32} {u : Int32} : ∃ w, (md_transfer μ x y z u).2 = Value.int w := by
  unfold md_transfer
  repeat' split
  all_goals exact ⟨_, rfl⟩
theorem mv_hold {μ : LMt} {x : Int32} {y : Int32} {z : Int32} {u : Int32} {v : Int32} : ∃ w, (md_hold μ x y z u v).2 = Value.int w := by
  unfold md_hold
  repeat' split
  all_goals exact ⟨_, rfl⟩
theorem mv_capture {μ : LMt} {x : Int32} {y : Int32} {z : Int32} : ∃ w, (md_capture μ x y z).2 = Value.int w := by
  unfold md_capture
  repeat' split
  all_goals exact ⟨_, rfl⟩
theorem mv_release {μ : LMt} {x : Int32} : ∃ w, (md_release μ x).2 = Value.int w := by
  unfold md_release
  repeat' split
  all_goals exact ⟨_, rfl⟩
theorem mv_reverse {μ : LMt} {x : Int32} {y : Int32} : ∃ w, (md_reverse μ x y).2 = Value.int w := by
  unfold md_reverse
  repeat' split
  all_goals exact ⟨_, rfl⟩
theorem mv_addPayment {μ : LMt} {x : Int32} {y : Int32} {z : Int32} : ∃ w, (md_addPayment μ x y z).2 = Value.int w := by
  unfold md_addPayment
  repeat' split
  all_goals exact ⟨_, rfl⟩
theorem mv_removePayment {μ : LMt} {x : Int32} : ∃ w, (md_removePayment μ x).2 = Value.int w := by
  unfold md_removePayment
  repeat' split
  all_goals exact ⟨_, rfl⟩
theorem mv_settle {μ : LMt} {x : Int32} : ∃ w, (md_settle μ x).2 = Value.int w := by
  unfold md_settle
  repeat' split
  all_goals exact ⟨_, rfl⟩
theorem mv_closeDay {μ : LMt} : ∃ w, (md_closeDay μ).2 = Value.int w := by
  unfold md_closeDay
  repeat' split
  all_goals exact ⟨_, rfl⟩
theorem mv_batchSize {μ : LMt} : ∃ w, (md_batchSize μ).2 = Value.int w := by
  unfold md_batchSize
  repeat' split
  all_goals exact ⟨_, rfl⟩
theorem mv_cut {μ : LMt} : ∃ w, (md_cut μ).2 = Value.int w := by
  unfold md_cut
  repeat' split
  all_goals exact ⟨_, rfl⟩
theorem mv_cutByTrying {μ : LMt} : ∃ w, (md_cutByTrying μ).2 = Value.int w := by
  unfold md_cutByTrying
  repeat' split
  all_goals exact ⟨_, rfl⟩
theorem mv_netOf {μ : LMt} {x : Int32} : ∃ w, (md_netOf μ x).2 = Value.long w := by
  unfold md_netOf
  repeat' split
  all_goals exact ⟨_, rfl⟩
theorem mv_accounts {μ : LMt} : ∃ w, (md_accounts μ).2 = Value.int w := by
  unfold md_accounts
  repeat' split
  all_goals exact ⟨_, rfl⟩
theorem mv_day {μ : LMt} : ∃ w, (md_day μ).2 = Value.int w := by
  unfold md_day
  repeat' split
  all_goals exact ⟨_, rfl⟩
theorem mv_balance {μ : LMt} {x : Int32} : ∃ w, (md_balance μ x).2 = Value.long w := by
  unfold md_balance
  repeat' split
  all_goals exact ⟨_, rfl⟩
theorem mv_available {μ : LMt} {x : Int32} : ∃ w, (md_available μ x).2 = Value.long w := by
  unfold md_available
  repeat' split
  all_goals exact ⟨_, rfl⟩
theorem mv_balanceByReplay {μ : LMt} {x : Int32} : ∃ w, (md_balanceByReplay μ x).2 = Value.long w := by
  unfold md_balanceByReplay
  repeat' split
  all_goals exact ⟨_, rfl⟩
theorem mv_balanceAt {μ : LMt} {x : Int32} {y : Int32} : ∃ w, (md_balanceAt μ x y).2 = Value.long w := by
  unfold md_balanceAt
  repeat' split
  all_goals exact ⟨_, rfl⟩
theorem mv_houseBalance {μ : LMt} {x : Int32} {y : Int32} : ∃ w, (md_houseBalance μ x y).2 = Value.long w := by
  unfold md_houseBalance
  repeat' split
  all_goals exact ⟨_, rfl⟩
theorem mv_worth {μ : LMt} {x : Int32} : ∃ w, (md_worth μ x).2 = Value.long w := by
  unfold md_worth
  repeat' split
  all_goals exact ⟨_, rfl⟩
theorem mv_transactions {μ : LMt} : ∃ w, (md_transactions μ).2 = Value.int w := by
  unfold md_transactions
  repeat' split
  all_goals exact ⟨_, rfl⟩
theorem mv_kindOf {μ : LMt} {x : Int32} : ∃ w, (md_kindOf μ x).2 = Value.int w := by
  unfold md_kindOf
  repeat' split
  all_goals exact ⟨_, rfl⟩
theorem mv_payerOf {μ : LMt} {x : Int32} : ∃ w, (md_payerOf μ x).2 = Value.int w := by
  unfold md_payerOf md_sd
  repeat' split
  all_goals exact ⟨_, rfl⟩
theorem mv_payeeOf {μ : LMt} {x : Int32} : ∃ w, (md_payeeOf μ x).2 = Value.int w := by
  unfold md_payeeOf md_sd
  repeat' split
  all_goals exact ⟨_, rfl⟩
theorem mv_paidOf {μ : LMt} {x : Int32} : ∃ w, (md_paidOf μ x).2 = Value.int w := by
  unfold md_paidOf
  repeat' split
  all_goals exact ⟨_, rfl⟩
theorem mv_receivedOf {μ : LMt} {x : Int32} : ∃ w, (md_receivedOf μ x).2 = Value.int w := by
  unfold md_receivedOf
  repeat' split
  all_goals exact ⟨_, rfl⟩
theorem mv_reversalOf {μ : LMt} {x : Int32} : ∃ w, (md_reversalOf μ x).2 = Value.int w := by
  unfold md_reversalOf md_sd
  repeat' split
  all_goals exact ⟨_, rfl⟩
theorem mv_stateOf {μ : LMt} {x : Int32} : ∃ w, (md_stateOf μ x).2 = Value.int w := by
  unfold md_stateOf
  repeat' split
  all_goals exact ⟨_, rfl⟩
theorem mv_lastDayOf {μ : LMt} {x : Int32} : ∃ w, (md_lastDayOf μ x).2 = Value.int w := by
  unfold md_lastDayOf
  repeat' split
  all_goals exact ⟨_, rfl⟩
theorem mv_keys {μ : LMt} : ∃ w, (md_keys μ).2 = Value.int w := by
  unfold md_keys
  repeat' split
  all_goals exact ⟨_, rfl⟩
theorem mv_answerOf {μ : LMt} {x : Int32} : ∃ w, (md_answerOf μ x).2 = Value.int w := by
  unfold md_answerOf
  repeat' split
  all_goals exact ⟨_, rfl⟩
theorem mv_isBalanced {μ : LMt} : ∃ w, (md_isBalanced μ).2 = Value.int w := by
  unfold md_isBalanced
  repeat' split
  all_goals exact ⟨_, rfl⟩
theorem mv_reversedShare {μ : LMt} : ∃ w, (md_reversedShare μ).2 = Value.float w := by
  unfold md_reversedShare
  repeat' split
  all_goals exact ⟨_, rfl⟩
theorem mv_meanPaid {μ : LMt} : ∃ w, (md_meanPaid μ).2 = Value.double w := by
  unfold md_meanPaid
  repeat' split
  all_goals exact ⟨_, rfl⟩
