/-! PART 05: rows by which the reader runs -/
section HS
variable {h : hl_H} {s : List Value} {r : List (Nat × Value)} {vs : List Value}
theorem hs_ii {x y : Int32} {k : Int32 → Int32 → List Value → Prop} : hl_ii (.int y :: .int x :: s) k = k x y s := rfl
theorem hs_i1 {x : Int32} {k : Int32 → List Value → Prop} : hl_i1 (.int x :: s) k = k x s := rfl
theorem hs_ll {x y : Int64} {k : Int64 → Int64 → List Value → Prop} : hl_ll (.long y :: .long x :: s) k = k x y s := rfl
theorem hs_l1 {x : Int64} {k : Int64 → List Value → Prop} : hl_l1 (.long x :: s) k = k x s := rfl
theorem hs_ff {x y : UInt32} {k : UInt32 → UInt32 → List Value → Prop} : hl_ff (.float y :: .float x :: s) k = k x y s := rfl
theorem hs_g1 {x : UInt32} {k : UInt32 → List Value → Prop} : hl_g1 (.float x :: s) k = k x s := rfl
theorem hs_dd {x y : UInt64} {k : UInt64 → UInt64 → List Value → Prop} : hl_dd (.double y :: .double x :: s) k = k x y s := rfl
theorem hs_d1 {x : UInt64} {k : UInt64 → List Value → Prop} : hl_d1 (.double x :: s) k = k x s := rfl
theorem hs_r1 {a : Nat} {k : Nat → List Value → Prop} : hl_r1 (.ref a :: s) k = k a s := rfl
theorem hs_rv {a : Nat} {k : Value → List Value → Prop} : hl_rv (.ref a :: s) k = k (.ref a) s := rfl
theorem hs_rv0 {k : Value → List Value → Prop} : hl_rv (.null :: s) k = k .null s := rfl
theorem hs_n1 {a : Nat} {kn k : List Value → Prop} : hl_n1 (.ref a :: s) kn k = k s := rfl
theorem hs_n0 {kn k : List Value → Prop} : hl_n1 (.null :: s) kn k = kn s := rfl
theorem hs_v1i {x : Int32} {k : Value → List Value → Prop} : hl_v1 (.int x :: s) k = k (.int x) s := by simp [hl_v1, Value.category]
theorem hs_v1r {a : Nat} {k : Value → List Value → Prop} : hl_v1 (.ref a :: s) k = k (.ref a) s := by simp [hl_v1, Value.category]
theorem hs_a1 {i : Int32} {a : Nat} {k : Int32 → Nat → List Value → Prop} : hl_a1 (.int i :: .ref a :: s) k = k i a s := rfl
theorem hs_d2l {x : Int64} {k : List Value → Prop} : hl_d2 (.long x :: s) k = k (.long x :: .long x :: s) := rfl
theorem hs_d2i {i : Int32} {a : Nat} {k : List Value → Prop} : hl_d2 (.int i :: .ref a :: s) k = k (.int i :: .ref a :: .int i :: .ref a :: s) := rfl
theorem hs_ri {x : Int32} {k : Int32 → Prop} : hl_ri (some (.int x)) k = k x := rfl
theorem hs_rl {x : Int64} {k : Int64 → Prop} : hl_rl (some (.long x)) k = k x := rfl
theorem hs_rg {x : UInt32} {k : UInt32 → Prop} : hl_rg (some (.float x)) k = k x := rfl
theorem hs_rd8 {x : UInt64} {k : UInt64 → Prop} : hl_rd8 (some (.double x)) k = k x := rfl
theorem hs_rr {a : Nat} {k : Value → Prop} : hl_rr (some (.ref a)) k = k (.ref a) := rfl
theorem hs_rn {k : Value → Prop} : hl_rr (some .null) k = k .null := rfl
def hl_ov (o : Option Value) (k : Value → Prop) : Prop := match o with | some v => k v | none => False
theorem hs_ov {v : Value} {k : Value → Prop} : hl_ov (some v) k = k v := rfl
theorem hs_gf {t u : Nat} {fs : List Value} {k : Value → Prop} : hl_gf (some (.inr (t, fs))) t u k = hl_ov fs[u]? k := by
  simp only [hl_gf, hl_ov, true_and]
  cases fs[u]? <;> rfl
def hl_po (o : Option hl_C) (t u : Nat) (k : List Value → Prop) : Prop := match o with | some (.inr (ci, fs)) => ci = t ∧ u < fs.length ∧ k fs | _ => False
theorem hs_po {t u : Nat} {fs : List Value} {k : List Value → Prop} : hl_po (some (.inr (t, fs))) t u k = (u < fs.length ∧ k fs) := by simp only [hl_po, true_and]
theorem hs_pfi {x : Int32} {a t u : Nat} {k : List Value → hl_H → Prop} : hl_pf (.int x :: .ref a :: s) h t u 0 k = hl_po (h a) t u (fun fs => k s (hl_set h a (.inr (t, fs.set u (.int x))))) := by
  cases hh : h a with
  | none => simp [hl_pf, hl_po, hh]
  | some q9 =>
    cases q9 with
    | inl x9 => simp [hl_pf, hl_po, hh]
    | inr o9 =>
      obtain ⟨ci, fs⟩ := o9
      simp only [hl_pf, hl_po, hh]
      apply propext
      constructor
      · rintro ⟨rfl, h1, -, h2⟩; exact ⟨rfl, h1, h2⟩
      · rintro ⟨rfl, h1, h2⟩; exact ⟨rfl, h1, Or.inl trivial, h2⟩
theorem hs_pfr {b a t u : Nat} {k : List Value → hl_H → Prop} : hl_pf (.ref b :: .ref a :: s) h t u 1 k = hl_po (h a) t u (fun fs => k s (hl_set h a (.inr (t, fs.set u (.ref b))))) := by
  cases hh : h a with
  | none => simp [hl_pf, hl_po, hh]
  | some q9 =>
    cases q9 with
    | inl x9 => simp [hl_pf, hl_po, hh]
    | inr o9 =>
      obtain ⟨ci, fs⟩ := o9
      simp only [hl_pf, hl_po, hh]
      apply propext
      constructor
      · rintro ⟨rfl, h1, -, h2⟩; exact ⟨rfl, h1, h2⟩
      · rintro ⟨rfl, h1, h2⟩; exact ⟨rfl, h1, trivial, h2⟩
theorem hs_pfc {x : Int32} {a t u : Nat} {k : List Value → hl_H → Prop} (hn : narrow .char (.int x) = .int x) (hf : fits .char (.int x) = true) : hl_pf (.int x :: .ref a :: s) h t u 2 k = hl_po (h a) t u (fun fs => k s (hl_set h a (.inr (t, fs.set u (.int x))))) := by
  cases hh : h a with
  | none => simp [hl_pf, hl_po, hh]
  | some q9 =>
    cases q9 with
    | inl x9 => simp [hl_pf, hl_po, hh]
    | inr o9 =>
      obtain ⟨ci, fs⟩ := o9
      simp only [hl_pf, hl_po, hh]
      apply propext
      constructor
      · rintro ⟨rfl, h1, -, h2⟩; exact ⟨rfl, h1, h2⟩
      · rintro ⟨rfl, h1, h2⟩; exact ⟨rfl, h1, Or.inr ⟨trivial, hn, hf⟩, h2⟩
theorem hs_ia {n : Nat} {f : Nat → Int32} {i : Int32} {k : Int32 → Prop} : hl_ia (some (.inl (n, .inl f))) i k = (vp_in i n ∧ k (f i.toNatClampNeg)) := rfl
theorem hs_la {n : Nat} {f : Nat → Int64} {i : Int32} {k : Int64 → Prop} : hl_la (some (.inl (n, .inr (.inl f)))) i k = (vp_in i n ∧ k (f i.toNatClampNeg)) := rfl
theorem hs_da {n : Nat} {f : Nat → UInt64} {i : Int32} {k : UInt64 → Prop} : hl_da (some (.inl (n, .inr (.inr (.inr (.inl f)))))) i k = (vp_in i n ∧ k (f i.toNatClampNeg)) := rfl
theorem hs_qa {n : Nat} {f : Nat → Option Nat} {i : Int32} {k : Value → Prop} : hl_qa (some (.inl (n, .inr (.inr (.inr (.inr f)))))) i k = (vp_in i n ∧ k (va_rf (f i.toNatClampNeg))) := rfl
theorem hs_al {x : vp_A} {k : Int32 → Prop} : hl_al (some (.inl x)) k = k (Int32.ofNat x.1) := rfl
def hl_so (o : Option hl_C) (k : vp_A → Prop) : Prop := match o with | some (.inl x) => k x | _ => False
def hl_iso (o : Option hl_C) (i : Int32) (k : Nat → (Nat → Int32) → Prop) : Prop := match o with | some (.inl (n, .inl f)) => vp_in i n ∧ k n f | _ => False
def hl_lso (o : Option hl_C) (i : Int32) (k : Nat → (Nat → Int64) → Prop) : Prop := match o with | some (.inl (n, .inr (.inl f))) => vp_in i n ∧ k n f | _ => False
def hl_dso (o : Option hl_C) (i : Int32) (k : Nat → (Nat → UInt64) → Prop) : Prop := match o with | some (.inl (n, .inr (.inr (.inr (.inl f))))) => vp_in i n ∧ k n f | _ => False
theorem hs_is {x i : Int32} {a : Nat} {k : List Value → hl_H → Prop} : hl_is (.int x :: .int i :: .ref a :: s) h k = hl_iso (h a) i (fun n f => k s (hl_set h a (.inl (n, .inl (upd f i.toNatClampNeg x))))) := rfl
theorem hs_ls {x : Int64} {i : Int32} {a : Nat} {k : List Value → hl_H → Prop} : hl_ls (.long x :: .int i :: .ref a :: s) h k = hl_lso (h a) i (fun n f => k s (hl_set h a (.inl (n, .inr (.inl (vp_updL f i.toNatClampNeg x)))))) := rfl
theorem hs_ds {x : UInt64} {i : Int32} {a : Nat} {k : List Value → hl_H → Prop} : hl_ds (.double x :: .int i :: .ref a :: s) h k = hl_dso (h a) i (fun n f => k s (hl_set h a (.inl (n, .inr (.inr (.inr (.inl (vf_upd f i.toNatClampNeg x)))))))) := rfl
theorem hs_iso {n : Nat} {f : Nat → Int32} {i : Int32} {k : Nat → (Nat → Int32) → Prop} : hl_iso (some (.inl (n, .inl f))) i k = (vp_in i n ∧ k n f) := rfl
theorem hs_lso {n : Nat} {f : Nat → Int64} {i : Int32} {k : Nat → (Nat → Int64) → Prop} : hl_lso (some (.inl (n, .inr (.inl f)))) i k = (vp_in i n ∧ k n f) := rfl
theorem hs_dso {n : Nat} {f : Nat → UInt64} {i : Int32} {k : Nat → (Nat → UInt64) → Prop} : hl_dso (some (.inl (n, .inr (.inr (.inr (.inl f)))))) i k = (vp_in i n ∧ k n f) := rfl
theorem hs_set1 {a : Nat} {x : hl_C} : hl_set h a x a = some x := if_pos rfl
theorem hs_set2 {a b : Nat} {x : hl_C} (n : b ≠ a) : hl_set h a x b = h b := if_neg n
theorem hs_set3 {a : Nat} {x y : hl_C} : hl_set (hl_set h a x) a y = hl_set h a y := by
  funext q
  by_cases n : q = a
  · simp [hl_set, n]
  · simp [hl_set, n]
theorem hs_rd {j i : Nat} {v : Value} : hl_rd ((j, v) :: r) i = if j = i then some v else hl_rd r i := rfl
theorem hs_f1 {j i : Nat} {v : Value} : hl_f1 i ((j, v) :: r) = if j = i then hl_f1 i r else if j + 1 = i then (if v.category = 2 then hl_f1 i r else (j, v) :: hl_f1 i r) else (j, v) :: hl_f1 i r := rfl
theorem hs_f10 {i : Nat} : hl_f1 i [] = [] := rfl
theorem hs_f2 {j i : Nat} {v : Value} : hl_f2 i ((j, v) :: r) = if j = i then hl_f2 i r else if j = i + 1 then hl_f2 i r else if j + 1 = i then (if v.category = 2 then hl_f2 i r else (j, v) :: hl_f2 i r) else (j, v) :: hl_f2 i r := rfl
theorem hs_f20 {i : Nat} : hl_f2 i [] = [] := rfl
theorem hs_in0 {i : Nat} {v : Value} : hl_ins i v [] = [(i, v)] := rfl
theorem hs_in1 {i j : Nat} {v u : Value} : hl_ins i v ((j, u) :: r) = if i < j then (i, v) :: (j, u) :: r else (j, u) :: hl_ins i v r := rfl
theorem hs_lt {x y : Int64} : (lg_cmp x y < 0) = (x < y) := propext (by
  unfold lg_cmp
  simp only [gt_iff_lt, Int64.lt_iff_toInt_lt, ← Int64.toInt_inj]
  by_cases h1 : y.toInt < x.toInt
  · simp only [if_pos h1]; constructor
    · intro q; exact absurd q (by decide)
    · intro q; omega
  · by_cases h2 : x.toInt = y.toInt
    · simp only [if_neg h1, if_pos h2]; constructor
      · intro q; exact absurd q (by decide)
      · intro q; omega
    · simp only [if_neg h1, if_neg h2]; constructor
      · intro q; omega
      · intro q; decide)
theorem hs_le {x y : Int64} : (lg_cmp x y ≤ 0) = (x ≤ y) := propext (by
  unfold lg_cmp
  simp only [gt_iff_lt, Int64.lt_iff_toInt_lt, Int64.le_iff_toInt_le, ← Int64.toInt_inj]
  by_cases h1 : y.toInt < x.toInt
  · simp only [if_pos h1]; constructor
    · intro q; exact absurd q (by decide)
    · intro q; omega
  · by_cases h2 : x.toInt = y.toInt
    · simp only [if_neg h1, if_pos h2]; constructor
      · intro q; omega
      · intro q; decide
    · simp only [if_neg h1, if_neg h2]; constructor
      · intro q; omega
      · intro q; decide)
theorem hs_ge {x y : Int64} : (0 ≤ lg_cmp x y) = (y ≤ x) := propext (lg_cmp_ge x y)
theorem hs_gt {x y : Int64} : (0 < lg_cmp x y) = (y < x) := propext (by
  unfold lg_cmp
  simp only [gt_iff_lt, Int64.lt_iff_toInt_lt, ← Int64.toInt_inj]
  by_cases h1 : y.toInt < x.toInt
  · simp only [if_pos h1]; constructor
    · intro q; omega
    · intro q; decide
  · by_cases h2 : x.toInt = y.toInt
    · simp only [if_neg h1, if_pos h2]; constructor
      · intro q; exact absurd q (by decide)
      · intro q; omega
    · simp only [if_neg h1, if_neg h2]; constructor
      · intro q; exact absurd q (by decide)
      · intro q; omega)
theorem hs_eq {x y : Int64} : (lg_cmp x y = 0) = (x = y) := propext (by
  unfold lg_cmp
  simp only [gt_iff_lt, Int64.lt_iff_toInt_lt, ← Int64.toInt_inj]
  by_cases h1 : y.toInt < x.toInt
  · simp only [if_pos h1]; constructor
    · intro q; exact absurd q (by decide)
    · intro q; omega
  · by_cases h2 : x.toInt = y.toInt
    · simp only [if_neg h1, if_pos h2]
      exact ⟨fun _ => h2, fun _ => trivial⟩
    · simp only [if_neg h1, if_neg h2]; constructor
      · intro q; exact absurd q (by decide)
      · intro q; exact absurd q h2)
theorem hs_10 : ((1 : Int32) = 0) = False := by simp
theorem hs_00 : ((0 : Int32) = 0) = True := by simp
theorem hs_01 : ((0 : Int32) = 1) = False := by simp
theorem hs_av {i : Nat} : lv_args i [] = [] := rfl
theorem hs_ai {i : Nat} {x : Int32} : lv_args i (.int x :: vs) = (i, .int x) :: lv_args (i + 1) vs := rfl
theorem hs_ar {i : Nat} {x : Nat} : lv_args i (.ref x :: vs) = (i, .ref x) :: lv_args (i + 1) vs := rfl
theorem hs_an {i : Nat} : lv_args i (.null :: vs) = (i, .null) :: lv_args (i + 1) vs := rfl
theorem hs_aj {i : Nat} {x : Int64} : lv_args i (.long x :: vs) = (i, .long x) :: lv_args (i + 2) vs := rfl
theorem hs_ci {x : Int32} : (Value.int x).category = 1 := rfl
theorem hs_cr {x : Nat} : (Value.ref x).category = 1 := rfl
theorem hs_cn : Value.null.category = 1 := rfl
theorem hs_cj {x : Int64} : (Value.long x).category = 2 := rfl
theorem hs_cd {x : UInt64} : (Value.double x).category = 2 := rfl
theorem hs_cf {x : UInt32} : (Value.float x).category = 1 := rfl
theorem hs_q0 {a : Nat} : va_rf (some a) = .ref a := rfl
theorem hs_q1 : va_rf none = .null := rfl
end HS
