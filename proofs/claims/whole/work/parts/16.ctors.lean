/-! PART 16: the constructors -/
/-- g is h with new cells -/
def hl_K (h : hl_H) (L : List (Nat × hl_C)) (g : hl_H) : Prop := (∀ (q : Nat) (x : hl_C), h q = some x → g q = some x) ∧ (∀ e ∈ L, h e.1 = none ∧ g e.1 = some e.2) ∧ (L.map (fun e => e.1)).Nodup
section KK
variable {h g g2 : hl_H} {L L2 : List (Nat × hl_C)} {r q : Nat} {x y z : hl_C}
theorem hl_K.rf : hl_K h [] h := ⟨fun _ _ z => z, (fun _ hx => by cases hx), List.nodup_nil⟩
theorem hl_K.get (k : hl_K h L g) {i : Nat} (hi : L[i]? = some (q, x)) : g q = some x := (k.2.1 (q, x) (List.mem_of_getElem? hi)).2
theorem hl_K.no (k : hl_K h L g) {i : Nat} (hi : L[i]? = some (q, x)) : h q = none := (k.2.1 (q, x) (List.mem_of_getElem? hi)).1
theorem hl_K.app (k : hl_K h L g) (k2 : hl_K g L2 g2) : hl_K h (L ++ L2) g2 := by
  refine ⟨fun q x hq => k2.1 q x (k.1 q x hq), fun e he => ?_, ?_⟩
  · rcases List.mem_append.mp he with he | he
    · exact ⟨(k.2.1 e he).1, k2.1 _ _ (k.2.1 e he).2⟩
    · refine ⟨?_, (k2.2.1 e he).2⟩
      cases hh : h e.1 with
      | none => rfl
      | some v => have := k.1 _ _ hh; rw [(k2.2.1 e he).1] at this; cases this
  · rw [List.map_append]
    refine List.nodup_append.mpr ⟨k.2.2, k2.2.2, fun a ha b hb hab => ?_⟩
    obtain ⟨e, he, rfl⟩ := List.mem_map.mp ha
    obtain ⟨f, hf, rfl⟩ := List.mem_map.mp hb
    have h1 := (k.2.1 e he).2
    have h2 := (k2.2.1 f hf).1
    rw [hab] at h1
    rw [h2] at h1
    cases h1
theorem hl_K.one (hq : h q = none) (x : hl_C) : hl_K h [(q, x)] (hl_set h q x) :=
  ⟨fun p y hp => by rw [hs_set2 (fun e => by rw [e, hq] at hp; cases hp)]; exact hp, fun e he => by rw [List.mem_singleton.mp he]; exact ⟨hq, hs_set1⟩, by simp⟩
theorem hl_K.new (k : hl_K h L g) (hq : g q = none) (x : hl_C) : hl_K h (L ++ [(q, x)]) (hl_set g q x) := k.app (hl_K.one hq x)
theorem hl_K.mid {L1 : List (Nat × hl_C)} (k : hl_K h (L1 ++ (q, x) :: L2) g) (y : hl_C) : hl_K h (L1 ++ (q, y) :: L2) (hl_set g q y) := by
  obtain ⟨k1, k2, k3⟩ := k
  have hn : h q = none := (k2 (q, x) (by simp)).1
  have k3' : (L1.map (fun e => e.1) ++ q :: L2.map (fun e => e.1)).Nodup := by simpa using k3
  have hd := List.nodup_append.mp k3'
  refine ⟨fun p z hp => ?_, fun e he => ?_, by simpa using k3⟩
  · rw [hs_set2 (fun e => by rw [e, hn] at hp; cases hp)]
    exact k1 p z hp
  · rcases List.mem_append.mp he with he | he
    · have hne : e.1 ≠ q := fun z => hd.2.2 e.1 (List.mem_map.mpr ⟨e, he, rfl⟩) q (by simp) z
      rw [hs_set2 hne]
      exact k2 e (by simp [he])
    · rcases List.mem_cons.mp he with he | he
      · rw [he]; exact ⟨hn, hs_set1⟩
      · have hne : e.1 ≠ q := fun z => by
          have := (List.nodup_cons.mp hd.2.1).1
          exact this (List.mem_map.mpr ⟨e, he, z⟩)
        rw [hs_set2 hne]
        exact k2 e (by simp [he])
theorem hl_K.upd (k : hl_K h ((q, x) :: L) g) (y : hl_C) : hl_K h ((q, y) :: L) (hl_set g q y) := hl_K.mid (L1 := []) k y
theorem hl_K.hd (k : hl_K h ((q, x) :: L) g) : g q = some x := k.get (i := 0) rfl
end KK
section NQ
variable {G : hl_G} {l : Launch} {M : hl_M} {d k n : Nat} {Q : Option Value → hl_H → Prop} {X : String → hl_H → Prop}
variable {p : Program} {e : Env} {s : State} {m : MethodId} {args : Array Value} {below : List Frame} {meth : Method} {c : Code} {lv : List (Nat × Value)} {h : hl_H} {ce sl pc : Nat}
/-- a new row of calls -/
theorem hl_newQ (B : hl_B G M d k n p s m args meth c) {x : Int32} {N' kk idx : Nat} {rest : List Value} (hd : decode M.2.1 pc = .ok (.anewarray idx, 3)) (hk : hl_w kk (Jvm.Cond.classLink M.1.cls idx RX2) = true) (h0 : ¬ x < 0) (hN : x.toNatClampNeg = N') (hN2 : N' ≤ 10000) (hce : ce + 1 ≤ k) (hsl : sl + N' ≤ n)
    (hw : ∀ q : Nat, h q = none → hl_GM G M d k n Q X p l e s m args below meth c (pc + 3) lv (.ref q :: rest) (hl_set h q (.inl (N', .inr (.inr (.inr (.inr (fun _ => none))))))) (ce + 1) (sl + N')) : hl_GM G M d k n Q X p l e s m args below meth c pc lv (.int x :: rest) h ce sl := by
  intro H locs ls hP hS hl
  obtain ⟨⟨hx, hb, hml, hown, hts, hE, hS0, hRf, hRl⟩, hlk, hrt, hnm, hno⟩ := id B
  have hA : ∀ q : Nat, s.heap.size ≤ q → hl_A G q := fun q h => Nat.le_trans hS0.1 h
  obtain ⟨w, hw1, hw2, hw3⟩ := id hP
  exact va_newq (D := G.1) hx hb hown (hts _ (hl_w_T hk)) hE.2.2.2.2.2.2.2.2.2 hE.1 hw2 hw3 hS hA h0 hN (Nat.le_trans (Nat.mul_le_mul_right 4 hN2) (by decide)) hce hsl hd (fun q cA H1 hK1 hP1 hD1 hS1 => by
    have e1 : s.vm.findClass ("[" ++ (FieldType.object RX2).toString) = some cA := by
      obtain ⟨_, _, _, _, _, z⟩ := (hK1.2 4 _ rfl).2
      exact z
    have e2 : s.vm.findClass ("[" ++ (FieldType.object RX2).toString) = some G.2.1.2.2.2 := by
      obtain ⟨_, _, _, _, _, z⟩ := (hE.1.2 3 _ rfl).2
      exact z
    cases Option.some.inj (e1.symm.trans e2)
    obtain ⟨hn, hP9⟩ := hl_P.push (x := .inl (N', .inr (.inr (.inr (.inr (fun _ => none)))))) hw1 hP1 hD1
    exact hw q hn H1 locs ls hP9 hS1 hl)
end NQ
set_option maxRecDepth 20000 in
set_option maxHeartbeats 2000000 in
theorem ct_X6_init {G : hl_G} {l : Launch} {h : hl_H} {r N : Nat} (hr : h r = none) (hN : N ≤ 10000) :
    hl_Ct G l mX6_init 0 1 N [.ref r, .int (nI N)] (fun g => g = hl_set h r (.inr (8, hl_new 8))) (fun r9 g => r9 = none ∧ ∃ q, hl_K h [(r, .inr (8, [.ref q])), (q, .inl (N, .inr (.inl (fun _ => 0))))] g) (fun _ _ => False) := by
  refine hl_body (by decide +kernel) (Nat.le_of_ble_eq_true rfl) ?_
  intro p e s m args below meth c B g hg
  subst hg
  have kr : hl_K h [(r, .inr (8, hl_new 8))] (hl_set h r (.inr (8, hl_new 8))) := hl_K.one hr _
  have h9 := kr.hd
  generalize hl_set h r (.inr (8, hl_new 8)) = g0 at kr h9
  have h9 : g0 r = some (.inr (8, [.null])) := h9
  refine hl_seg B okX6_init (fun _ => rfl) 0 1000 rfl ?_
  simp only [pX6_init, List.drop_zero, List.drop_succ_cons, hl_wp, hs_ii, hs_i1, hs_ll, hs_l1, hs_ff, hs_g1, hs_dd, hs_d1, hs_r1, hs_rv, hs_rv0, hs_n1, hs_n0, hs_v1i, hs_v1r, hs_a1, hs_d2l, hs_d2i, hs_ri, hs_rl, hs_rg, hs_rd8, hs_rr, hs_rn, hs_ov, hs_gf, hs_po, hs_pfi, hs_pfr, hs_ia, hs_la, hs_da, hs_qa, hs_al, hs_is, hs_ls, hs_ds, hs_iso, hs_lso, hs_dso, hs_rd, hs_f1, hs_f10, hs_f2, hs_f20, hs_in0, hs_in1, hs_lt, hs_le, hs_ge, hs_gt, hs_eq, hs_10, hs_00, hs_01, true_and, and_true, true_imp_iff, false_imp_iff, not_true_eq_false, not_false_eq_true, hs_av, hs_ai, hs_ar, hs_an, hs_aj, hs_ci, hs_cr, hs_cn, hs_cj, hs_cd, hs_cf, hs_q0, hs_q1, reduceIte, Nat.reduceEqDiff, Nat.reduceAdd, Nat.reduceLT, eq_self, List.getElem?_cons_zero, List.getElem?_cons_succ, List.set_cons_zero, List.set_cons_succ, List.length_cons, List.length_nil, Option.toList_some, Option.toList_none, List.cons_append, List.nil_append, Nat.zero_add, Nat.add_zero, List.map_nil, List.sum_nil, List.map_cons, List.sum_cons, Nat.zero_le, hs_set1, nI_pos' (show N < 2 ^ 31 by omega), h9]
  refine hl_seg B okX6_init (fun _ => rfl) 7 1000 rfl ?_
  simp only [pX6_init, List.drop_zero, List.drop_succ_cons, hl_wp, hs_ii, hs_i1, hs_ll, hs_l1, hs_ff, hs_g1, hs_dd, hs_d1, hs_r1, hs_rv, hs_rv0, hs_n1, hs_n0, hs_v1i, hs_v1r, hs_a1, hs_d2l, hs_d2i, hs_ri, hs_rl, hs_rg, hs_rd8, hs_rr, hs_rn, hs_ov, hs_gf, hs_po, hs_pfi, hs_pfr, hs_ia, hs_la, hs_da, hs_qa, hs_al, hs_is, hs_ls, hs_ds, hs_iso, hs_lso, hs_dso, hs_rd, hs_f1, hs_f10, hs_f2, hs_f20, hs_in0, hs_in1, hs_lt, hs_le, hs_ge, hs_gt, hs_eq, hs_10, hs_00, hs_01, true_and, and_true, true_imp_iff, false_imp_iff, not_true_eq_false, not_false_eq_true, hs_av, hs_ai, hs_ar, hs_an, hs_aj, hs_ci, hs_cr, hs_cn, hs_cj, hs_cd, hs_cf, hs_q0, hs_q1, reduceIte, Nat.reduceEqDiff, Nat.reduceAdd, Nat.reduceLT, eq_self, List.getElem?_cons_zero, List.getElem?_cons_succ, List.set_cons_zero, List.set_cons_succ, List.length_cons, List.length_nil, Option.toList_some, Option.toList_none, List.cons_append, List.nil_append, Nat.zero_add, Nat.add_zero, List.map_nil, List.sum_nil, List.map_cons, List.sum_cons, Nat.zero_le, hs_set1]
  refine hl_newJ B (hl_dec okX6_init 8 rfl) (kk := 94) (by decide +kernel) (nI_pos (by omega)) (nI_clamp (by omega)) hN (by decide) (Nat.le_of_eq (Nat.zero_add _)) (fun q hq => ?_)
  have k1 := kr.new hq (.inl (N, .inr (.inl (fun _ => 0))))
  have h8 := k1.hd
  have k2 := k1.upd (.inr (8, [.ref q]))
  generalize hl_set g0 q (.inl (N, .inr (.inl (fun _ => 0)))) = g1 at k1 h8 k2
  have h8 : g1 r = some (.inr (8, [.null])) := h8
  refine hl_seg B okX6_init (fun _ => rfl) 9 1000 rfl ?_
  simp only [pX6_init, List.drop_zero, List.drop_succ_cons, hl_wp, hs_ii, hs_i1, hs_ll, hs_l1, hs_ff, hs_g1, hs_dd, hs_d1, hs_r1, hs_rv, hs_rv0, hs_n1, hs_n0, hs_v1i, hs_v1r, hs_a1, hs_d2l, hs_d2i, hs_ri, hs_rl, hs_rg, hs_rd8, hs_rr, hs_rn, hs_ov, hs_gf, hs_po, hs_pfi, hs_pfr, hs_ia, hs_la, hs_da, hs_qa, hs_al, hs_is, hs_ls, hs_ds, hs_iso, hs_lso, hs_dso, hs_rd, hs_f1, hs_f10, hs_f2, hs_f20, hs_in0, hs_in1, hs_lt, hs_le, hs_ge, hs_gt, hs_eq, hs_10, hs_00, hs_01, true_and, and_true, true_imp_iff, false_imp_iff, not_true_eq_false, not_false_eq_true, hs_av, hs_ai, hs_ar, hs_an, hs_aj, hs_ci, hs_cr, hs_cn, hs_cj, hs_cd, hs_cf, hs_q0, hs_q1, reduceIte, Nat.reduceEqDiff, Nat.reduceAdd, Nat.reduceLT, eq_self, List.getElem?_cons_zero, List.getElem?_cons_succ, List.set_cons_zero, List.set_cons_succ, List.length_cons, List.length_nil, Option.toList_some, Option.toList_none, List.cons_append, List.nil_append, Nat.zero_add, Nat.add_zero, List.map_nil, List.sum_nil, List.map_cons, List.sum_cons, Nat.zero_le, hs_set1, h8]
  exact hl_vret B rfl (hl_dec okX6_init 10 rfl) (by decide) (by omega) ⟨rfl, q, k2⟩
set_option maxRecDepth 20000 in
set_option maxHeartbeats 2000000 in
theorem ct_X0_init {G : hl_G} {l : Launch} {h : hl_H} {r : Nat} (hr : h r = none) :
    hl_Ct G l mX0_init 1 6 39 [.ref r] (fun g => g = hl_set h r (.inr (2, hl_new 2))) (fun r9 g => r9 = none ∧ ∃ q1 a1 q2 a2 q3 a3, hl_K h [(r, .inr (2, [.int 0, .ref q1, .ref q2, .ref q3])), (q1, .inr (8, [.ref a1])), (a1, .inl (12, .inr (.inl (fun _ => 0)))), (q2, .inr (8, [.ref a2])), (a2, .inl (12, .inr (.inl (fun _ => 0)))), (q3, .inr (8, [.ref a3])), (a3, .inl (12, .inr (.inl (fun _ => 0))))] g) (fun _ _ => False) := by
  refine hl_body (by decide +kernel) (Nat.le_of_ble_eq_true rfl) ?_
  intro p e s m args below meth c B g hg
  subst hg
  have k0 : hl_K h [(r, .inr (2, [.int 0, .null, .null, .null]))] (hl_set h r (.inr (2, [.int 0, .null, .null, .null]))) := hl_K.one hr _
  change hl_GM G mX0_init 1 6 39 _ _ p l e s m args below meth c 0 [(0, .ref r)] [] (hl_set h r (.inr (2, [.int 0, .null, .null, .null]))) 0 0
  generalize hl_set h r (.inr (2, [.int 0, .null, .null, .null])) = g0 at k0
  have f0 := k0.hd
  refine hl_seg B okX0_init (fun _ => rfl) 0 1000 rfl ?_
  simp only [pX0_init, List.drop_zero, List.drop_succ_cons, hl_wp, hs_ii, hs_i1, hs_ll, hs_l1, hs_ff, hs_g1, hs_dd, hs_d1, hs_r1, hs_rv, hs_rv0, hs_n1, hs_n0, hs_v1i, hs_v1r, hs_a1, hs_d2l, hs_d2i, hs_ri, hs_rl, hs_rg, hs_rd8, hs_rr, hs_rn, hs_ov, hs_gf, hs_po, hs_pfi, hs_pfr, hs_ia, hs_la, hs_da, hs_qa, hs_al, hs_is, hs_ls, hs_ds, hs_iso, hs_lso, hs_dso, hs_rd, hs_f1, hs_f10, hs_f2, hs_f20, hs_in0, hs_in1, hs_lt, hs_le, hs_ge, hs_gt, hs_eq, hs_10, hs_00, hs_01, true_and, and_true, true_imp_iff, false_imp_iff, not_true_eq_false, not_false_eq_true, hs_av, hs_ai, hs_ar, hs_an, hs_aj, hs_ci, hs_cr, hs_cn, hs_cj, hs_cd, hs_cf, hs_q0, hs_q1, reduceIte, Nat.reduceEqDiff, Nat.reduceAdd, Nat.reduceLT, eq_self, List.getElem?_cons_zero, List.getElem?_cons_succ, List.set_cons_zero, List.set_cons_succ, List.length_cons, List.length_nil, Option.toList_some, Option.toList_none, List.cons_append, List.nil_append, Nat.zero_add, Nat.add_zero, List.map_nil, List.sum_nil, List.map_cons, List.sum_cons, Nat.zero_le, hs_set1, f0]
  have k0' := k0.upd (.inr (2, [.int 0, .null, .null, .null]))
  refine ⟨by decide, by decide, fun q1 hq1 => ?_⟩
  refine hl_callI B (As := [.int _]) (ct_X6_init (N := 12) hq1 (by decide)) mtX6_init rfl (hl_dec okX0_init 9 rfl) (kk := 209) (by decide +kernel) rfl rfl (Nat.le_of_ble_eq_true rfl) (by decide) (by decide) (by decide) (by decide) rfl (fun r9 g1 hQ1 => ?_)
  obtain ⟨rfl, a1, z1⟩ := hQ1
  have k1 : hl_K h [(r, .inr (2, [.int 0, .null, .null, .null])), (q1, .inr (8, [.ref a1])), (a1, .inl (12, .inr (.inl (fun _ => 0))))] g1 := k0'.app z1
  have f1 := k1.hd
  refine hl_seg B okX0_init (fun _ => rfl) 10 1000 rfl ?_
  simp only [pX0_init, List.drop_zero, List.drop_succ_cons, hl_wp, hs_ii, hs_i1, hs_ll, hs_l1, hs_ff, hs_g1, hs_dd, hs_d1, hs_r1, hs_rv, hs_rv0, hs_n1, hs_n0, hs_v1i, hs_v1r, hs_a1, hs_d2l, hs_d2i, hs_ri, hs_rl, hs_rg, hs_rd8, hs_rr, hs_rn, hs_ov, hs_gf, hs_po, hs_pfi, hs_pfr, hs_ia, hs_la, hs_da, hs_qa, hs_al, hs_is, hs_ls, hs_ds, hs_iso, hs_lso, hs_dso, hs_rd, hs_f1, hs_f10, hs_f2, hs_f20, hs_in0, hs_in1, hs_lt, hs_le, hs_ge, hs_gt, hs_eq, hs_10, hs_00, hs_01, true_and, and_true, true_imp_iff, false_imp_iff, not_true_eq_false, not_false_eq_true, hs_av, hs_ai, hs_ar, hs_an, hs_aj, hs_ci, hs_cr, hs_cn, hs_cj, hs_cd, hs_cf, hs_q0, hs_q1, reduceIte, Nat.reduceEqDiff, Nat.reduceAdd, Nat.reduceLT, eq_self, List.getElem?_cons_zero, List.getElem?_cons_succ, List.set_cons_zero, List.set_cons_succ, List.length_cons, List.length_nil, Option.toList_some, Option.toList_none, List.cons_append, List.nil_append, Nat.zero_add, Nat.add_zero, List.map_nil, List.sum_nil, List.map_cons, List.sum_cons, Nat.zero_le, hs_set1, f1]
  have k1' := k1.upd (.inr (2, [.int 0, .ref q1, .null, .null]))
  refine ⟨by decide, by decide, fun q2 hq2 => ?_⟩
  refine hl_callI B (As := [.int _]) (ct_X6_init (N := 12) hq2 (by decide)) mtX6_init rfl (hl_dec okX0_init 15 rfl) (kk := 209) (by decide +kernel) rfl rfl (Nat.le_of_ble_eq_true rfl) (by decide) (by decide) (by decide) (by decide) rfl (fun r9 g2 hQ2 => ?_)
  obtain ⟨rfl, a2, z2⟩ := hQ2
  have k2 : hl_K h [(r, .inr (2, [.int 0, .ref q1, .null, .null])), (q1, .inr (8, [.ref a1])), (a1, .inl (12, .inr (.inl (fun _ => 0)))), (q2, .inr (8, [.ref a2])), (a2, .inl (12, .inr (.inl (fun _ => 0))))] g2 := k1'.app z2
  have f2 := k2.hd
  refine hl_seg B okX0_init (fun _ => rfl) 16 1000 rfl ?_
  simp only [pX0_init, List.drop_zero, List.drop_succ_cons, hl_wp, hs_ii, hs_i1, hs_ll, hs_l1, hs_ff, hs_g1, hs_dd, hs_d1, hs_r1, hs_rv, hs_rv0, hs_n1, hs_n0, hs_v1i, hs_v1r, hs_a1, hs_d2l, hs_d2i, hs_ri, hs_rl, hs_rg, hs_rd8, hs_rr, hs_rn, hs_ov, hs_gf, hs_po, hs_pfi, hs_pfr, hs_ia, hs_la, hs_da, hs_qa, hs_al, hs_is, hs_ls, hs_ds, hs_iso, hs_lso, hs_dso, hs_rd, hs_f1, hs_f10, hs_f2, hs_f20, hs_in0, hs_in1, hs_lt, hs_le, hs_ge, hs_gt, hs_eq, hs_10, hs_00, hs_01, true_and, and_true, true_imp_iff, false_imp_iff, not_true_eq_false, not_false_eq_true, hs_av, hs_ai, hs_ar, hs_an, hs_aj, hs_ci, hs_cr, hs_cn, hs_cj, hs_cd, hs_cf, hs_q0, hs_q1, reduceIte, Nat.reduceEqDiff, Nat.reduceAdd, Nat.reduceLT, eq_self, List.getElem?_cons_zero, List.getElem?_cons_succ, List.set_cons_zero, List.set_cons_succ, List.length_cons, List.length_nil, Option.toList_some, Option.toList_none, List.cons_append, List.nil_append, Nat.zero_add, Nat.add_zero, List.map_nil, List.sum_nil, List.map_cons, List.sum_cons, Nat.zero_le, hs_set1, f2]
  have k2' := k2.upd (.inr (2, [.int 0, .ref q1, .ref q2, .null]))
  refine ⟨by decide, by decide, fun q3 hq3 => ?_⟩
  refine hl_callI B (As := [.int _]) (ct_X6_init (N := 12) hq3 (by decide)) mtX6_init rfl (hl_dec okX0_init 21 rfl) (kk := 209) (by decide +kernel) rfl rfl (Nat.le_of_ble_eq_true rfl) (by decide) (by decide) (by decide) (by decide) rfl (fun r9 g3 hQ3 => ?_)
  obtain ⟨rfl, a3, z3⟩ := hQ3
  have k3 : hl_K h [(r, .inr (2, [.int 0, .ref q1, .ref q2, .null])), (q1, .inr (8, [.ref a1])), (a1, .inl (12, .inr (.inl (fun _ => 0)))), (q2, .inr (8, [.ref a2])), (a2, .inl (12, .inr (.inl (fun _ => 0)))), (q3, .inr (8, [.ref a3])), (a3, .inl (12, .inr (.inl (fun _ => 0))))] g3 := k2'.app z3
  have f3 := k3.hd
  refine hl_seg B okX0_init (fun _ => rfl) 22 1000 rfl ?_
  simp only [pX0_init, List.drop_zero, List.drop_succ_cons, hl_wp, hs_ii, hs_i1, hs_ll, hs_l1, hs_ff, hs_g1, hs_dd, hs_d1, hs_r1, hs_rv, hs_rv0, hs_n1, hs_n0, hs_v1i, hs_v1r, hs_a1, hs_d2l, hs_d2i, hs_ri, hs_rl, hs_rg, hs_rd8, hs_rr, hs_rn, hs_ov, hs_gf, hs_po, hs_pfi, hs_pfr, hs_ia, hs_la, hs_da, hs_qa, hs_al, hs_is, hs_ls, hs_ds, hs_iso, hs_lso, hs_dso, hs_rd, hs_f1, hs_f10, hs_f2, hs_f20, hs_in0, hs_in1, hs_lt, hs_le, hs_ge, hs_gt, hs_eq, hs_10, hs_00, hs_01, true_and, and_true, true_imp_iff, false_imp_iff, not_true_eq_false, not_false_eq_true, hs_av, hs_ai, hs_ar, hs_an, hs_aj, hs_ci, hs_cr, hs_cn, hs_cj, hs_cd, hs_cf, hs_q0, hs_q1, reduceIte, Nat.reduceEqDiff, Nat.reduceAdd, Nat.reduceLT, eq_self, List.getElem?_cons_zero, List.getElem?_cons_succ, List.set_cons_zero, List.set_cons_succ, List.length_cons, List.length_nil, Option.toList_some, Option.toList_none, List.cons_append, List.nil_append, Nat.zero_add, Nat.add_zero, List.map_nil, List.sum_nil, List.map_cons, List.sum_cons, Nat.zero_le, hs_set1, f3]
  have k3' := k3.upd (.inr (2, [.int 0, .ref q1, .ref q2, .ref q3]))
  exact hl_vret B rfl (hl_dec okX0_init 23 rfl) (by decide) (by decide) ⟨rfl, q1, a1, q2, a2, q3, a3, k3'⟩
set_option maxRecDepth 20000 in
set_option maxHeartbeats 2000000 in
theorem ct_X3_init {G : hl_G} {l : Launch} {h : hl_H} {r : Nat} (hr : h r = none) :
    hl_Ct G l mX3_init 1 10 155 [.ref r] (fun g => g = hl_set h r (.inr (5, hl_new 5))) (fun r9 g => r9 = none ∧ ∃ q1 a1 q2 a2 q3 a3 q4 a4 q5 a5, hl_K h [(r, .inr (5, [.int 0, .ref q1, .ref q2, .ref q3, .ref q4, .ref q5])), (q1, .inr (8, [.ref a1])), (a1, .inl (30, .inr (.inl (fun _ => 0)))), (q2, .inr (8, [.ref a2])), (a2, .inl (30, .inr (.inl (fun _ => 0)))), (q3, .inr (8, [.ref a3])), (a3, .inl (30, .inr (.inl (fun _ => 0)))), (q4, .inr (8, [.ref a4])), (a4, .inl (30, .inr (.inl (fun _ => 0)))), (q5, .inr (8, [.ref a5])), (a5, .inl (30, .inr (.inl (fun _ => 0))))] g) (fun _ _ => False) := by
  refine hl_body (by decide +kernel) (Nat.le_of_ble_eq_true rfl) ?_
  intro p e s m args below meth c B g hg
  subst hg
  have k0 : hl_K h [(r, .inr (5, [.int 0, .null, .null, .null, .null, .null]))] (hl_set h r (.inr (5, [.int 0, .null, .null, .null, .null, .null]))) := hl_K.one hr _
  change hl_GM G mX3_init 1 10 155 _ _ p l e s m args below meth c 0 [(0, .ref r)] [] (hl_set h r (.inr (5, [.int 0, .null, .null, .null, .null, .null]))) 0 0
  generalize hl_set h r (.inr (5, [.int 0, .null, .null, .null, .null, .null])) = g0 at k0
  have f0 := k0.hd
  refine hl_seg B okX3_init (fun _ => rfl) 0 1000 rfl ?_
  simp only [pX3_init, List.drop_zero, List.drop_succ_cons, hl_wp, hs_ii, hs_i1, hs_ll, hs_l1, hs_ff, hs_g1, hs_dd, hs_d1, hs_r1, hs_rv, hs_rv0, hs_n1, hs_n0, hs_v1i, hs_v1r, hs_a1, hs_d2l, hs_d2i, hs_ri, hs_rl, hs_rg, hs_rd8, hs_rr, hs_rn, hs_ov, hs_gf, hs_po, hs_pfi, hs_pfr, hs_ia, hs_la, hs_da, hs_qa, hs_al, hs_is, hs_ls, hs_ds, hs_iso, hs_lso, hs_dso, hs_rd, hs_f1, hs_f10, hs_f2, hs_f20, hs_in0, hs_in1, hs_lt, hs_le, hs_ge, hs_gt, hs_eq, hs_10, hs_00, hs_01, true_and, and_true, true_imp_iff, false_imp_iff, not_true_eq_false, not_false_eq_true, hs_av, hs_ai, hs_ar, hs_an, hs_aj, hs_ci, hs_cr, hs_cn, hs_cj, hs_cd, hs_cf, hs_q0, hs_q1, reduceIte, Nat.reduceEqDiff, Nat.reduceAdd, Nat.reduceLT, eq_self, List.getElem?_cons_zero, List.getElem?_cons_succ, List.set_cons_zero, List.set_cons_succ, List.length_cons, List.length_nil, Option.toList_some, Option.toList_none, List.cons_append, List.nil_append, Nat.zero_add, Nat.add_zero, List.map_nil, List.sum_nil, List.map_cons, List.sum_cons, Nat.zero_le, hs_set1, f0]
  have k0' := k0.upd (.inr (5, [.int 0, .null, .null, .null, .null, .null]))
  refine ⟨by decide, by decide, fun q1 hq1 => ?_⟩
  refine hl_callI B (As := [.int _]) (ct_X6_init (N := 30) hq1 (by decide)) mtX6_init rfl (hl_dec okX3_init 9 rfl) (kk := 176) (by decide +kernel) rfl rfl (Nat.le_of_ble_eq_true rfl) (by decide) (by decide) (by decide) (by decide) rfl (fun r9 g1 hQ1 => ?_)
  obtain ⟨rfl, a1, z1⟩ := hQ1
  have k1 : hl_K h [(r, .inr (5, [.int 0, .null, .null, .null, .null, .null])), (q1, .inr (8, [.ref a1])), (a1, .inl (30, .inr (.inl (fun _ => 0))))] g1 := k0'.app z1
  have f1 := k1.hd
  refine hl_seg B okX3_init (fun _ => rfl) 10 1000 rfl ?_
  simp only [pX3_init, List.drop_zero, List.drop_succ_cons, hl_wp, hs_ii, hs_i1, hs_ll, hs_l1, hs_ff, hs_g1, hs_dd, hs_d1, hs_r1, hs_rv, hs_rv0, hs_n1, hs_n0, hs_v1i, hs_v1r, hs_a1, hs_d2l, hs_d2i, hs_ri, hs_rl, hs_rg, hs_rd8, hs_rr, hs_rn, hs_ov, hs_gf, hs_po, hs_pfi, hs_pfr, hs_ia, hs_la, hs_da, hs_qa, hs_al, hs_is, hs_ls, hs_ds, hs_iso, hs_lso, hs_dso, hs_rd, hs_f1, hs_f10, hs_f2, hs_f20, hs_in0, hs_in1, hs_lt, hs_le, hs_ge, hs_gt, hs_eq, hs_10, hs_00, hs_01, true_and, and_true, true_imp_iff, false_imp_iff, not_true_eq_false, not_false_eq_true, hs_av, hs_ai, hs_ar, hs_an, hs_aj, hs_ci, hs_cr, hs_cn, hs_cj, hs_cd, hs_cf, hs_q0, hs_q1, reduceIte, Nat.reduceEqDiff, Nat.reduceAdd, Nat.reduceLT, eq_self, List.getElem?_cons_zero, List.getElem?_cons_succ, List.set_cons_zero, List.set_cons_succ, List.length_cons, List.length_nil, Option.toList_some, Option.toList_none, List.cons_append, List.nil_append, Nat.zero_add, Nat.add_zero, List.map_nil, List.sum_nil, List.map_cons, List.sum_cons, Nat.zero_le, hs_set1, f1]
  have k1' := k1.upd (.inr (5, [.int 0, .ref q1, .null, .null, .null, .null]))
  refine ⟨by decide, by decide, fun q2 hq2 => ?_⟩
  refine hl_callI B (As := [.int _]) (ct_X6_init (N := 30) hq2 (by decide)) mtX6_init rfl (hl_dec okX3_init 15 rfl) (kk := 176) (by decide +kernel) rfl rfl (Nat.le_of_ble_eq_true rfl) (by decide) (by decide) (by decide) (by decide) rfl (fun r9 g2 hQ2 => ?_)
  obtain ⟨rfl, a2, z2⟩ := hQ2
  have k2 : hl_K h [(r, .inr (5, [.int 0, .ref q1, .null, .null, .null, .null])), (q1, .inr (8, [.ref a1])), (a1, .inl (30, .inr (.inl (fun _ => 0)))), (q2, .inr (8, [.ref a2])), (a2, .inl (30, .inr (.inl (fun _ => 0))))] g2 := k1'.app z2
  have f2 := k2.hd
  refine hl_seg B okX3_init (fun _ => rfl) 16 1000 rfl ?_
  simp only [pX3_init, List.drop_zero, List.drop_succ_cons, hl_wp, hs_ii, hs_i1, hs_ll, hs_l1, hs_ff, hs_g1, hs_dd, hs_d1, hs_r1, hs_rv, hs_rv0, hs_n1, hs_n0, hs_v1i, hs_v1r, hs_a1, hs_d2l, hs_d2i, hs_ri, hs_rl, hs_rg, hs_rd8, hs_rr, hs_rn, hs_ov, hs_gf, hs_po, hs_pfi, hs_pfr, hs_ia, hs_la, hs_da, hs_qa, hs_al, hs_is, hs_ls, hs_ds, hs_iso, hs_lso, hs_dso, hs_rd, hs_f1, hs_f10, hs_f2, hs_f20, hs_in0, hs_in1, hs_lt, hs_le, hs_ge, hs_gt, hs_eq, hs_10, hs_00, hs_01, true_and, and_true, true_imp_iff, false_imp_iff, not_true_eq_false, not_false_eq_true, hs_av, hs_ai, hs_ar, hs_an, hs_aj, hs_ci, hs_cr, hs_cn, hs_cj, hs_cd, hs_cf, hs_q0, hs_q1, reduceIte, Nat.reduceEqDiff, Nat.reduceAdd, Nat.reduceLT, eq_self, List.getElem?_cons_zero, List.getElem?_cons_succ, List.set_cons_zero, List.set_cons_succ, List.length_cons, List.length_nil, Option.toList_some, Option.toList_none, List.cons_append, List.nil_append, Nat.zero_add, Nat.add_zero, List.map_nil, List.sum_nil, List.map_cons, List.sum_cons, Nat.zero_le, hs_set1, f2]
  have k2' := k2.upd (.inr (5, [.int 0, .ref q1, .ref q2, .null, .null, .null]))
  refine ⟨by decide, by decide, fun q3 hq3 => ?_⟩
  refine hl_callI B (As := [.int _]) (ct_X6_init (N := 30) hq3 (by decide)) mtX6_init rfl (hl_dec okX3_init 21 rfl) (kk := 176) (by decide +kernel) rfl rfl (Nat.le_of_ble_eq_true rfl) (by decide) (by decide) (by decide) (by decide) rfl (fun r9 g3 hQ3 => ?_)
  obtain ⟨rfl, a3, z3⟩ := hQ3
  have k3 : hl_K h [(r, .inr (5, [.int 0, .ref q1, .ref q2, .null, .null, .null])), (q1, .inr (8, [.ref a1])), (a1, .inl (30, .inr (.inl (fun _ => 0)))), (q2, .inr (8, [.ref a2])), (a2, .inl (30, .inr (.inl (fun _ => 0)))), (q3, .inr (8, [.ref a3])), (a3, .inl (30, .inr (.inl (fun _ => 0))))] g3 := k2'.app z3
  have f3 := k3.hd
  refine hl_seg B okX3_init (fun _ => rfl) 22 1000 rfl ?_
  simp only [pX3_init, List.drop_zero, List.drop_succ_cons, hl_wp, hs_ii, hs_i1, hs_ll, hs_l1, hs_ff, hs_g1, hs_dd, hs_d1, hs_r1, hs_rv, hs_rv0, hs_n1, hs_n0, hs_v1i, hs_v1r, hs_a1, hs_d2l, hs_d2i, hs_ri, hs_rl, hs_rg, hs_rd8, hs_rr, hs_rn, hs_ov, hs_gf, hs_po, hs_pfi, hs_pfr, hs_ia, hs_la, hs_da, hs_qa, hs_al, hs_is, hs_ls, hs_ds, hs_iso, hs_lso, hs_dso, hs_rd, hs_f1, hs_f10, hs_f2, hs_f20, hs_in0, hs_in1, hs_lt, hs_le, hs_ge, hs_gt, hs_eq, hs_10, hs_00, hs_01, true_and, and_true, true_imp_iff, false_imp_iff, not_true_eq_false, not_false_eq_true, hs_av, hs_ai, hs_ar, hs_an, hs_aj, hs_ci, hs_cr, hs_cn, hs_cj, hs_cd, hs_cf, hs_q0, hs_q1, reduceIte, Nat.reduceEqDiff, Nat.reduceAdd, Nat.reduceLT, eq_self, List.getElem?_cons_zero, List.getElem?_cons_succ, List.set_cons_zero, List.set_cons_succ, List.length_cons, List.length_nil, Option.toList_some, Option.toList_none, List.cons_append, List.nil_append, Nat.zero_add, Nat.add_zero, List.map_nil, List.sum_nil, List.map_cons, List.sum_cons, Nat.zero_le, hs_set1, f3]
  have k3' := k3.upd (.inr (5, [.int 0, .ref q1, .ref q2, .ref q3, .null, .null]))
  refine ⟨by decide, by decide, fun q4 hq4 => ?_⟩
  refine hl_callI B (As := [.int _]) (ct_X6_init (N := 30) hq4 (by decide)) mtX6_init rfl (hl_dec okX3_init 27 rfl) (kk := 176) (by decide +kernel) rfl rfl (Nat.le_of_ble_eq_true rfl) (by decide) (by decide) (by decide) (by decide) rfl (fun r9 g4 hQ4 => ?_)
  obtain ⟨rfl, a4, z4⟩ := hQ4
  have k4 : hl_K h [(r, .inr (5, [.int 0, .ref q1, .ref q2, .ref q3, .null, .null])), (q1, .inr (8, [.ref a1])), (a1, .inl (30, .inr (.inl (fun _ => 0)))), (q2, .inr (8, [.ref a2])), (a2, .inl (30, .inr (.inl (fun _ => 0)))), (q3, .inr (8, [.ref a3])), (a3, .inl (30, .inr (.inl (fun _ => 0)))), (q4, .inr (8, [.ref a4])), (a4, .inl (30, .inr (.inl (fun _ => 0))))] g4 := k3'.app z4
  have f4 := k4.hd
  refine hl_seg B okX3_init (fun _ => rfl) 28 1000 rfl ?_
  simp only [pX3_init, List.drop_zero, List.drop_succ_cons, hl_wp, hs_ii, hs_i1, hs_ll, hs_l1, hs_ff, hs_g1, hs_dd, hs_d1, hs_r1, hs_rv, hs_rv0, hs_n1, hs_n0, hs_v1i, hs_v1r, hs_a1, hs_d2l, hs_d2i, hs_ri, hs_rl, hs_rg, hs_rd8, hs_rr, hs_rn, hs_ov, hs_gf, hs_po, hs_pfi, hs_pfr, hs_ia, hs_la, hs_da, hs_qa, hs_al, hs_is, hs_ls, hs_ds, hs_iso, hs_lso, hs_dso, hs_rd, hs_f1, hs_f10, hs_f2, hs_f20, hs_in0, hs_in1, hs_lt, hs_le, hs_ge, hs_gt, hs_eq, hs_10, hs_00, hs_01, true_and, and_true, true_imp_iff, false_imp_iff, not_true_eq_false, not_false_eq_true, hs_av, hs_ai, hs_ar, hs_an, hs_aj, hs_ci, hs_cr, hs_cn, hs_cj, hs_cd, hs_cf, hs_q0, hs_q1, reduceIte, Nat.reduceEqDiff, Nat.reduceAdd, Nat.reduceLT, eq_self, List.getElem?_cons_zero, List.getElem?_cons_succ, List.set_cons_zero, List.set_cons_succ, List.length_cons, List.length_nil, Option.toList_some, Option.toList_none, List.cons_append, List.nil_append, Nat.zero_add, Nat.add_zero, List.map_nil, List.sum_nil, List.map_cons, List.sum_cons, Nat.zero_le, hs_set1, f4]
  have k4' := k4.upd (.inr (5, [.int 0, .ref q1, .ref q2, .ref q3, .ref q4, .null]))
  refine ⟨by decide, by decide, fun q5 hq5 => ?_⟩
  refine hl_callI B (As := [.int _]) (ct_X6_init (N := 30) hq5 (by decide)) mtX6_init rfl (hl_dec okX3_init 33 rfl) (kk := 176) (by decide +kernel) rfl rfl (Nat.le_of_ble_eq_true rfl) (by decide) (by decide) (by decide) (by decide) rfl (fun r9 g5 hQ5 => ?_)
  obtain ⟨rfl, a5, z5⟩ := hQ5
  have k5 : hl_K h [(r, .inr (5, [.int 0, .ref q1, .ref q2, .ref q3, .ref q4, .null])), (q1, .inr (8, [.ref a1])), (a1, .inl (30, .inr (.inl (fun _ => 0)))), (q2, .inr (8, [.ref a2])), (a2, .inl (30, .inr (.inl (fun _ => 0)))), (q3, .inr (8, [.ref a3])), (a3, .inl (30, .inr (.inl (fun _ => 0)))), (q4, .inr (8, [.ref a4])), (a4, .inl (30, .inr (.inl (fun _ => 0)))), (q5, .inr (8, [.ref a5])), (a5, .inl (30, .inr (.inl (fun _ => 0))))] g5 := k4'.app z5
  have f5 := k5.hd
  refine hl_seg B okX3_init (fun _ => rfl) 34 1000 rfl ?_
  simp only [pX3_init, List.drop_zero, List.drop_succ_cons, hl_wp, hs_ii, hs_i1, hs_ll, hs_l1, hs_ff, hs_g1, hs_dd, hs_d1, hs_r1, hs_rv, hs_rv0, hs_n1, hs_n0, hs_v1i, hs_v1r, hs_a1, hs_d2l, hs_d2i, hs_ri, hs_rl, hs_rg, hs_rd8, hs_rr, hs_rn, hs_ov, hs_gf, hs_po, hs_pfi, hs_pfr, hs_ia, hs_la, hs_da, hs_qa, hs_al, hs_is, hs_ls, hs_ds, hs_iso, hs_lso, hs_dso, hs_rd, hs_f1, hs_f10, hs_f2, hs_f20, hs_in0, hs_in1, hs_lt, hs_le, hs_ge, hs_gt, hs_eq, hs_10, hs_00, hs_01, true_and, and_true, true_imp_iff, false_imp_iff, not_true_eq_false, not_false_eq_true, hs_av, hs_ai, hs_ar, hs_an, hs_aj, hs_ci, hs_cr, hs_cn, hs_cj, hs_cd, hs_cf, hs_q0, hs_q1, reduceIte, Nat.reduceEqDiff, Nat.reduceAdd, Nat.reduceLT, eq_self, List.getElem?_cons_zero, List.getElem?_cons_succ, List.set_cons_zero, List.set_cons_succ, List.length_cons, List.length_nil, Option.toList_some, Option.toList_none, List.cons_append, List.nil_append, Nat.zero_add, Nat.add_zero, List.map_nil, List.sum_nil, List.map_cons, List.sum_cons, Nat.zero_le, hs_set1, f5]
  have k5' := k5.upd (.inr (5, [.int 0, .ref q1, .ref q2, .ref q3, .ref q4, .ref q5]))
  exact hl_vret B rfl (hl_dec okX3_init 35 rfl) (by decide) (by decide) ⟨rfl, q1, a1, q2, a2, q3, a3, q4, a4, q5, a5, k5'⟩
set_option maxRecDepth 20000 in
set_option maxHeartbeats 2000000 in
theorem ct_X4_init {G : hl_G} {l : Launch} {h : hl_H} {r : Nat} (hr : h r = none) :
    hl_Ct G l mX4_init 1 14 1057 [.ref r] (fun g => g = hl_set h r (.inr (6, hl_new 6))) (fun r9 g => r9 = none ∧ ∃ q1 a1 q2 a2 q3 a3 q4 a4 q5 a5 q6 a6 q7 a7, hl_K h [(r, .inr (6, [.int 0, .ref q1, .ref q2, .ref q3, .ref q4, .ref q5, .ref q6, .ref q7])), (q1, .inr (8, [.ref a1])), (a1, .inl (150, .inr (.inl (fun _ => 0)))), (q2, .inr (8, [.ref a2])), (a2, .inl (150, .inr (.inl (fun _ => 0)))), (q3, .inr (8, [.ref a3])), (a3, .inl (150, .inr (.inl (fun _ => 0)))), (q4, .inr (8, [.ref a4])), (a4, .inl (150, .inr (.inl (fun _ => 0)))), (q5, .inr (8, [.ref a5])), (a5, .inl (150, .inr (.inl (fun _ => 0)))), (q6, .inr (8, [.ref a6])), (a6, .inl (150, .inr (.inl (fun _ => 0)))), (q7, .inr (8, [.ref a7])), (a7, .inl (150, .inr (.inl (fun _ => 0))))] g) (fun _ _ => False) := by
  refine hl_body (by decide +kernel) (Nat.le_of_ble_eq_true rfl) ?_
  intro p e s m args below meth c B g hg
  subst hg
  have k0 : hl_K h [(r, .inr (6, [.int 0, .null, .null, .null, .null, .null, .null, .null]))] (hl_set h r (.inr (6, [.int 0, .null, .null, .null, .null, .null, .null, .null]))) := hl_K.one hr _
  change hl_GM G mX4_init 1 14 1057 _ _ p l e s m args below meth c 0 [(0, .ref r)] [] (hl_set h r (.inr (6, [.int 0, .null, .null, .null, .null, .null, .null, .null]))) 0 0
  generalize hl_set h r (.inr (6, [.int 0, .null, .null, .null, .null, .null, .null, .null])) = g0 at k0
  have f0 := k0.hd
  refine hl_seg B okX4_init (fun _ => rfl) 0 1000 rfl ?_
  simp only [pX4_init, List.drop_zero, List.drop_succ_cons, hl_wp, hs_ii, hs_i1, hs_ll, hs_l1, hs_ff, hs_g1, hs_dd, hs_d1, hs_r1, hs_rv, hs_rv0, hs_n1, hs_n0, hs_v1i, hs_v1r, hs_a1, hs_d2l, hs_d2i, hs_ri, hs_rl, hs_rg, hs_rd8, hs_rr, hs_rn, hs_ov, hs_gf, hs_po, hs_pfi, hs_pfr, hs_ia, hs_la, hs_da, hs_qa, hs_al, hs_is, hs_ls, hs_ds, hs_iso, hs_lso, hs_dso, hs_rd, hs_f1, hs_f10, hs_f2, hs_f20, hs_in0, hs_in1, hs_lt, hs_le, hs_ge, hs_gt, hs_eq, hs_10, hs_00, hs_01, true_and, and_true, true_imp_iff, false_imp_iff, not_true_eq_false, not_false_eq_true, hs_av, hs_ai, hs_ar, hs_an, hs_aj, hs_ci, hs_cr, hs_cn, hs_cj, hs_cd, hs_cf, hs_q0, hs_q1, reduceIte, Nat.reduceEqDiff, Nat.reduceAdd, Nat.reduceLT, eq_self, List.getElem?_cons_zero, List.getElem?_cons_succ, List.set_cons_zero, List.set_cons_succ, List.length_cons, List.length_nil, Option.toList_some, Option.toList_none, List.cons_append, List.nil_append, Nat.zero_add, Nat.add_zero, List.map_nil, List.sum_nil, List.map_cons, List.sum_cons, Nat.zero_le, hs_set1, f0]
  have k0' := k0.upd (.inr (6, [.int 0, .null, .null, .null, .null, .null, .null, .null]))
  refine ⟨by decide, by decide, fun q1 hq1 => ?_⟩
  refine hl_callI B (As := [.int _]) (ct_X6_init (N := 150) hq1 (by decide)) mtX6_init rfl (hl_dec okX4_init 9 rfl) (kk := 136) (by decide +kernel) rfl rfl (Nat.le_of_ble_eq_true rfl) (by decide) (by decide) (by decide) (by decide) rfl (fun r9 g1 hQ1 => ?_)
  obtain ⟨rfl, a1, z1⟩ := hQ1
  have k1 : hl_K h [(r, .inr (6, [.int 0, .null, .null, .null, .null, .null, .null, .null])), (q1, .inr (8, [.ref a1])), (a1, .inl (150, .inr (.inl (fun _ => 0))))] g1 := k0'.app z1
  have f1 := k1.hd
  refine hl_seg B okX4_init (fun _ => rfl) 10 1000 rfl ?_
  simp only [pX4_init, List.drop_zero, List.drop_succ_cons, hl_wp, hs_ii, hs_i1, hs_ll, hs_l1, hs_ff, hs_g1, hs_dd, hs_d1, hs_r1, hs_rv, hs_rv0, hs_n1, hs_n0, hs_v1i, hs_v1r, hs_a1, hs_d2l, hs_d2i, hs_ri, hs_rl, hs_rg, hs_rd8, hs_rr, hs_rn, hs_ov, hs_gf, hs_po, hs_pfi, hs_pfr, hs_ia, hs_la, hs_da, hs_qa, hs_al, hs_is, hs_ls, hs_ds, hs_iso, hs_lso, hs_dso, hs_rd, hs_f1, hs_f10, hs_f2, hs_f20, hs_in0, hs_in1, hs_lt, hs_le, hs_ge, hs_gt, hs_eq, hs_10, hs_00, hs_01, true_and, and_true, true_imp_iff, false_imp_iff, not_true_eq_false, not_false_eq_true, hs_av, hs_ai, hs_ar, hs_an, hs_aj, hs_ci, hs_cr, hs_cn, hs_cj, hs_cd, hs_cf, hs_q0, hs_q1, reduceIte, Nat.reduceEqDiff, Nat.reduceAdd, Nat.reduceLT, eq_self, List.getElem?_cons_zero, List.getElem?_cons_succ, List.set_cons_zero, List.set_cons_succ, List.length_cons, List.length_nil, Option.toList_some, Option.toList_none, List.cons_append, List.nil_append, Nat.zero_add, Nat.add_zero, List.map_nil, List.sum_nil, List.map_cons, List.sum_cons, Nat.zero_le, hs_set1, f1]
  have k1' := k1.upd (.inr (6, [.int 0, .ref q1, .null, .null, .null, .null, .null, .null]))
  refine ⟨by decide, by decide, fun q2 hq2 => ?_⟩
  refine hl_callI B (As := [.int _]) (ct_X6_init (N := 150) hq2 (by decide)) mtX6_init rfl (hl_dec okX4_init 15 rfl) (kk := 136) (by decide +kernel) rfl rfl (Nat.le_of_ble_eq_true rfl) (by decide) (by decide) (by decide) (by decide) rfl (fun r9 g2 hQ2 => ?_)
  obtain ⟨rfl, a2, z2⟩ := hQ2
  have k2 : hl_K h [(r, .inr (6, [.int 0, .ref q1, .null, .null, .null, .null, .null, .null])), (q1, .inr (8, [.ref a1])), (a1, .inl (150, .inr (.inl (fun _ => 0)))), (q2, .inr (8, [.ref a2])), (a2, .inl (150, .inr (.inl (fun _ => 0))))] g2 := k1'.app z2
  have f2 := k2.hd
  refine hl_seg B okX4_init (fun _ => rfl) 16 1000 rfl ?_
  simp only [pX4_init, List.drop_zero, List.drop_succ_cons, hl_wp, hs_ii, hs_i1, hs_ll, hs_l1, hs_ff, hs_g1, hs_dd, hs_d1, hs_r1, hs_rv, hs_rv0, hs_n1, hs_n0, hs_v1i, hs_v1r, hs_a1, hs_d2l, hs_d2i, hs_ri, hs_rl, hs_rg, hs_rd8, hs_rr, hs_rn, hs_ov, hs_gf, hs_po, hs_pfi, hs_pfr, hs_ia, hs_la, hs_da, hs_qa, hs_al, hs_is, hs_ls, hs_ds, hs_iso, hs_lso, hs_dso, hs_rd, hs_f1, hs_f10, hs_f2, hs_f20, hs_in0, hs_in1, hs_lt, hs_le, hs_ge, hs_gt, hs_eq, hs_10, hs_00, hs_01, true_and, and_true, true_imp_iff, false_imp_iff, not_true_eq_false, not_false_eq_true, hs_av, hs_ai, hs_ar, hs_an, hs_aj, hs_ci, hs_cr, hs_cn, hs_cj, hs_cd, hs_cf, hs_q0, hs_q1, reduceIte, Nat.reduceEqDiff, Nat.reduceAdd, Nat.reduceLT, eq_self, List.getElem?_cons_zero, List.getElem?_cons_succ, List.set_cons_zero, List.set_cons_succ, List.length_cons, List.length_nil, Option.toList_some, Option.toList_none, List.cons_append, List.nil_append, Nat.zero_add, Nat.add_zero, List.map_nil, List.sum_nil, List.map_cons, List.sum_cons, Nat.zero_le, hs_set1, f2]
  have k2' := k2.upd (.inr (6, [.int 0, .ref q1, .ref q2, .null, .null, .null, .null, .null]))
  refine ⟨by decide, by decide, fun q3 hq3 => ?_⟩
  refine hl_callI B (As := [.int _]) (ct_X6_init (N := 150) hq3 (by decide)) mtX6_init rfl (hl_dec okX4_init 21 rfl) (kk := 136) (by decide +kernel) rfl rfl (Nat.le_of_ble_eq_true rfl) (by decide) (by decide) (by decide) (by decide) rfl (fun r9 g3 hQ3 => ?_)
  obtain ⟨rfl, a3, z3⟩ := hQ3
  have k3 : hl_K h [(r, .inr (6, [.int 0, .ref q1, .ref q2, .null, .null, .null, .null, .null])), (q1, .inr (8, [.ref a1])), (a1, .inl (150, .inr (.inl (fun _ => 0)))), (q2, .inr (8, [.ref a2])), (a2, .inl (150, .inr (.inl (fun _ => 0)))), (q3, .inr (8, [.ref a3])), (a3, .inl (150, .inr (.inl (fun _ => 0))))] g3 := k2'.app z3
  have f3 := k3.hd
  refine hl_seg B okX4_init (fun _ => rfl) 22 1000 rfl ?_
  simp only [pX4_init, List.drop_zero, List.drop_succ_cons, hl_wp, hs_ii, hs_i1, hs_ll, hs_l1, hs_ff, hs_g1, hs_dd, hs_d1, hs_r1, hs_rv, hs_rv0, hs_n1, hs_n0, hs_v1i, hs_v1r, hs_a1, hs_d2l, hs_d2i, hs_ri, hs_rl, hs_rg, hs_rd8, hs_rr, hs_rn, hs_ov, hs_gf, hs_po, hs_pfi, hs_pfr, hs_ia, hs_la, hs_da, hs_qa, hs_al, hs_is, hs_ls, hs_ds, hs_iso, hs_lso, hs_dso, hs_rd, hs_f1, hs_f10, hs_f2, hs_f20, hs_in0, hs_in1, hs_lt, hs_le, hs_ge, hs_gt, hs_eq, hs_10, hs_00, hs_01, true_and, and_true, true_imp_iff, false_imp_iff, not_true_eq_false, not_false_eq_true, hs_av, hs_ai, hs_ar, hs_an, hs_aj, hs_ci, hs_cr, hs_cn, hs_cj, hs_cd, hs_cf, hs_q0, hs_q1, reduceIte, Nat.reduceEqDiff, Nat.reduceAdd, Nat.reduceLT, eq_self, List.getElem?_cons_zero, List.getElem?_cons_succ, List.set_cons_zero, List.set_cons_succ, List.length_cons, List.length_nil, Option.toList_some, Option.toList_none, List.cons_append, List.nil_append, Nat.zero_add, Nat.add_zero, List.map_nil, List.sum_nil, List.map_cons, List.sum_cons, Nat.zero_le, hs_set1, f3]
  have k3' := k3.upd (.inr (6, [.int 0, .ref q1, .ref q2, .ref q3, .null, .null, .null, .null]))
  refine ⟨by decide, by decide, fun q4 hq4 => ?_⟩
  refine hl_callI B (As := [.int _]) (ct_X6_init (N := 150) hq4 (by decide)) mtX6_init rfl (hl_dec okX4_init 27 rfl) (kk := 136) (by decide +kernel) rfl rfl (Nat.le_of_ble_eq_true rfl) (by decide) (by decide) (by decide) (by decide) rfl (fun r9 g4 hQ4 => ?_)
  obtain ⟨rfl, a4, z4⟩ := hQ4
  have k4 : hl_K h [(r, .inr (6, [.int 0, .ref q1, .ref q2, .ref q3, .null, .null, .null, .null])), (q1, .inr (8, [.ref a1])), (a1, .inl (150, .inr (.inl (fun _ => 0)))), (q2, .inr (8, [.ref a2])), (a2, .inl (150, .inr (.inl (fun _ => 0)))), (q3, .inr (8, [.ref a3])), (a3, .inl (150, .inr (.inl (fun _ => 0)))), (q4, .inr (8, [.ref a4])), (a4, .inl (150, .inr (.inl (fun _ => 0))))] g4 := k3'.app z4
  have f4 := k4.hd
  refine hl_seg B okX4_init (fun _ => rfl) 28 1000 rfl ?_
  simp only [pX4_init, List.drop_zero, List.drop_succ_cons, hl_wp, hs_ii, hs_i1, hs_ll, hs_l1, hs_ff, hs_g1, hs_dd, hs_d1, hs_r1, hs_rv, hs_rv0, hs_n1, hs_n0, hs_v1i, hs_v1r, hs_a1, hs_d2l, hs_d2i, hs_ri, hs_rl, hs_rg, hs_rd8, hs_rr, hs_rn, hs_ov, hs_gf, hs_po, hs_pfi, hs_pfr, hs_ia, hs_la, hs_da, hs_qa, hs_al, hs_is, hs_ls, hs_ds, hs_iso, hs_lso, hs_dso, hs_rd, hs_f1, hs_f10, hs_f2, hs_f20, hs_in0, hs_in1, hs_lt, hs_le, hs_ge, hs_gt, hs_eq, hs_10, hs_00, hs_01, true_and, and_true, true_imp_iff, false_imp_iff, not_true_eq_false, not_false_eq_true, hs_av, hs_ai, hs_ar, hs_an, hs_aj, hs_ci, hs_cr, hs_cn, hs_cj, hs_cd, hs_cf, hs_q0, hs_q1, reduceIte, Nat.reduceEqDiff, Nat.reduceAdd, Nat.reduceLT, eq_self, List.getElem?_cons_zero, List.getElem?_cons_succ, List.set_cons_zero, List.set_cons_succ, List.length_cons, List.length_nil, Option.toList_some, Option.toList_none, List.cons_append, List.nil_append, Nat.zero_add, Nat.add_zero, List.map_nil, List.sum_nil, List.map_cons, List.sum_cons, Nat.zero_le, hs_set1, f4]
  have k4' := k4.upd (.inr (6, [.int 0, .ref q1, .ref q2, .ref q3, .ref q4, .null, .null, .null]))
  refine ⟨by decide, by decide, fun q5 hq5 => ?_⟩
  refine hl_callI B (As := [.int _]) (ct_X6_init (N := 150) hq5 (by decide)) mtX6_init rfl (hl_dec okX4_init 33 rfl) (kk := 136) (by decide +kernel) rfl rfl (Nat.le_of_ble_eq_true rfl) (by decide) (by decide) (by decide) (by decide) rfl (fun r9 g5 hQ5 => ?_)
  obtain ⟨rfl, a5, z5⟩ := hQ5
  have k5 : hl_K h [(r, .inr (6, [.int 0, .ref q1, .ref q2, .ref q3, .ref q4, .null, .null, .null])), (q1, .inr (8, [.ref a1])), (a1, .inl (150, .inr (.inl (fun _ => 0)))), (q2, .inr (8, [.ref a2])), (a2, .inl (150, .inr (.inl (fun _ => 0)))), (q3, .inr (8, [.ref a3])), (a3, .inl (150, .inr (.inl (fun _ => 0)))), (q4, .inr (8, [.ref a4])), (a4, .inl (150, .inr (.inl (fun _ => 0)))), (q5, .inr (8, [.ref a5])), (a5, .inl (150, .inr (.inl (fun _ => 0))))] g5 := k4'.app z5
  have f5 := k5.hd
  refine hl_seg B okX4_init (fun _ => rfl) 34 1000 rfl ?_
  simp only [pX4_init, List.drop_zero, List.drop_succ_cons, hl_wp, hs_ii, hs_i1, hs_ll, hs_l1, hs_ff, hs_g1, hs_dd, hs_d1, hs_r1, hs_rv, hs_rv0, hs_n1, hs_n0, hs_v1i, hs_v1r, hs_a1, hs_d2l, hs_d2i, hs_ri, hs_rl, hs_rg, hs_rd8, hs_rr, hs_rn, hs_ov, hs_gf, hs_po, hs_pfi, hs_pfr, hs_ia, hs_la, hs_da, hs_qa, hs_al, hs_is, hs_ls, hs_ds, hs_iso, hs_lso, hs_dso, hs_rd, hs_f1, hs_f10, hs_f2, hs_f20, hs_in0, hs_in1, hs_lt, hs_le, hs_ge, hs_gt, hs_eq, hs_10, hs_00, hs_01, true_and, and_true, true_imp_iff, false_imp_iff, not_true_eq_false, not_false_eq_true, hs_av, hs_ai, hs_ar, hs_an, hs_aj, hs_ci, hs_cr, hs_cn, hs_cj, hs_cd, hs_cf, hs_q0, hs_q1, reduceIte, Nat.reduceEqDiff, Nat.reduceAdd, Nat.reduceLT, eq_self, List.getElem?_cons_zero, List.getElem?_cons_succ, List.set_cons_zero, List.set_cons_succ, List.length_cons, List.length_nil, Option.toList_some, Option.toList_none, List.cons_append, List.nil_append, Nat.zero_add, Nat.add_zero, List.map_nil, List.sum_nil, List.map_cons, List.sum_cons, Nat.zero_le, hs_set1, f5]
  have k5' := k5.upd (.inr (6, [.int 0, .ref q1, .ref q2, .ref q3, .ref q4, .ref q5, .null, .null]))
  refine ⟨by decide, by decide, fun q6 hq6 => ?_⟩
  refine hl_callI B (As := [.int _]) (ct_X6_init (N := 150) hq6 (by decide)) mtX6_init rfl (hl_dec okX4_init 39 rfl) (kk := 136) (by decide +kernel) rfl rfl (Nat.le_of_ble_eq_true rfl) (by decide) (by decide) (by decide) (by decide) rfl (fun r9 g6 hQ6 => ?_)
  obtain ⟨rfl, a6, z6⟩ := hQ6
  have k6 : hl_K h [(r, .inr (6, [.int 0, .ref q1, .ref q2, .ref q3, .ref q4, .ref q5, .null, .null])), (q1, .inr (8, [.ref a1])), (a1, .inl (150, .inr (.inl (fun _ => 0)))), (q2, .inr (8, [.ref a2])), (a2, .inl (150, .inr (.inl (fun _ => 0)))), (q3, .inr (8, [.ref a3])), (a3, .inl (150, .inr (.inl (fun _ => 0)))), (q4, .inr (8, [.ref a4])), (a4, .inl (150, .inr (.inl (fun _ => 0)))), (q5, .inr (8, [.ref a5])), (a5, .inl (150, .inr (.inl (fun _ => 0)))), (q6, .inr (8, [.ref a6])), (a6, .inl (150, .inr (.inl (fun _ => 0))))] g6 := k5'.app z6
  have f6 := k6.hd
  refine hl_seg B okX4_init (fun _ => rfl) 40 1000 rfl ?_
  simp only [pX4_init, List.drop_zero, List.drop_succ_cons, hl_wp, hs_ii, hs_i1, hs_ll, hs_l1, hs_ff, hs_g1, hs_dd, hs_d1, hs_r1, hs_rv, hs_rv0, hs_n1, hs_n0, hs_v1i, hs_v1r, hs_a1, hs_d2l, hs_d2i, hs_ri, hs_rl, hs_rg, hs_rd8, hs_rr, hs_rn, hs_ov, hs_gf, hs_po, hs_pfi, hs_pfr, hs_ia, hs_la, hs_da, hs_qa, hs_al, hs_is, hs_ls, hs_ds, hs_iso, hs_lso, hs_dso, hs_rd, hs_f1, hs_f10, hs_f2, hs_f20, hs_in0, hs_in1, hs_lt, hs_le, hs_ge, hs_gt, hs_eq, hs_10, hs_00, hs_01, true_and, and_true, true_imp_iff, false_imp_iff, not_true_eq_false, not_false_eq_true, hs_av, hs_ai, hs_ar, hs_an, hs_aj, hs_ci, hs_cr, hs_cn, hs_cj, hs_cd, hs_cf, hs_q0, hs_q1, reduceIte, Nat.reduceEqDiff, Nat.reduceAdd, Nat.reduceLT, eq_self, List.getElem?_cons_zero, List.getElem?_cons_succ, List.set_cons_zero, List.set_cons_succ, List.length_cons, List.length_nil, Option.toList_some, Option.toList_none, List.cons_append, List.nil_append, Nat.zero_add, Nat.add_zero, List.map_nil, List.sum_nil, List.map_cons, List.sum_cons, Nat.zero_le, hs_set1, f6]
  have k6' := k6.upd (.inr (6, [.int 0, .ref q1, .ref q2, .ref q3, .ref q4, .ref q5, .ref q6, .null]))
  refine ⟨by decide, by decide, fun q7 hq7 => ?_⟩
  refine hl_callI B (As := [.int _]) (ct_X6_init (N := 150) hq7 (by decide)) mtX6_init rfl (hl_dec okX4_init 45 rfl) (kk := 136) (by decide +kernel) rfl rfl (Nat.le_of_ble_eq_true rfl) (by decide) (by decide) (by decide) (by decide) rfl (fun r9 g7 hQ7 => ?_)
  obtain ⟨rfl, a7, z7⟩ := hQ7
  have k7 : hl_K h [(r, .inr (6, [.int 0, .ref q1, .ref q2, .ref q3, .ref q4, .ref q5, .ref q6, .null])), (q1, .inr (8, [.ref a1])), (a1, .inl (150, .inr (.inl (fun _ => 0)))), (q2, .inr (8, [.ref a2])), (a2, .inl (150, .inr (.inl (fun _ => 0)))), (q3, .inr (8, [.ref a3])), (a3, .inl (150, .inr (.inl (fun _ => 0)))), (q4, .inr (8, [.ref a4])), (a4, .inl (150, .inr (.inl (fun _ => 0)))), (q5, .inr (8, [.ref a5])), (a5, .inl (150, .inr (.inl (fun _ => 0)))), (q6, .inr (8, [.ref a6])), (a6, .inl (150, .inr (.inl (fun _ => 0)))), (q7, .inr (8, [.ref a7])), (a7, .inl (150, .inr (.inl (fun _ => 0))))] g7 := k6'.app z7
  have f7 := k7.hd
  refine hl_seg B okX4_init (fun _ => rfl) 46 1000 rfl ?_
  simp only [pX4_init, List.drop_zero, List.drop_succ_cons, hl_wp, hs_ii, hs_i1, hs_ll, hs_l1, hs_ff, hs_g1, hs_dd, hs_d1, hs_r1, hs_rv, hs_rv0, hs_n1, hs_n0, hs_v1i, hs_v1r, hs_a1, hs_d2l, hs_d2i, hs_ri, hs_rl, hs_rg, hs_rd8, hs_rr, hs_rn, hs_ov, hs_gf, hs_po, hs_pfi, hs_pfr, hs_ia, hs_la, hs_da, hs_qa, hs_al, hs_is, hs_ls, hs_ds, hs_iso, hs_lso, hs_dso, hs_rd, hs_f1, hs_f10, hs_f2, hs_f20, hs_in0, hs_in1, hs_lt, hs_le, hs_ge, hs_gt, hs_eq, hs_10, hs_00, hs_01, true_and, and_true, true_imp_iff, false_imp_iff, not_true_eq_false, not_false_eq_true, hs_av, hs_ai, hs_ar, hs_an, hs_aj, hs_ci, hs_cr, hs_cn, hs_cj, hs_cd, hs_cf, hs_q0, hs_q1, reduceIte, Nat.reduceEqDiff, Nat.reduceAdd, Nat.reduceLT, eq_self, List.getElem?_cons_zero, List.getElem?_cons_succ, List.set_cons_zero, List.set_cons_succ, List.length_cons, List.length_nil, Option.toList_some, Option.toList_none, List.cons_append, List.nil_append, Nat.zero_add, Nat.add_zero, List.map_nil, List.sum_nil, List.map_cons, List.sum_cons, Nat.zero_le, hs_set1, f7]
  have k7' := k7.upd (.inr (6, [.int 0, .ref q1, .ref q2, .ref q3, .ref q4, .ref q5, .ref q6, .ref q7]))
  exact hl_vret B rfl (hl_dec okX4_init 47 rfl) (by decide) (by decide) ⟨rfl, q1, a1, q2, a2, q3, a3, q4, a4, q5, a5, q6, a6, q7, a7, k7'⟩
/-- the rates at first -/
def ls_rt : Nat → Nat → Int64
  | 0 => fun _ => 0
  | i + 1 => row_put 4 (ls_rt i) (nI i) 1000
set_option maxRecDepth 20000 in
set_option maxHeartbeats 2000000 in
theorem ct_X1_init {G : hl_G} {l : Launch} {h : hl_H} {r : Nat} (hr : h r = none) :
    hl_Ct G l mX1_init 1 12 48 [.ref r] (fun g => g = hl_set h r (.inr (3, hl_new 3))) (fun r9 g => r9 = none ∧ ∃ q1 a1 q2 a2 q3 a3 q4 a4 q5 a5 q6 a6, hl_K h [(r, .inr (3, [.int 0, .ref q1, .ref q2, .ref q3, .ref q4, .ref q5, .ref q6])), (q1, .inr (8, [.ref a1])), (a1, .inl (10, .inr (.inl (fun _ => 0)))), (q2, .inr (8, [.ref a2])), (a2, .inl (10, .inr (.inl (fun _ => 0)))), (q3, .inr (8, [.ref a3])), (a3, .inl (10, .inr (.inl (fun _ => 0)))), (q4, .inr (8, [.ref a4])), (a4, .inl (4, .inr (.inl (fun _ => 0)))), (q5, .inr (8, [.ref a5])), (a5, .inl (4, .inr (.inl (fun _ => 0)))), (q6, .inr (8, [.ref a6])), (a6, .inl (4, .inr (.inl (ls_rt 4))))] g) (fun _ _ => False) := by
  refine hl_body (by decide +kernel) (Nat.le_of_ble_eq_true rfl) ?_
  intro p e s m args below meth c B g hg
  subst hg
  have k0 : hl_K h [(r, .inr (3, [.int 0, .null, .null, .null, .null, .null, .null]))] (hl_set h r (.inr (3, [.int 0, .null, .null, .null, .null, .null, .null]))) := hl_K.one hr _
  change hl_GM G mX1_init 1 12 48 _ _ p l e s m args below meth c 0 [(0, .ref r)] [] (hl_set h r (.inr (3, [.int 0, .null, .null, .null, .null, .null, .null]))) 0 0
  generalize hl_set h r (.inr (3, [.int 0, .null, .null, .null, .null, .null, .null])) = g0 at k0
  have f0 := k0.hd
  refine hl_seg B okX1_init (fun _ => rfl) 0 43 rfl ?_
  simp only [pX1_init, List.drop_zero, List.drop_succ_cons, hl_wp, hs_ii, hs_i1, hs_ll, hs_l1, hs_ff, hs_g1, hs_dd, hs_d1, hs_r1, hs_rv, hs_rv0, hs_n1, hs_n0, hs_v1i, hs_v1r, hs_a1, hs_d2l, hs_d2i, hs_ri, hs_rl, hs_rg, hs_rd8, hs_rr, hs_rn, hs_ov, hs_gf, hs_po, hs_pfi, hs_pfr, hs_ia, hs_la, hs_da, hs_qa, hs_al, hs_is, hs_ls, hs_ds, hs_iso, hs_lso, hs_dso, hs_rd, hs_f1, hs_f10, hs_f2, hs_f20, hs_in0, hs_in1, hs_lt, hs_le, hs_ge, hs_gt, hs_eq, hs_10, hs_00, hs_01, true_and, and_true, true_imp_iff, false_imp_iff, not_true_eq_false, not_false_eq_true, hs_av, hs_ai, hs_ar, hs_an, hs_aj, hs_ci, hs_cr, hs_cn, hs_cj, hs_cd, hs_cf, hs_q0, hs_q1, reduceIte, Nat.reduceEqDiff, Nat.reduceAdd, Nat.reduceLT, eq_self, List.getElem?_cons_zero, List.getElem?_cons_succ, List.set_cons_zero, List.set_cons_succ, List.length_cons, List.length_nil, Option.toList_some, Option.toList_none, List.cons_append, List.nil_append, Nat.zero_add, Nat.add_zero, List.map_nil, List.sum_nil, List.map_cons, List.sum_cons, Nat.zero_le, hs_set1, f0]
  have k0' := k0.upd (.inr (3, [.int 0, .null, .null, .null, .null, .null, .null]))
  refine ⟨by decide, by decide, fun q1 hq1 => ?_⟩
  refine hl_callI B (As := [.int _]) (ct_X6_init (N := 10) hq1 (by decide)) mtX6_init rfl (hl_dec okX1_init 9 rfl) (kk := 86) (by decide +kernel) rfl rfl (Nat.le_of_ble_eq_true rfl) (by decide) (by decide) (by decide) (by decide) rfl (fun r9 g1 hQ1 => ?_)
  obtain ⟨rfl, a1, z1⟩ := hQ1
  have k1 : hl_K h [(r, .inr (3, [.int 0, .null, .null, .null, .null, .null, .null])), (q1, .inr (8, [.ref a1])), (a1, .inl (10, .inr (.inl (fun _ => 0))))] g1 := k0'.app z1
  have f1 := k1.hd
  refine hl_seg B okX1_init (fun _ => rfl) 10 33 rfl ?_
  simp only [pX1_init, List.drop_zero, List.drop_succ_cons, hl_wp, hs_ii, hs_i1, hs_ll, hs_l1, hs_ff, hs_g1, hs_dd, hs_d1, hs_r1, hs_rv, hs_rv0, hs_n1, hs_n0, hs_v1i, hs_v1r, hs_a1, hs_d2l, hs_d2i, hs_ri, hs_rl, hs_rg, hs_rd8, hs_rr, hs_rn, hs_ov, hs_gf, hs_po, hs_pfi, hs_pfr, hs_ia, hs_la, hs_da, hs_qa, hs_al, hs_is, hs_ls, hs_ds, hs_iso, hs_lso, hs_dso, hs_rd, hs_f1, hs_f10, hs_f2, hs_f20, hs_in0, hs_in1, hs_lt, hs_le, hs_ge, hs_gt, hs_eq, hs_10, hs_00, hs_01, true_and, and_true, true_imp_iff, false_imp_iff, not_true_eq_false, not_false_eq_true, hs_av, hs_ai, hs_ar, hs_an, hs_aj, hs_ci, hs_cr, hs_cn, hs_cj, hs_cd, hs_cf, hs_q0, hs_q1, reduceIte, Nat.reduceEqDiff, Nat.reduceAdd, Nat.reduceLT, eq_self, List.getElem?_cons_zero, List.getElem?_cons_succ, List.set_cons_zero, List.set_cons_succ, List.length_cons, List.length_nil, Option.toList_some, Option.toList_none, List.cons_append, List.nil_append, Nat.zero_add, Nat.add_zero, List.map_nil, List.sum_nil, List.map_cons, List.sum_cons, Nat.zero_le, hs_set1, f1]
  have k1' := k1.upd (.inr (3, [.int 0, .ref q1, .null, .null, .null, .null, .null]))
  refine ⟨by decide, by decide, fun q2 hq2 => ?_⟩
  refine hl_callI B (As := [.int _]) (ct_X6_init (N := 10) hq2 (by decide)) mtX6_init rfl (hl_dec okX1_init 15 rfl) (kk := 86) (by decide +kernel) rfl rfl (Nat.le_of_ble_eq_true rfl) (by decide) (by decide) (by decide) (by decide) rfl (fun r9 g2 hQ2 => ?_)
  obtain ⟨rfl, a2, z2⟩ := hQ2
  have k2 : hl_K h [(r, .inr (3, [.int 0, .ref q1, .null, .null, .null, .null, .null])), (q1, .inr (8, [.ref a1])), (a1, .inl (10, .inr (.inl (fun _ => 0)))), (q2, .inr (8, [.ref a2])), (a2, .inl (10, .inr (.inl (fun _ => 0))))] g2 := k1'.app z2
  have f2 := k2.hd
  refine hl_seg B okX1_init (fun _ => rfl) 16 27 rfl ?_
  simp only [pX1_init, List.drop_zero, List.drop_succ_cons, hl_wp, hs_ii, hs_i1, hs_ll, hs_l1, hs_ff, hs_g1, hs_dd, hs_d1, hs_r1, hs_rv, hs_rv0, hs_n1, hs_n0, hs_v1i, hs_v1r, hs_a1, hs_d2l, hs_d2i, hs_ri, hs_rl, hs_rg, hs_rd8, hs_rr, hs_rn, hs_ov, hs_gf, hs_po, hs_pfi, hs_pfr, hs_ia, hs_la, hs_da, hs_qa, hs_al, hs_is, hs_ls, hs_ds, hs_iso, hs_lso, hs_dso, hs_rd, hs_f1, hs_f10, hs_f2, hs_f20, hs_in0, hs_in1, hs_lt, hs_le, hs_ge, hs_gt, hs_eq, hs_10, hs_00, hs_01, true_and, and_true, true_imp_iff, false_imp_iff, not_true_eq_false, not_false_eq_true, hs_av, hs_ai, hs_ar, hs_an, hs_aj, hs_ci, hs_cr, hs_cn, hs_cj, hs_cd, hs_cf, hs_q0, hs_q1, reduceIte, Nat.reduceEqDiff, Nat.reduceAdd, Nat.reduceLT, eq_self, List.getElem?_cons_zero, List.getElem?_cons_succ, List.set_cons_zero, List.set_cons_succ, List.length_cons, List.length_nil, Option.toList_some, Option.toList_none, List.cons_append, List.nil_append, Nat.zero_add, Nat.add_zero, List.map_nil, List.sum_nil, List.map_cons, List.sum_cons, Nat.zero_le, hs_set1, f2]
  have k2' := k2.upd (.inr (3, [.int 0, .ref q1, .ref q2, .null, .null, .null, .null]))
  refine ⟨by decide, by decide, fun q3 hq3 => ?_⟩
  refine hl_callI B (As := [.int _]) (ct_X6_init (N := 10) hq3 (by decide)) mtX6_init rfl (hl_dec okX1_init 21 rfl) (kk := 86) (by decide +kernel) rfl rfl (Nat.le_of_ble_eq_true rfl) (by decide) (by decide) (by decide) (by decide) rfl (fun r9 g3 hQ3 => ?_)
  obtain ⟨rfl, a3, z3⟩ := hQ3
  have k3 : hl_K h [(r, .inr (3, [.int 0, .ref q1, .ref q2, .null, .null, .null, .null])), (q1, .inr (8, [.ref a1])), (a1, .inl (10, .inr (.inl (fun _ => 0)))), (q2, .inr (8, [.ref a2])), (a2, .inl (10, .inr (.inl (fun _ => 0)))), (q3, .inr (8, [.ref a3])), (a3, .inl (10, .inr (.inl (fun _ => 0))))] g3 := k2'.app z3
  have f3 := k3.hd
  refine hl_seg B okX1_init (fun _ => rfl) 22 21 rfl ?_
  simp only [pX1_init, List.drop_zero, List.drop_succ_cons, hl_wp, hs_ii, hs_i1, hs_ll, hs_l1, hs_ff, hs_g1, hs_dd, hs_d1, hs_r1, hs_rv, hs_rv0, hs_n1, hs_n0, hs_v1i, hs_v1r, hs_a1, hs_d2l, hs_d2i, hs_ri, hs_rl, hs_rg, hs_rd8, hs_rr, hs_rn, hs_ov, hs_gf, hs_po, hs_pfi, hs_pfr, hs_ia, hs_la, hs_da, hs_qa, hs_al, hs_is, hs_ls, hs_ds, hs_iso, hs_lso, hs_dso, hs_rd, hs_f1, hs_f10, hs_f2, hs_f20, hs_in0, hs_in1, hs_lt, hs_le, hs_ge, hs_gt, hs_eq, hs_10, hs_00, hs_01, true_and, and_true, true_imp_iff, false_imp_iff, not_true_eq_false, not_false_eq_true, hs_av, hs_ai, hs_ar, hs_an, hs_aj, hs_ci, hs_cr, hs_cn, hs_cj, hs_cd, hs_cf, hs_q0, hs_q1, reduceIte, Nat.reduceEqDiff, Nat.reduceAdd, Nat.reduceLT, eq_self, List.getElem?_cons_zero, List.getElem?_cons_succ, List.set_cons_zero, List.set_cons_succ, List.length_cons, List.length_nil, Option.toList_some, Option.toList_none, List.cons_append, List.nil_append, Nat.zero_add, Nat.add_zero, List.map_nil, List.sum_nil, List.map_cons, List.sum_cons, Nat.zero_le, hs_set1, f3]
  have k3' := k3.upd (.inr (3, [.int 0, .ref q1, .ref q2, .ref q3, .null, .null, .null]))
  refine ⟨by decide, by decide, fun q4 hq4 => ?_⟩
  refine hl_callI B (As := [.int _]) (ct_X6_init (N := 4) hq4 (by decide)) mtX6_init rfl (hl_dec okX1_init 27 rfl) (kk := 86) (by decide +kernel) rfl rfl (Nat.le_of_ble_eq_true rfl) (by decide) (by decide) (by decide) (by decide) rfl (fun r9 g4 hQ4 => ?_)
  obtain ⟨rfl, a4, z4⟩ := hQ4
  have k4 : hl_K h [(r, .inr (3, [.int 0, .ref q1, .ref q2, .ref q3, .null, .null, .null])), (q1, .inr (8, [.ref a1])), (a1, .inl (10, .inr (.inl (fun _ => 0)))), (q2, .inr (8, [.ref a2])), (a2, .inl (10, .inr (.inl (fun _ => 0)))), (q3, .inr (8, [.ref a3])), (a3, .inl (10, .inr (.inl (fun _ => 0)))), (q4, .inr (8, [.ref a4])), (a4, .inl (4, .inr (.inl (fun _ => 0))))] g4 := k3'.app z4
  have f4 := k4.hd
  refine hl_seg B okX1_init (fun _ => rfl) 28 15 rfl ?_
  simp only [pX1_init, List.drop_zero, List.drop_succ_cons, hl_wp, hs_ii, hs_i1, hs_ll, hs_l1, hs_ff, hs_g1, hs_dd, hs_d1, hs_r1, hs_rv, hs_rv0, hs_n1, hs_n0, hs_v1i, hs_v1r, hs_a1, hs_d2l, hs_d2i, hs_ri, hs_rl, hs_rg, hs_rd8, hs_rr, hs_rn, hs_ov, hs_gf, hs_po, hs_pfi, hs_pfr, hs_ia, hs_la, hs_da, hs_qa, hs_al, hs_is, hs_ls, hs_ds, hs_iso, hs_lso, hs_dso, hs_rd, hs_f1, hs_f10, hs_f2, hs_f20, hs_in0, hs_in1, hs_lt, hs_le, hs_ge, hs_gt, hs_eq, hs_10, hs_00, hs_01, true_and, and_true, true_imp_iff, false_imp_iff, not_true_eq_false, not_false_eq_true, hs_av, hs_ai, hs_ar, hs_an, hs_aj, hs_ci, hs_cr, hs_cn, hs_cj, hs_cd, hs_cf, hs_q0, hs_q1, reduceIte, Nat.reduceEqDiff, Nat.reduceAdd, Nat.reduceLT, eq_self, List.getElem?_cons_zero, List.getElem?_cons_succ, List.set_cons_zero, List.set_cons_succ, List.length_cons, List.length_nil, Option.toList_some, Option.toList_none, List.cons_append, List.nil_append, Nat.zero_add, Nat.add_zero, List.map_nil, List.sum_nil, List.map_cons, List.sum_cons, Nat.zero_le, hs_set1, f4]
  have k4' := k4.upd (.inr (3, [.int 0, .ref q1, .ref q2, .ref q3, .ref q4, .null, .null]))
  refine ⟨by decide, by decide, fun q5 hq5 => ?_⟩
  refine hl_callI B (As := [.int _]) (ct_X6_init (N := 4) hq5 (by decide)) mtX6_init rfl (hl_dec okX1_init 33 rfl) (kk := 86) (by decide +kernel) rfl rfl (Nat.le_of_ble_eq_true rfl) (by decide) (by decide) (by decide) (by decide) rfl (fun r9 g5 hQ5 => ?_)
  obtain ⟨rfl, a5, z5⟩ := hQ5
  have k5 : hl_K h [(r, .inr (3, [.int 0, .ref q1, .ref q2, .ref q3, .ref q4, .null, .null])), (q1, .inr (8, [.ref a1])), (a1, .inl (10, .inr (.inl (fun _ => 0)))), (q2, .inr (8, [.ref a2])), (a2, .inl (10, .inr (.inl (fun _ => 0)))), (q3, .inr (8, [.ref a3])), (a3, .inl (10, .inr (.inl (fun _ => 0)))), (q4, .inr (8, [.ref a4])), (a4, .inl (4, .inr (.inl (fun _ => 0)))), (q5, .inr (8, [.ref a5])), (a5, .inl (4, .inr (.inl (fun _ => 0))))] g5 := k4'.app z5
  have f5 := k5.hd
  refine hl_seg B okX1_init (fun _ => rfl) 34 9 rfl ?_
  simp only [pX1_init, List.drop_zero, List.drop_succ_cons, hl_wp, hs_ii, hs_i1, hs_ll, hs_l1, hs_ff, hs_g1, hs_dd, hs_d1, hs_r1, hs_rv, hs_rv0, hs_n1, hs_n0, hs_v1i, hs_v1r, hs_a1, hs_d2l, hs_d2i, hs_ri, hs_rl, hs_rg, hs_rd8, hs_rr, hs_rn, hs_ov, hs_gf, hs_po, hs_pfi, hs_pfr, hs_ia, hs_la, hs_da, hs_qa, hs_al, hs_is, hs_ls, hs_ds, hs_iso, hs_lso, hs_dso, hs_rd, hs_f1, hs_f10, hs_f2, hs_f20, hs_in0, hs_in1, hs_lt, hs_le, hs_ge, hs_gt, hs_eq, hs_10, hs_00, hs_01, true_and, and_true, true_imp_iff, false_imp_iff, not_true_eq_false, not_false_eq_true, hs_av, hs_ai, hs_ar, hs_an, hs_aj, hs_ci, hs_cr, hs_cn, hs_cj, hs_cd, hs_cf, hs_q0, hs_q1, reduceIte, Nat.reduceEqDiff, Nat.reduceAdd, Nat.reduceLT, eq_self, List.getElem?_cons_zero, List.getElem?_cons_succ, List.set_cons_zero, List.set_cons_succ, List.length_cons, List.length_nil, Option.toList_some, Option.toList_none, List.cons_append, List.nil_append, Nat.zero_add, Nat.add_zero, List.map_nil, List.sum_nil, List.map_cons, List.sum_cons, Nat.zero_le, hs_set1, f5]
  have k5' := k5.upd (.inr (3, [.int 0, .ref q1, .ref q2, .ref q3, .ref q4, .ref q5, .null]))
  refine ⟨by decide, by decide, fun q6 hq6 => ?_⟩
  refine hl_callI B (As := [.int _]) (ct_X6_init (N := 4) hq6 (by decide)) mtX6_init rfl (hl_dec okX1_init 39 rfl) (kk := 86) (by decide +kernel) rfl rfl (Nat.le_of_ble_eq_true rfl) (by decide) (by decide) (by decide) (by decide) rfl (fun r9 g6 hQ6 => ?_)
  obtain ⟨rfl, a6, z6⟩ := hQ6
  have k6 : hl_K h [(r, .inr (3, [.int 0, .ref q1, .ref q2, .ref q3, .ref q4, .ref q5, .null])), (q1, .inr (8, [.ref a1])), (a1, .inl (10, .inr (.inl (fun _ => 0)))), (q2, .inr (8, [.ref a2])), (a2, .inl (10, .inr (.inl (fun _ => 0)))), (q3, .inr (8, [.ref a3])), (a3, .inl (10, .inr (.inl (fun _ => 0)))), (q4, .inr (8, [.ref a4])), (a4, .inl (4, .inr (.inl (fun _ => 0)))), (q5, .inr (8, [.ref a5])), (a5, .inl (4, .inr (.inl (fun _ => 0)))), (q6, .inr (8, [.ref a6])), (a6, .inl (4, .inr (.inl (fun _ => 0))))] g6 := k5'.app z6
  have f6 := k6.hd
  refine hl_seg B okX1_init (fun _ => rfl) 40 3 rfl ?_
  simp only [pX1_init, List.drop_zero, List.drop_succ_cons, hl_wp, hs_ii, hs_i1, hs_ll, hs_l1, hs_ff, hs_g1, hs_dd, hs_d1, hs_r1, hs_rv, hs_rv0, hs_n1, hs_n0, hs_v1i, hs_v1r, hs_a1, hs_d2l, hs_d2i, hs_ri, hs_rl, hs_rg, hs_rd8, hs_rr, hs_rn, hs_ov, hs_gf, hs_po, hs_pfi, hs_pfr, hs_ia, hs_la, hs_da, hs_qa, hs_al, hs_is, hs_ls, hs_ds, hs_iso, hs_lso, hs_dso, hs_rd, hs_f1, hs_f10, hs_f2, hs_f20, hs_in0, hs_in1, hs_lt, hs_le, hs_ge, hs_gt, hs_eq, hs_10, hs_00, hs_01, true_and, and_true, true_imp_iff, false_imp_iff, not_true_eq_false, not_false_eq_true, hs_av, hs_ai, hs_ar, hs_an, hs_aj, hs_ci, hs_cr, hs_cn, hs_cj, hs_cd, hs_cf, hs_q0, hs_q1, reduceIte, Nat.reduceEqDiff, Nat.reduceAdd, Nat.reduceLT, eq_self, List.getElem?_cons_zero, List.getElem?_cons_succ, List.set_cons_zero, List.set_cons_succ, List.length_cons, List.length_nil, Option.toList_some, Option.toList_none, List.cons_append, List.nil_append, Nat.zero_add, Nat.add_zero, List.map_nil, List.sum_nil, List.map_cons, List.sum_cons, Nat.zero_le, hs_set1, f6]
  have k6' := k6.upd (.inr (3, [.int 0, .ref q1, .ref q2, .ref q3, .ref q4, .ref q5, .ref q6]))
  have loop : ∀ (k9 i : Nat) (g9 : hl_H), i + k9 = 4 → hl_K h [(r, .inr (3, [.int 0, .ref q1, .ref q2, .ref q3, .ref q4, .ref q5, .ref q6])), (q1, .inr (8, [.ref a1])), (a1, .inl (10, .inr (.inl (fun _ => 0)))), (q2, .inr (8, [.ref a2])), (a2, .inl (10, .inr (.inl (fun _ => 0)))), (q3, .inr (8, [.ref a3])), (a3, .inl (10, .inr (.inl (fun _ => 0)))), (q4, .inr (8, [.ref a4])), (a4, .inl (4, .inr (.inl (fun _ => 0)))), (q5, .inr (8, [.ref a5])), (a5, .inl (4, .inr (.inl (fun _ => 0)))), (q6, .inr (8, [.ref a6])), (a6, .inl (4, .inr (.inl (ls_rt i))))] g9 → hl_GM G mX1_init 1 12 48 (fun r9 g => r9 = none ∧ ∃ q1 a1 q2 a2 q3 a3 q4 a4 q5 a5 q6 a6, hl_K h [(r, .inr (3, [.int 0, .ref q1, .ref q2, .ref q3, .ref q4, .ref q5, .ref q6])), (q1, .inr (8, [.ref a1])), (a1, .inl (10, .inr (.inl (fun _ => 0)))), (q2, .inr (8, [.ref a2])), (a2, .inl (10, .inr (.inl (fun _ => 0)))), (q3, .inr (8, [.ref a3])), (a3, .inl (10, .inr (.inl (fun _ => 0)))), (q4, .inr (8, [.ref a4])), (a4, .inl (4, .inr (.inl (fun _ => 0)))), (q5, .inr (8, [.ref a5])), (a5, .inl (4, .inr (.inl (fun _ => 0)))), (q6, .inr (8, [.ref a6])), (a6, .inl (4, .inr (.inl (ls_rt 4))))] g) (fun _ _ => False) p l e s m args below meth c 86 [(0, .ref r), (1, .int (nI i))] [] g9 12 48 := by
    intro k9
    induction k9 with
    | zero =>
      intro i g9 hi kk
      have hle : (4 : Int32) ≤ nI i := nI_le (a := 4) (by omega) (by omega)
      have hi4 : i = 4 := by omega
      subst hi4
      refine hl_seg B okX1_init (fun _ => rfl) 43 1000 rfl ?_
      simp only [pX1_init, List.drop_zero, List.drop_succ_cons, hl_wp, hs_ii, hs_i1, hs_ll, hs_l1, hs_ff, hs_g1, hs_dd, hs_d1, hs_r1, hs_rv, hs_rv0, hs_n1, hs_n0, hs_v1i, hs_v1r, hs_a1, hs_d2l, hs_d2i, hs_ri, hs_rl, hs_rg, hs_rd8, hs_rr, hs_rn, hs_ov, hs_gf, hs_po, hs_pfi, hs_pfr, hs_ia, hs_la, hs_da, hs_qa, hs_al, hs_is, hs_ls, hs_ds, hs_iso, hs_lso, hs_dso, hs_rd, hs_f1, hs_f10, hs_f2, hs_f20, hs_in0, hs_in1, hs_lt, hs_le, hs_ge, hs_gt, hs_eq, hs_10, hs_00, hs_01, true_and, and_true, true_imp_iff, false_imp_iff, not_true_eq_false, not_false_eq_true, hs_av, hs_ai, hs_ar, hs_an, hs_aj, hs_ci, hs_cr, hs_cn, hs_cj, hs_cd, hs_cf, hs_q0, hs_q1, reduceIte, Nat.reduceEqDiff, Nat.reduceAdd, Nat.reduceLT, eq_self, List.getElem?_cons_zero, List.getElem?_cons_succ, List.set_cons_zero, List.set_cons_succ, List.length_cons, List.length_nil, Option.toList_some, Option.toList_none, List.cons_append, List.nil_append, Nat.zero_add, Nat.add_zero, List.map_nil, List.sum_nil, List.map_cons, List.sum_cons, Nat.zero_le, hs_set1, hle]
      exact hl_vret B rfl (hl_dec okX1_init 53 rfl) (by decide) (by decide) ⟨rfl, q1, a1, q2, a2, q3, a3, q4, a4, q5, a5, q6, a6, kk⟩
    | succ k9 ih =>
      intro i g9 hi kk
      have hlt : ¬ (4 : Int32) ≤ nI i := nI_ge (b := 4) (by omega) (by omega)
      have f := kk.hd
      refine hl_seg B okX1_init (fun _ => rfl) 43 1000 rfl ?_
      simp only [pX1_init, List.drop_zero, List.drop_succ_cons, hl_wp, hs_ii, hs_i1, hs_ll, hs_l1, hs_ff, hs_g1, hs_dd, hs_d1, hs_r1, hs_rv, hs_rv0, hs_n1, hs_n0, hs_v1i, hs_v1r, hs_a1, hs_d2l, hs_d2i, hs_ri, hs_rl, hs_rg, hs_rd8, hs_rr, hs_rn, hs_ov, hs_gf, hs_po, hs_pfi, hs_pfr, hs_ia, hs_la, hs_da, hs_qa, hs_al, hs_is, hs_ls, hs_ds, hs_iso, hs_lso, hs_dso, hs_rd, hs_f1, hs_f10, hs_f2, hs_f20, hs_in0, hs_in1, hs_lt, hs_le, hs_ge, hs_gt, hs_eq, hs_10, hs_00, hs_01, true_and, and_true, true_imp_iff, false_imp_iff, not_true_eq_false, not_false_eq_true, hs_av, hs_ai, hs_ar, hs_an, hs_aj, hs_ci, hs_cr, hs_cn, hs_cj, hs_cd, hs_cf, hs_q0, hs_q1, reduceIte, Nat.reduceEqDiff, Nat.reduceAdd, Nat.reduceLT, eq_self, List.getElem?_cons_zero, List.getElem?_cons_succ, List.set_cons_zero, List.set_cons_succ, List.length_cons, List.length_nil, Option.toList_some, Option.toList_none, List.cons_append, List.nil_append, Nat.zero_add, Nat.add_zero, List.map_nil, List.sum_nil, List.map_cons, List.sum_cons, Nat.zero_le, hs_set1, hlt, f]
      have h1 : g9 q6 = some (.inr (8, [.ref a6])) := kk.get (i := 11) rfl
      have h2 : g9 a6 = some (.inl (4, .inr (.inl (ls_rt i)))) := kk.get (i := 12) rfl
      refine hl_callV B (As := [.int _, .long _]) (ct_X6_put (i := nI i) (v := 1000) h1 h2 (by decide)) mtX6_put (hl_dec okX1_init 50 rfl) (kk := 96) (by decide +kernel) rfl rfl h1 rfl (Nat.le_of_ble_eq_true rfl) (by decide) (by decide) (by decide) (by decide) rfl (fun r9 h9 hq => ?_) (fun _ _ hx => hx.elim)
      obtain ⟨rfl, rfl⟩ := hq
      refine hl_seg B okX1_init (fun _ => rfl) 51 1000 rfl ?_
      simp only [pX1_init, List.drop_zero, List.drop_succ_cons, hl_wp, hs_ii, hs_i1, hs_ll, hs_l1, hs_ff, hs_g1, hs_dd, hs_d1, hs_r1, hs_rv, hs_rv0, hs_n1, hs_n0, hs_v1i, hs_v1r, hs_a1, hs_d2l, hs_d2i, hs_ri, hs_rl, hs_rg, hs_rd8, hs_rr, hs_rn, hs_ov, hs_gf, hs_po, hs_pfi, hs_pfr, hs_ia, hs_la, hs_da, hs_qa, hs_al, hs_is, hs_ls, hs_ds, hs_iso, hs_lso, hs_dso, hs_rd, hs_f1, hs_f10, hs_f2, hs_f20, hs_in0, hs_in1, hs_lt, hs_le, hs_ge, hs_gt, hs_eq, hs_10, hs_00, hs_01, true_and, and_true, true_imp_iff, false_imp_iff, not_true_eq_false, not_false_eq_true, hs_av, hs_ai, hs_ar, hs_an, hs_aj, hs_ci, hs_cr, hs_cn, hs_cj, hs_cd, hs_cf, hs_q0, hs_q1, reduceIte, Nat.reduceEqDiff, Nat.reduceAdd, Nat.reduceLT, eq_self, List.getElem?_cons_zero, List.getElem?_cons_succ, List.set_cons_zero, List.set_cons_succ, List.length_cons, List.length_nil, Option.toList_some, Option.toList_none, List.cons_append, List.nil_append, Nat.zero_add, Nat.add_zero, List.map_nil, List.sum_nil, List.map_cons, List.sum_cons, Nat.zero_le, hs_set1]
      have hcs : nI i + 1 = nI (i + 1) := nI_1 i
      simp only [hcs]
      exact ih (i + 1) _ (by omega) (hl_K.mid (L1 := [(r, .inr (3, [.int 0, .ref q1, .ref q2, .ref q3, .ref q4, .ref q5, .ref q6])), (q1, .inr (8, [.ref a1])), (a1, .inl (10, .inr (.inl (fun _ => 0)))), (q2, .inr (8, [.ref a2])), (a2, .inl (10, .inr (.inl (fun _ => 0)))), (q3, .inr (8, [.ref a3])), (a3, .inl (10, .inr (.inl (fun _ => 0)))), (q4, .inr (8, [.ref a4])), (a4, .inl (4, .inr (.inl (fun _ => 0)))), (q5, .inr (8, [.ref a5])), (a5, .inl (4, .inr (.inl (fun _ => 0)))), (q6, .inr (8, [.ref a6]))]) (L2 := []) kk (.inl (4, .inr (.inl (ls_rt (i + 1))))))
  have e1 := loop 4 0 _ rfl k6'
  simp only [nI_0] at e1
  exact e1
set_option maxRecDepth 20000 in
set_option maxHeartbeats 2000000 in
theorem ct_X5_init {G : hl_G} {l : Launch} {h : hl_H} {r : Nat} (hr : h r = none) :
    hl_Ct G l mX5_init 0 1 180 [.ref r] (fun g => g = hl_set h r (.inr (7, hl_new 7))) (fun r9 g => r9 = none ∧ ∃ q, hl_K h [(r, .inr (7, [.int 0, .ref q])), (q, .inl (180, .inr (.inr (.inr (.inr (fun _ => none))))))] g) (fun _ _ => False) := by
  refine hl_body (by decide +kernel) (Nat.le_of_ble_eq_true rfl) ?_
  intro p e s m args below meth c B g hg
  subst hg
  have k0 : hl_K h [(r, .inr (7, [.int 0, .null]))] (hl_set h r (.inr (7, [.int 0, .null]))) := hl_K.one hr _
  change hl_GM G mX5_init 0 1 180 _ _ p l e s m args below meth c 0 [(0, .ref r)] [] (hl_set h r (.inr (7, [.int 0, .null]))) 0 0
  generalize hl_set h r (.inr (7, [.int 0, .null])) = g0 at k0
  have f0 := k0.hd
  refine hl_seg B okX5_init (fun _ => rfl) 0 1000 rfl ?_
  simp only [pX5_init, List.drop_zero, List.drop_succ_cons, hl_wp, hs_ii, hs_i1, hs_ll, hs_l1, hs_ff, hs_g1, hs_dd, hs_d1, hs_r1, hs_rv, hs_rv0, hs_n1, hs_n0, hs_v1i, hs_v1r, hs_a1, hs_d2l, hs_d2i, hs_ri, hs_rl, hs_rg, hs_rd8, hs_rr, hs_rn, hs_ov, hs_gf, hs_po, hs_pfi, hs_pfr, hs_ia, hs_la, hs_da, hs_qa, hs_al, hs_is, hs_ls, hs_ds, hs_iso, hs_lso, hs_dso, hs_rd, hs_f1, hs_f10, hs_f2, hs_f20, hs_in0, hs_in1, hs_lt, hs_le, hs_ge, hs_gt, hs_eq, hs_10, hs_00, hs_01, true_and, and_true, true_imp_iff, false_imp_iff, not_true_eq_false, not_false_eq_true, hs_av, hs_ai, hs_ar, hs_an, hs_aj, hs_ci, hs_cr, hs_cn, hs_cj, hs_cd, hs_cf, hs_q0, hs_q1, reduceIte, Nat.reduceEqDiff, Nat.reduceAdd, Nat.reduceLT, eq_self, List.getElem?_cons_zero, List.getElem?_cons_succ, List.set_cons_zero, List.set_cons_succ, List.length_cons, List.length_nil, Option.toList_some, Option.toList_none, List.cons_append, List.nil_append, Nat.zero_add, Nat.add_zero, List.map_nil, List.sum_nil, List.map_cons, List.sum_cons, Nat.zero_le, hs_set1, f0]
  refine hl_newQ B (hl_dec okX5_init 7 rfl) (kk := 233) (by decide +kernel) (by decide) (N' := 180) (by decide) (by decide) (by decide) (by decide) (fun q hq => ?_)
  have k1 := (k0.upd (.inr (7, [.int 0, .null]))).new hq (.inl (180, .inr (.inr (.inr (.inr (fun _ => none))))))
  have f1 := k1.hd
  generalize hl_set (hl_set g0 r (.inr (7, [.int 0, .null]))) q (.inl (180, .inr (.inr (.inr (.inr (fun _ => none)))))) = g1 at k1 f1
  refine hl_seg B okX5_init (fun _ => rfl) 8 1000 rfl ?_
  simp only [pX5_init, List.drop_zero, List.drop_succ_cons, hl_wp, hs_ii, hs_i1, hs_ll, hs_l1, hs_ff, hs_g1, hs_dd, hs_d1, hs_r1, hs_rv, hs_rv0, hs_n1, hs_n0, hs_v1i, hs_v1r, hs_a1, hs_d2l, hs_d2i, hs_ri, hs_rl, hs_rg, hs_rd8, hs_rr, hs_rn, hs_ov, hs_gf, hs_po, hs_pfi, hs_pfr, hs_ia, hs_la, hs_da, hs_qa, hs_al, hs_is, hs_ls, hs_ds, hs_iso, hs_lso, hs_dso, hs_rd, hs_f1, hs_f10, hs_f2, hs_f20, hs_in0, hs_in1, hs_lt, hs_le, hs_ge, hs_gt, hs_eq, hs_10, hs_00, hs_01, true_and, and_true, true_imp_iff, false_imp_iff, not_true_eq_false, not_false_eq_true, hs_av, hs_ai, hs_ar, hs_an, hs_aj, hs_ci, hs_cr, hs_cn, hs_cj, hs_cd, hs_cf, hs_q0, hs_q1, reduceIte, Nat.reduceEqDiff, Nat.reduceAdd, Nat.reduceLT, eq_self, List.getElem?_cons_zero, List.getElem?_cons_succ, List.set_cons_zero, List.set_cons_succ, List.length_cons, List.length_nil, Option.toList_some, Option.toList_none, List.cons_append, List.nil_append, Nat.zero_add, Nat.add_zero, List.map_nil, List.sum_nil, List.map_cons, List.sum_cons, Nat.zero_le, hs_set1, f1]
  exact hl_vret B rfl (hl_dec okX5_init 9 rfl) (by decide) (by decide) ⟨rfl, q, k1.upd _⟩
