/-! PART 16: the constructors -/
/-- g is h with new cells -/
def hl_K (h : hl_H) (L : List (Nat × hl_C)) (g : hl_H) : Prop := (∀ (q : Nat) (x : hl_C), h q = some x → g q = some x) ∧ (∀ e ∈ L, h e.1 = none ∧ g e.1 = some e.2) ∧ (L.map (fun e => e.1)).Nodup
section KK
variable {h g g2 : hl_H} {L L2 : List (Nat × hl_C)} {r q : Nat} {x y z : hl_C}
theorem hl_K.rf : hl_K h [] h := ⟨fun _ _ z => z, (fun _ hx => by cases hx), List.nodup_nil⟩
theorem hl_K.get (k : hl_K h L g) {i : Nat} (hi : L[i]? = some (q, x)) : g q = some x := (k.2.1 (q, x) (List.mem_of_getElem? hi)).2
theorem hl_K.no (k : hl_K h L g) {i : Nat} (hi : L[i]? = some (q, x)) : h q = none := (k.2.1 (q, x) (List.mem_of_getElem? hi)).1
theorem hl_K.app (k : hl_K h L g) (k2 : hl_K g L2 g2) : hl_K h (L ++ L2) g2 := by
  refine ⟨fun q x hq => k2.1 q x (k.1 q x hq), fun e he => ?_, ?_⟩
  · rcases List.mem_append.mp he with he | he
    · exact ⟨(k.2.1 e he).1, k2.1 _ _ (k.2.1 e he).2⟩
    · refine ⟨?_, (k2.2.1 e he).2⟩
      cases hh : h e.1 with
      | none => rfl
      | some v => have := k.1 _ _ hh; rw [(k2.2.1 e he).1] at this; cases this
  · rw [List.map_append]
    refine List.nodup_append.mpr ⟨k.2.2, k2.2.2, fun a ha b hb hab => ?_⟩
    obtain ⟨e, he, rfl⟩ := List.mem_map.mp ha
    obtain ⟨f, hf, rfl⟩ := List.mem_map.mp hb
    have h1 := (k.2.1 e he).2
    have h2 := (k2.2.1 f hf).1
    rw [hab] at h1
    rw [h2] at h1
    cases h1
theorem hl_K.one (hq : h q = none) (x : hl_C) : hl_K h [(q, x)] (hl_set h q x) :=
  ⟨fun p y hp => by rw [hs_set2 (fun e => by rw [e, hq] at hp; cases hp)]; exact hp, fun e he => by rw [List.mem_singleton.mp he]; exact ⟨hq, hs_set1⟩, by simp⟩
theorem hl_K.new (k : hl_K h L g) (hq : g q = none) (x : hl_C) : hl_K h (L ++ [(q, x)]) (hl_set g q x) := k.app (hl_K.one hq x)
theorem hl_K.mid {L1 : List (Nat × hl_C)} (k : hl_K h (L1 ++ (q, x) :: L2) g) (y : hl_C) : hl_K h (L1 ++ (q, y) :: L2) (hl_set g q y) := by
  obtain ⟨k1, k2, k3⟩ := k
  have hn : h q = none := (k2 (q, x) (by simp)).1
  have k3' : (L1.map (fun e => e.1) ++ q :: L2.map (fun e => e.1)).Nodup := by simpa using k3
  have hd := List.nodup_append.mp k3'
  refine ⟨fun p z hp => ?_, fun e he => ?_, by simpa using k3⟩
  · rw [hs_set2 (fun e => by rw [e, hn] at hp; cases hp)]
    exact k1 p z hp
  · rcases List.mem_append.mp he with he | he
    · have hne : e.1 ≠ q := fun z => hd.2.2 e.1 (List.mem_map.mpr ⟨e, he, rfl⟩) q (by simp) z
      rw [hs_set2 hne]
      exact k2 e (by simp [he])
    · rcases List.mem_cons.mp he with he | he
      · rw [he]; exact ⟨hn, hs_set1⟩
      · have hne : e.1 ≠ q := fun z => by
          have := (List.nodup_cons.mp hd.2.1).1
          exact this (List.mem_map.mpr ⟨e, he, z⟩)
        rw [hs_set2 hne]
        exact k2 e (by simp [he])
theorem hl_K.upd (k : hl_K h ((q, x) :: L) g) (y : hl_C) : hl_K h ((q, y) :: L) (hl_set g q y) := hl_K.mid (L1 := []) k y
theorem hl_K.hd (k : hl_K h ((q, x) :: L) g) : g q = some x := k.get (i := 0) rfl
end KK
section NQ
variable {G : hl_G} {l : Launch} {M : hl_M} {d k n : Nat} {Q : Option Value → hl_H → Prop} {X : String → hl_H → Prop}
variable {p : Program} {e : Env} {s : State} {m : MethodId} {args : Array Value} {below : List Frame} {meth : Method} {c : Code} {lv : List (Nat × Value)} {h : hl_H} {ce sl pc : Nat}
/-- a new row of calls -/
theorem hl_newQ (B : hl_B G M d k n p s m args meth c) {x : Int32} {N' kk idx : Nat} {rest : List Value} (hd : decode M.2.1 pc = .ok (.anewarray idx, 3)) (hk : hl_w kk (Jvm.Cond.classLink M.1.cls idx RX2) = true) (h0 : ¬ x < 0) (hN : x.toNatClampNeg = N') (hN2 : N' ≤ 10000) (hce : ce + 1 ≤ k) (hsl : sl + N' ≤ n)
    (hw : ∀ q : Nat, h q = none → hl_GM G M d k n Q X p l e s m args below meth c (pc + 3) lv (.ref q :: rest) (hl_set h q (.inl (N', .inr (.inr (.inr (.inr (fun _ => none))))))) (ce + 1) (sl + N')) : hl_GM G M d k n Q X p l e s m args below meth c pc lv (.int x :: rest) h ce sl := by
  intro H locs ls hP hS hl
  obtain ⟨⟨hx, hb, hml, hown, hts, hE, hS0, hRf, hRl⟩, hlk, hrt, hnm, hno⟩ := id B
  have hA : ∀ q : Nat, s.heap.size ≤ q → hl_A G q := fun q h => Nat.le_trans hS0.1 h
  obtain ⟨w, hw1, hw2, hw3⟩ := id hP
  exact va_newq (D := G.1) hx hb hown (hts _ (hl_w_T hk)) hE.2.2.2.2.2.2.2.2.2 hE.1 hw2 hw3 hS hA h0 hN (Nat.le_trans (Nat.mul_le_mul_right 4 hN2) (by decide)) hce hsl hd (fun q cA H1 hK1 hP1 hD1 hS1 => by
    have e1 : s.vm.findClass ("[" ++ (FieldType.object RX2).toString) = some cA := by
      obtain ⟨_, _, _, _, _, z⟩ := (hK1.2 4 _ rfl).2
      exact z
    have e2 : s.vm.findClass ("[" ++ (FieldType.object RX2).toString) = some G.2.1.2.2.2 := by
      obtain ⟨_, _, _, _, _, z⟩ := (hE.1.2 3 _ rfl).2
      exact z
    cases Option.some.inj (e1.symm.trans e2)
    obtain ⟨hn, hP9⟩ := hl_P.push (x := .inl (N', .inr (.inr (.inr (.inr (fun _ => none)))))) hw1 hP1 hD1
    exact hw q hn H1 locs ls hP9 hS1 hl)
end NQ
set_option maxRecDepth 20000 in
set_option maxHeartbeats 2000000 in
theorem ct_X6_init {G : hl_G} {l : Launch} {h : hl_H} {r N : Nat} (hr : h r = none) (hN : N ≤ 10000) :
    hl_Ct G l mX6_init 0 1 N [.ref r, .int (nI N)] (fun g => g = hl_set h r (.inr (8, hl_new 8))) (fun r9 g => r9 = none ∧ ∃ q, hl_K h [(r, .inr (8, [.ref q])), (q, .inl (N, .inr (.inl (fun _ => 0))))] g) (fun _ _ => False) := by
  refine hl_body (by decide +kernel) (Nat.le_of_ble_eq_true rfl) ?_
  intro p e s m args below meth c B g hg
  subst hg
  have kr : hl_K h [(r, .inr (8, hl_new 8))] (hl_set h r (.inr (8, hl_new 8))) := hl_K.one hr _
  have h9 := kr.hd
  generalize hl_set h r (.inr (8, hl_new 8)) = g0 at kr h9
  have h9 : g0 r = some (.inr (8, [.null])) := h9
  refine hl_seg B okX6_init (fun _ => rfl) 0 1000 rfl ?_
  simp only [pX6_init, List.drop_zero, List.drop_succ_cons, hl_wp, hs_ii, hs_i1, hs_ll, hs_l1, hs_ff, hs_g1, hs_dd, hs_d1, hs_r1, hs_rv, hs_rv0, hs_n1, hs_n0, hs_v1i, hs_v1r, hs_a1, hs_d2l, hs_d2i, hs_ri, hs_rl, hs_rg, hs_rd8, hs_rr, hs_rn, hs_ov, hs_gf, hs_po, hs_pfi, hs_pfr, hs_ia, hs_la, hs_da, hs_qa, hs_al, hs_is, hs_ls, hs_ds, hs_iso, hs_lso, hs_dso, hs_rd, hs_f1, hs_f10, hs_f2, hs_f20, hs_in0, hs_in1, hs_lt, hs_le, hs_ge, hs_gt, hs_eq, hs_10, hs_00, hs_01, true_and, and_true, true_imp_iff, false_imp_iff, not_true_eq_false, not_false_eq_true, hs_av, hs_ai, hs_ar, hs_an, hs_aj, hs_ci, hs_cr, hs_cn, hs_cj, hs_cd, hs_cf, hs_q0, hs_q1, reduceIte, Nat.reduceEqDiff, Nat.reduceAdd, Nat.reduceLT, eq_self, List.getElem?_cons_zero, List.getElem?_cons_succ, List.set_cons_zero, List.set_cons_succ, List.length_cons, List.length_nil, Option.toList_some, Option.toList_none, List.cons_append, List.nil_append, Nat.zero_add, Nat.add_zero, List.map_nil, List.sum_nil, List.map_cons, List.sum_cons, Nat.zero_le, hs_set1, nI_pos' (show N < 2 ^ 31 by omega), h9]
  refine hl_seg B okX6_init (fun _ => rfl) 7 1000 rfl ?_
  simp only [pX6_init, List.drop_zero, List.drop_succ_cons, hl_wp, hs_ii, hs_i1, hs_ll, hs_l1, hs_ff, hs_g1, hs_dd, hs_d1, hs_r1, hs_rv, hs_rv0, hs_n1, hs_n0, hs_v1i, hs_v1r, hs_a1, hs_d2l, hs_d2i, hs_ri, hs_rl, hs_rg, hs_rd8, hs_rr, hs_rn, hs_ov, hs_gf, hs_po, hs_pfi, hs_pfr, hs_ia, hs_la, hs_da, hs_qa, hs_al, hs_is, hs_ls, hs_ds, hs_iso, hs_lso, hs_dso, hs_rd, hs_f1, hs_f10, hs_f2, hs_f20, hs_in0, hs_in1, hs_lt, hs_le, hs_ge, hs_gt, hs_eq, hs_10, hs_00, hs_01, true_and, and_true, true_imp_iff, false_imp_iff, not_true_eq_false, not_false_eq_true, hs_av, hs_ai, hs_ar, hs_an, hs_aj, hs_ci, hs_cr, hs_cn, hs_cj, hs_cd, hs_cf, hs_q0, hs_q1, reduceIte, Nat.reduceEqDiff, Nat.reduceAdd, Nat.reduceLT, eq_self, List.getElem?_cons_zero, List.getElem?_cons_succ, List.set_cons_zero, List.set_cons_succ, List.length_cons, List.length_nil, Option.toList_some, Option.toList_none, List.cons_append, List.nil_append, Nat.zero_add, Nat.add_zero, List.map_nil, List.sum_nil, List.map_cons, List.sum_cons, Nat.zero_le, hs_set1]
  refine hl_newJ B (hl_dec okX6_init 8 rfl) (kk := 94) (by decide +kernel) (nI_pos (by omega)) (nI_clamp (by omega)) hN (by decide) (Nat.le_of_eq (Nat.zero_add _)) (fun q hq => ?_)
  have k1 := kr.new hq (.inl (N, .inr (.inl (fun _ => 0))))
  have h8 := k1.hd
  have k2 := k1.upd (.inr (8, [.ref q]))
  generalize hl_set g0 q (.inl (N, .inr (.inl (fun _ => 0)))) = g1 at k1 h8 k2
  have h8 : g1 r = some (.inr (8, [.null])) := h8
  refine hl_seg B okX6_init (fun _ => rfl) 9 1000 rfl ?_
  simp only [pX6_init, List.drop_zero, List.drop_succ_cons, hl_wp, hs_ii, hs_i1, hs_ll, hs_l1, hs_ff, hs_g1, hs_dd, hs_d1, hs_r1, hs_rv, hs_rv0, hs_n1, hs_n0, hs_v1i, hs_v1r, hs_a1, hs_d2l, hs_d2i, hs_ri, hs_rl, hs_rg, hs_rd8, hs_rr, hs_rn, hs_ov, hs_gf, hs_po, hs_pfi, hs_pfr, hs_ia, hs_la, hs_da, hs_qa, hs_al, hs_is, hs_ls, hs_ds, hs_iso, hs_lso, hs_dso, hs_rd, hs_f1, hs_f10, hs_f2, hs_f20, hs_in0, hs_in1, hs_lt, hs_le, hs_ge, hs_gt, hs_eq, hs_10, hs_00, hs_01, true_and, and_true, true_imp_iff, false_imp_iff, not_true_eq_false, not_false_eq_true, hs_av, hs_ai, hs_ar, hs_an, hs_aj, hs_ci, hs_cr, hs_cn, hs_cj, hs_cd, hs_cf, hs_q0, hs_q1, reduceIte, Nat.reduceEqDiff, Nat.reduceAdd, Nat.reduceLT, eq_self, List.getElem?_cons_zero, List.getElem?_cons_succ, List.set_cons_zero, List.set_cons_succ, List.length_cons, List.length_nil, Option.toList_some, Option.toList_none, List.cons_append, List.nil_append, Nat.zero_add, Nat.add_zero, List.map_nil, List.sum_nil, List.map_cons, List.sum_cons, Nat.zero_le, hs_set1, h8]
  exact hl_vret B rfl (hl_dec okX6_init 10 rfl) (by decide) (by omega) ⟨rfl, q, k2⟩
set_option maxRecDepth 20000 in
set_option maxHeartbeats 2000000 in
theorem ct_X0_init {G : hl_G} {l : Launch} {h : hl_H} {r : Nat} (hr : h r = none) :
    hl_Ct G l mX0_init 1 6 39 [.ref r] (fun g => g = hl_set h r (.inr (2, hl_new 2))) (fun r9 g => r9 = none ∧ ∃ q1 a1 q2 a2 q3 a3, hl_K h [(r, .inr (2, [.int 0, .ref q1, .ref q2, .ref q3])), (q1, .inr (8, [.ref a1])), (a1, .inl (12, .inr (.inl (fun _ => 0)))), (q2, .inr (8, [.ref a2])), (a2, .inl (12, .inr (.inl (fun _ => 0)))), (q3, .inr (8, [.ref a3])), (a3, .inl (12, .inr (.inl (fun _ => 0))))] g) (fun _ _ => False) := by
  refine hl_body (by decide +kernel) (Nat.le_of_ble_eq_true rfl) ?_
  intro p e s m args below meth c B g hg
  subst hg
  have k0 : hl_K h [(r, .inr (2, [.int 0, .null, .null, .null]))] (hl_set h r (.inr (2, [.int 0, .null, .null, .null]))) := hl_K.one hr _
  change hl_GM G mX0_init 1 6 39 _ _ p l e s m args below meth c 0 [(0, .ref r)] [] (hl_set h r (.inr (2, [.int 0, .null, .null, .null]))) 0 0
  generalize hl_set h r (.inr (2, [.int 0, .null, .null, .null])) = g0 at k0
  have f0 := k0.hd
  refine hl_seg B okX0_init (fun _ => rfl) 0 1000 rfl ?_
  simp only [pX0_init, List.drop_zero, List.drop_succ_cons, hl_wp, hs_ii, hs_i1, hs_ll, hs_l1, hs_ff, hs_g1, hs_dd, hs_d1, hs_r1, hs_rv, hs_rv0, hs_n1, hs_n0, hs_v1i, hs_v1r, hs_a1, hs_d2l, hs_d2i, hs_ri, hs_rl, hs_rg, hs_rd8, hs_rr, hs_rn, hs_ov, hs_gf, hs_po, hs_pfi, hs_pfr, hs_ia, hs_la, hs_da, hs_qa, hs_al, hs_is, hs_ls, hs_ds, hs_iso, hs_lso, hs_dso, hs_rd, hs_f1, hs_f10, hs_f2, hs_f20, hs_in0, hs_in1, hs_lt, hs_le, hs_ge, hs_gt, hs_eq, hs_10, hs_00, hs_01, true_and, and_true, true_imp_iff, false_imp_iff, not_true_eq_false, not_false_eq_true, hs_av, hs_ai, hs_ar, hs_an, hs_aj, hs_ci, hs_cr, hs_cn, hs_cj, hs_cd, hs_cf, hs_q0, hs_q1, reduceIte, Nat.reduceEqDiff, Nat.reduceAdd, Nat.reduceLT, eq_self, List.getElem?_cons_zero, List.getElem?_cons_succ, List.set_cons_zero, List.set_cons_succ, List.length_cons, List.length_nil, Option.toList_some, Option.toList_none, List.cons_append, List.nil_append, Nat.zero_add, Nat.add_zero, List.map_nil, List.sum_nil, List.map_cons, List.sum_cons, Nat.zero_le, hs_set1, f0]
  have k0' := k0.upd (.inr (2, [.int 0, .null, .null, .null]))
  refine ⟨by decide, by decide, fun q1 hq1 => ?_⟩
  refine hl_callI B (As := [.int _]) (ct_X6_init (N := 12) hq1 (by decide)) mtX6_init rfl (hl_dec okX0_init 9 rfl) (kk := 209) (by decide +kernel) rfl rfl (Nat.le_of_ble_eq_true rfl) (by decide) (by decide) (by decide) (by decide) rfl (fun r9 g1 hQ1 => ?_)
  obtain ⟨rfl, a1, z1⟩ := hQ1
  have k1 : hl_K h [(r, .inr (2, [.int 0, .null, .null, .null])), (q1, .inr (8, [.ref a1])), (a1, .inl (12, .inr (.inl (fun _ => 0))))] g1 := k0'.app z1
  have f1 := k1.hd
  refine hl_seg B okX0_init (fun _ => rfl) 10 1000 rfl ?_
  simp only [pX0_init, List.drop_zero, List.drop_succ_cons, hl_wp, hs_ii, hs_i1, hs_ll, hs_l1, hs_ff, hs_g1, hs_dd, hs_d1, hs_r1, hs_rv, hs_rv0, hs_n1, hs_n0, hs_v1i, hs_v1r, hs_a1, hs_d2l, hs_d2i, hs_ri, hs_rl, hs_rg, hs_rd8, hs_rr, hs_rn, hs_ov, hs_gf, hs_po, hs_pfi, hs_pfr, hs_ia, hs_la, hs_da, hs_qa, hs_al, hs_is, hs_ls, hs_ds, hs_iso, hs_lso, hs_dso, hs_rd, hs_f1, hs_f10, hs_f2, hs_f20, hs_in0, hs_in1, hs_lt, hs_le, hs_ge, hs_gt, hs_eq, hs_10, hs_00, hs_01, true_and, and_true, true_imp_iff, false_imp_iff, not_true_eq_false, not_false_eq_true, hs_av, hs_ai, hs_ar, hs_an, hs_aj, hs_ci, hs_cr, hs_cn, hs_cj, hs_cd, hs_cf, hs_q0, hs_q1, reduceIte, Nat.reduceEqDiff, Nat.reduceAdd, Nat.reduceLT, eq_self, List.getElem?_cons_zero, List.getElem?_cons_succ, List.set_cons_zero, List.set_cons_succ, List.length_cons, List.length_nil, Option.toList_some, Option.toList_none, List.cons_append, List.nil_append, Nat.zero_add, Nat.add_zero, List.map_nil, List.sum_nil, List.map_cons, List.sum_cons, Nat.zero_le, hs_set1, f1]
  have k1' := k1.upd (.inr (2, [.int 0, .ref q1, .null, .null]))
  refine ⟨by decide, by decide, fun q2 hq2 => ?_⟩
  refine hl_callI B (As := [.int _]) (ct_X6_init (N := 12) hq2 (by decide)) mtX6_init rfl (hl_dec okX0_init 15 rfl) (kk := 209) (by decide +kernel) rfl rfl (Nat.le_of_ble_eq_true rfl) (by decide) (by decide) (by decide) (by decide) rfl (fun r9 g2 hQ2 => ?_)
  obtain ⟨rfl, a2, z2⟩ := hQ2
  have k2 : hl_K h [(r, .inr (2, [.int 0, .ref q1, .null, .null])), (q1, .inr (8, [.ref a1])), (a1, .inl (12, .inr (.inl (fun _ => 0)))), (q2, .inr (8, [.ref a2])), (a2, .inl (12, .inr (.inl (fun _ => 0))))] g2 := k1'.app z2
  have f2 := k2.hd
  refine hl_seg B okX0_init (fun _ => rfl) 16 1000 rfl ?_
  simp only [pX0_init, List.drop_zero, List.drop_succ_cons, hl_wp, hs_ii, hs_i1, hs_ll, hs_l1, hs_ff, hs_g1, hs_dd, hs_d1, hs_r1, hs_rv, hs_rv0, hs_n1, hs_n0, hs_v1i, hs_v1r, hs_a1, hs_d2l, hs_d2i, hs_ri, hs_rl, hs_rg, hs_rd8, hs_rr, hs_rn, hs_ov, hs_gf, hs_po, hs_pfi, hs_pfr, hs_ia, hs_la, hs_da, hs_qa, hs_al, hs_is, hs_ls, hs_ds, hs_iso, hs_lso, hs_dso, hs_rd, hs_f1, hs_f10, hs_f2, hs_f20, hs_in0, hs_in1, hs_lt, hs_le, hs_ge, hs_gt, hs_eq, hs_10, hs_00, hs_01, true_and, and_true, true_imp_iff, false_imp_iff, not_true_eq_false, not_false_eq_true, hs_av, hs_ai, hs_ar, hs_an, hs_aj, hs_ci, hs_cr, hs_cn, hs_cj, hs_cd, hs_cf, hs_q0, hs_q1, reduceIte, Nat.reduceEqDiff, Nat.reduceAdd, Nat.reduceLT, eq_self, List.getElem?_cons_zero, List.getElem?_cons_succ, List.set_cons_zero, List.set_cons_succ, List.length_cons, List.length_nil, Option.toList_some, Option.toList_none, List.cons_append, List.nil_append, Nat.zero_add, Nat.add_zero, List.map_nil, List.sum_nil, List.map_cons, List.sum_cons, Nat.zero_le, hs_set1, f2]
  have k2' := k2.upd (.inr (2, [.int 0, .ref q1, .ref q2, .null]))
  refine ⟨by decide, by decide, fun q3 hq3 => ?_⟩
  refine hl_callI B (As := [.int _]) (ct_X6_init (N := 12) hq3 (by decide)) mtX6_init rfl (hl_dec okX0_init 21 rfl) (kk := 209) (by decide +kernel) rfl rfl (Nat.le_of_ble_eq_true rfl) (by decide) (by decide) (by decide) (by decide) rfl (fun r9 g3 hQ3 => ?_)
  obtain ⟨rfl, a3, z3⟩ := hQ3
  have k3 : hl_K h [(r, .inr (2, [.int 0, .ref q1, .ref q2, .null])), (q1, .inr (8, [.ref a1])), (a1, .inl (12, .inr (.inl (fun _ => 0)))), (q2, .inr (8, [.ref a2])), (a2, .inl (12, .inr (.inl (fun _ => 0)))), (q3, .inr (8, [.ref a3])), (a3, .inl (12, .inr (.inl (fun _ => 0))))] g3 := k2'.app z3
  have f3 := k3.hd
  refine hl_seg B okX0_init (fun _ => rfl) 22 1000 rfl ?_
  simp only [pX0_init, List.drop_zero, List.drop_succ_cons, hl_wp, hs_ii, hs_i1, hs_ll, hs_l1, hs_ff, hs_g1, hs_dd, hs_d1, hs_r1, hs_rv, hs_rv0, hs_n1, hs_n0, hs_v1i, hs_v1r, hs_a1, hs_d2l, hs_d2i, hs_ri, hs_rl, hs_rg, hs_rd8, hs_rr, hs_rn, hs_ov, hs_gf, hs_po, hs_pfi, hs_pfr, hs_ia, hs_la, hs_da, hs_qa, hs_al, hs_is, hs_ls, hs_ds, hs_iso, hs_lso, hs_dso, hs_rd, hs_f1, hs_f10, hs_f2, hs_f20, hs_in0, hs_in1, hs_lt, hs_le, hs_ge, hs_gt, hs_eq, hs_10, hs_00, hs_01, true_and, and_true, true_imp_iff, false_imp_iff, not_true_eq_false, not_false_eq_true, hs_av, hs_ai, hs_ar, hs_an, hs_aj, hs_ci, hs_cr, hs_cn, hs_cj, hs_cd, hs_cf, hs_q0, hs_q1, reduceIte, Nat.reduceEqDiff, Nat.reduceAdd, Nat.reduceLT, eq_self, List.getElem?_cons_zero, List.getElem?_cons_succ, List.set_cons_zero, List.set_cons_succ, List.length_cons, List.length_nil, Option.toList_some, Option.toList_none, List.cons_append, List.nil_append, Nat.zero_add, Nat.add_zero, List.map_nil, List.sum_nil, List.map_cons, List.sum_cons, Nat.zero_le, hs_set1, f3]
  have k3' := k3.upd (.inr (2, [.int 0, .ref q1, .ref q2, .ref q3]))
  exact hl_vret B rfl (hl_dec okX0_init 23 rfl) (by decide) (by decide) ⟨rfl, q1, a1, q2, a2, q3, a3, k3'⟩
set_option maxRecDepth 20000 in
set_option maxHeartbeats 2000000 in
theorem ct_X3_init {G : hl_G} {l : Launch} {h : hl_H} {r : Nat} (hr : h r = none) :
    hl_Ct G l mX3_init 1 10 155 [.ref r] (fun g => g = hl_set h r (.inr (5, hl_new 5))) (fun r9 g => r9 = none ∧ ∃ q1 a1 q2 a2 q3 a3 q4 a4 q5 a5, hl_K h [(r, .inr (5, [.int 0, .ref q1, .ref q2, .ref q3, .ref q4, .ref q5])), (q1, .inr (8, [.ref a1])), (a1, .inl (30, .inr (.inl (fun _ => 0)))), (q2, .inr (8, [.ref a2])), (a2, .inl (30, .inr (.inl (fun _ => 0)))), (q3, .inr (8, [.ref a3])), (a3, .inl (30, .inr (.inl (fun _ => 0)))), (q4, .inr (8, [.ref a4])), (a4, .inl (30, .inr (.inl (fun _ => 0)))), (q5, .inr (8, [.ref a5])), (a5, .inl (30, .inr (.inl (fun _ => 0))))] g) (fun _ _ => False) := by
  refine hl_body (by decide +kernel) (Nat.le_of_ble_eq_true rfl) ?_
  intro p e s m args below meth c B g hg
  subst hg
  have k0 : hl_K h [(r, .inr (5, [.int 0, .null, .null, .null, .null, .null]))] (hl_set h r (.inr (5, [.int 0, .null, .null, .null, .null, .null]))) := hl_K.one hr _
  change hl_GM G mX3_init 1 10 155 _ _ p l e s m args below meth c 0 [(0, .ref r)] [] (hl_set h r (.inr (5, [.int 0, .null, .null, .null, .null, .null]))) 0 0
  generalize hl_set h r (.inr (5, [.int 0, .null, .null, .null, .null, .null])) = g0 at k0
  have f0 := k0.hd
  refine hl_seg B okX3_init (fun _ => rfl) 0 1000 rfl ?_
  simp only [pX3_init, List.drop_zero, List.drop_succ_cons, hl_wp, hs_ii, hs_i1, hs_ll, hs_l1, hs_ff, hs_g1, hs_dd, hs_d1, hs_r1, hs_rv, hs_rv0, hs_n1, hs_n0, hs_v1i, hs_v1r, hs_a1, hs_d2l, hs_d2i, hs_ri, hs_rl, hs_rg, hs_rd8, hs_rr, hs_rn, hs_ov, hs_gf, hs_po, hs_pfi, hs_pfr, hs_ia, hs_la, hs_da, hs_qa, hs_al, hs_is, hs_ls, hs_ds, hs_iso, hs_lso, hs_dso, hs_rd, hs_f1, hs_f10, hs_f2, hs_f20, hs_in0, hs_in1, hs_lt, hs_le, hs_ge, hs_gt, hs_eq, hs_10, hs_00, hs_01, true_and, and_true, true_imp_iff, false_imp_iff, not_true_eq_false, not_false_eq_true, hs_av, hs_ai, hs_ar, hs_an, hs_aj, hs_ci, hs_cr, hs_cn, hs_cj, hs_cd, hs_cf, hs_q0, hs_q1, reduceIte, Nat.reduceEqDiff, Nat.reduceAdd, Nat.reduceLT, eq_self, List.getElem?_cons_zero, List.getElem?_cons_succ, List.set_cons_zero, List.set_cons_succ, List.length_cons, List.length_nil, Option.toList_some, Option.toList_none, List.cons_append, List.nil_append, Nat.zero_add, Nat.add_zero, List.map_nil, List.sum_nil, List.map_cons, List.sum_cons, Nat.zero_le, hs_set1, f0]
  have k0' := k0.upd (.inr (5, [.int 0, .null, .null, .null, .null, .null]))
  refine ⟨by decide, by decide, fun q1 hq1 => ?_⟩
  refine hl_callI B (As := [.int _]) (ct_X6_init (N := 30) hq1 (by decide)) mtX6_init rfl (hl_dec okX3_init 9 rfl) (kk := 176) (by decide +kernel) rfl rfl (Nat.le_of_ble_eq_true rfl) (by decide) (by decide) (by decide) (by decide) rfl (fun r9 g1 hQ1 => ?_)
  obtain ⟨rfl, a1, z1⟩ := hQ1
  have k1 : hl_K h [(r, .inr (5, [.int 0, .null, .null, .null, .null, .null])), (q1, .inr (8, [.ref a1])), (a1, .inl (30, .inr (.inl (fun _ => 0))))] g1 := k0'.app z1
  have f1 := k1.hd
  refine hl_seg B okX3_init (fun _ => rfl) 10 1000 rfl ?_
  simp only [pX3_init, List.drop_zero, List.drop_succ_cons, hl_wp, hs_ii, hs_i1, hs_ll, hs_l1, hs_ff, hs_g1, hs_dd, hs_d1, hs_r1, hs_rv, hs_rv0, hs_n1, hs_n0, hs_v1i, hs_v1r, hs_a1, hs_d2l, hs_d2i, hs_ri, hs_rl, hs_rg, hs_rd8, hs_rr, hs_rn, hs_ov, hs_gf, hs_po, hs_pfi, hs_pfr, hs_ia, hs_la, hs_da, hs_qa, hs_al, hs_is, hs_ls, hs_ds, hs_iso, hs_lso, hs_dso, hs_rd, hs_f1, hs_f10, hs_f2, hs_f20, hs_in0, hs_in1, hs_lt, hs_le, hs_ge, hs_gt, hs_eq, hs_10, hs_00, hs_01, true_and, and_true, true_imp_iff, false_imp_iff, not_true_eq_false, not_false_eq_true, hs_av, hs_ai, hs_ar, hs_an, hs_aj, hs_ci, hs_cr, hs_cn, hs_cj, hs_cd, hs_cf, hs_q0, hs_q1, reduceIte, Nat.reduceEqDiff, Nat.reduceAdd, Nat.reduceLT, eq_self, List.getElem?_cons_zero, List.getElem?_cons_succ, List.set_cons_zero, List.set_cons_succ, List.length_cons, List.length_nil, Option.toList_some, Option.toList_none, List.cons_append, List.nil_append, Nat.zero_add, Nat.add_zero, List.map_nil, List.sum_nil, List.map_cons, List.sum_cons, Nat.zero_le, hs_set1, f1]
  have k1' := k1.upd (.inr (5, [.int 0, .ref q1, .null, .null, .null, .null]))
  refine ⟨by decide, by decide, fun q2 hq2 => ?_⟩
  refine hl_callI B (As := [.int _]) (ct_X6_init (N := 30) hq2 (by decide)) mtX6_init rfl (hl_dec okX3_init 15 rfl) (kk := 176) (by decide +kernel) rfl rfl (Nat.le_of_ble_eq_true rfl) (by decide) (by decide) (by decide) (by decide) rfl (fun r9 g2 hQ2 => ?_)
  obtain ⟨rfl, a2, z2⟩ := hQ2
  have k2 : hl_K h [(r, .inr (5, [.int 0, .ref q1, .null, .null, .null, .null])), (q1, .inr (8, [.ref a1])), (a1, .inl (30, .inr (.inl (fun _ => 0)))), (q2, .inr (8, [.ref a2])), (a2, .inl (30, .inr (.inl (fun _ => 0))))] g2 := k1'.app z2
  have f2 := k2.hd
  refine hl_seg B okX3_init (fun _ => rfl) 16 1000 rfl ?_
  simp only [pX3_init, List.drop_zero, List.drop_succ_cons, hl_wp, hs_ii, hs_i1, hs_ll, hs_l1, hs_ff, hs_g1, hs_dd, hs_d1, hs_r1, hs_rv, hs_rv0, hs_n1, hs_n0, hs_v1i, hs_v1r, hs_a1, hs_d2l, hs_d2i, hs_ri, hs_rl, hs_rg, hs_rd8, hs_rr, hs_rn, hs_ov, hs_gf, hs_po, hs_pfi, hs_pfr, hs_ia, hs_la, hs_da, hs_qa, hs_al, hs_is, hs_ls, hs_ds, hs_iso, hs_lso, hs_dso, hs_rd, hs_f1, hs_f10, hs_f2, hs_f20, hs_in0, hs_in1, hs_lt, hs_le, hs_ge, hs_gt, hs_eq, hs_10, hs_00, hs_01, true_and, and_true, true_imp_iff, false_imp_iff, not_true_eq_false, not_false_eq_true, hs_av, hs_ai, hs_ar, hs_an, hs_aj, hs_ci, hs_cr, hs_cn, hs_cj, hs_cd, hs_cf, hs_q0, hs_q1, reduceIte, Nat.reduceEqDiff, Nat.reduceAdd, Nat.reduceLT, eq_self, List.getElem?_cons_zero, List.getElem?_cons_succ, List.set_cons_zero, List.set_cons_succ, List.length_cons, List.length_nil, Option.toList_some, Option.toList_none, List.cons_append, List.nil_append, Nat.zero_add, Nat.add_zero, List.map_nil, List.sum_nil, List.map_cons, List.sum_cons, Nat.zero_le, hs_set1, f2]
  have k2' := k2.upd (.inr (5, [.int 0, .ref q1, .ref q2, .null, .null, .null]))
  refine ⟨by decide, by decide, fun q3 hq3 => ?_⟩
  refine hl_callI B (As := [.int _]) (ct_X6_init (N := 30) hq3 (by decide)) mtX6_init rfl (hl_dec okX3_init 21 rfl) (kk := 176) (by decide +kernel) rfl rfl (Nat.le_of_ble_eq_true rfl) (by decide) (by decide) (by decide) (by decide) rfl (fun r9 g3 hQ3 => ?_)
  obtain ⟨rfl, a3, z3⟩ := hQ3
  have k3 : hl_K h [(r, .inr (5, [.int 0, .ref q1, .ref q2, .null, .null, .null])), (q1, .inr (8, [.ref a1])), (a1, .inl (30, .inr (.inl (fun _ => 0)))), (q2, .inr (8, [.ref a2])), (a2, .inl (30, .inr (.inl (fun _ => 0)))), (q3, .inr (8, [.ref a3])), (a3, .inl (30, .inr (.inl (fun _ => 0))))] g3 := k2'.app z3
  have f3 := k3.hd
  refine hl_seg B okX3_init (fun _ => rfl) 22 1000 rfl ?_
  simp only [pX3_init, List.drop_zero, List.drop_succ_cons, hl_wp, hs_ii, hs_i1, hs_ll, hs_l1, hs_ff, hs_g1, hs_dd, hs_d1, hs_r1, hs_rv, hs_rv0, hs_n1, hs_n0, hs_v1i, hs_v1r, hs_a1, hs_d2l, hs_d2i, hs_ri, hs_rl, hs_rg, hs_rd8, hs_rr, hs_rn, hs_ov, hs_gf, hs_po, hs_pfi, hs_pfr, hs_ia, hs_la, hs_da, hs_qa, hs_al, hs_is, hs_ls, hs_ds, hs_iso, hs_lso, hs_dso, hs_rd, hs_f1, hs_f10, hs_f2, hs_f20, hs_in0, hs_in1, hs_lt, hs_le, hs_ge, hs_gt, hs_eq, hs_10, hs_00, hs_01, true_and, and_true, true_imp_iff, false_imp_iff, not_true_eq_false, not_false_eq_true, hs_av, hs_ai, hs_ar, hs_an, hs_aj, hs_ci, hs_cr, hs_cn, hs_cj, hs_cd, hs_cf, hs_q0, hs_q1, reduceIte, Nat.reduceEqDiff, Nat.reduceAdd, Nat.reduceLT, eq_self, List.getElem?_cons_zero, List.getElem?_cons_succ, List.set_cons_zero, List.set_cons_succ, List.length_cons, List.length_nil, Option.toList_some, Option.toList_none, List.cons_append, List.nil_append, Nat.zero_add, Nat.add_zero, List.map_nil, List.sum_nil, List.map_cons, List.sum_cons, Nat.zero_le, hs_set1, f3]
  have k3' := k3.upd (.inr (5, [.int 0, .ref q1, .ref q2, .ref q3, .null, .null]))
  refine ⟨by decide, by decide, fun q4 hq4 => ?_⟩
  refine hl_callI B (As := [.int _]) (ct_X6_init (N := 30) hq4 (by decide)) mtX6_init rfl (hl_dec okX3_init 27 rfl) (kk := 176) (by decide +kernel) rfl rfl (Nat.le_of_ble_eq_true rfl) (by decide) (by decide) (by decide) (by decide) rfl (fun r9 g4 hQ4 => ?_)
  obtain ⟨rfl, a4, z4⟩ := hQ4
  have k4 : hl_K h [(r, .inr (5, [.int 0, .ref q1, .ref q2, .ref q3, .null, .null])), (q1, .inr (8, [.ref a1])), (a1, .inl (30, .inr (.inl (fun _ => 0)))), (q2, .inr (8, [.ref a2])), (a2, .inl (30, .inr (.inl (fun _ => 0)))), (q3, .inr (8, [.ref a3])), (a3, .inl (30, .inr (.inl (fun _ => 0)))), (q4, .inr (8, [.ref a4])), (a4, .inl (30, .inr (.inl (fun _ => 0))))] g4 := k3'.app z4
  have f4 := k4.hd
  refine hl_seg B okX3_init (fun _ => rfl) 28 1000 rfl ?_
  simp only [pX3_init, List.drop_zero, List.drop_succ_cons, hl_wp, hs_ii, hs_i1, hs_ll, hs_l1, hs_ff, hs_g1, hs_dd, hs_d1, hs_r1, hs_rv, hs_rv0, hs_n1, hs_n0, hs_v1i, hs_v1r, hs_a1, hs_d2l, hs_d2i, hs_ri, hs_rl, hs_rg, hs_rd8, hs_rr, hs_rn, hs_ov, hs_gf, hs_po, hs_pfi, hs_pfr, hs_ia, hs_la, hs_da, hs_qa, hs_al, hs_is, hs_ls, hs_ds, hs_iso, hs_lso, hs_dso, hs_rd, hs_f1, hs_f10, hs_f2, hs_f20, hs_in0, hs_in1, hs_lt, hs_le, hs_ge, hs_gt, hs_eq, hs_10, hs_00, hs_01, true_and, and_true, true_imp_iff, false_imp_iff, not_true_eq_false, not_false_eq_true, hs_av, hs_ai, hs_ar, hs_an, hs_aj, hs_ci, hs_cr, hs_cn, hs_cj, hs_cd, hs_cf, hs_q0, hs_q1, reduceIte, Nat.reduceEqDiff, Nat.reduceAdd, Nat.reduceLT, eq_self, List.getElem?_cons_zero, List.getElem?_cons_succ, List.set_cons_zero, List.set_cons_succ, List.length_cons, List.length_nil, Option.toList_some, Option.toList_none, List.cons_append, List.nil_append, Nat.zero_add, Nat.add_zero, List.map_nil, List.sum_nil, List.map_cons, List.sum_cons, Nat.zero_le, hs_set1, f4]
  have k4' := k4.upd (.inr (5, [.int 0, .ref q1, .ref q2, .ref q3, .ref q4, .null]))
  refine ⟨by decide, by decide, fun q5 hq5 => ?_⟩
  refine hl_callI B (As := [.int _]) (ct_X6_init (N := 30) hq5 (by decide)) mtX6_init rfl (hl_dec okX3_init 33 rfl) (kk := 176) (by decide +kernel) rfl rfl (Nat.le_of_ble_eq_true rfl) (by decide) (by decide) (by decide) (by decide) rfl (fun r9 g5 hQ5 => ?_)
  obtain ⟨rfl, a5, z5⟩ := hQ5
  have k5 : hl_K h [(r, .inr (5, [.int 0, .ref q1, .ref q2, .ref q3, .ref q4, .null])), (q1, .inr (8, [.ref a1])), (a1, .inl (30, .inr (.inl (fun _ => 0)))), (q2, .inr (8, [.ref a2])), (a2, .inl (30, .inr (.inl (fun _ => 0)))), (q3, .inr (8, [.ref a3])), (a3, .inl (30, .inr (.inl (fun _ => 0)))), (q4, .inr (8, [.ref a4])), (a4, .inl (30, .inr (.inl (fun _ => 0)))), (q5, .inr (8, [.ref a5])), (a5, .inl (30, .inr (.inl (fun _ => 0))))] g5 := k4'.app z5
  have f5 := k5.hd
  refine hl_seg B okX3_init (fun _ => rfl) 34 1000 rfl ?_
  simp only [pX3_init, List.drop_zero, List.drop_succ_cons, hl_wp, hs_ii, hs_i1, hs_ll, hs_l1, hs_ff, hs_g1, hs_dd, hs_d1, hs_r1, hs_rv, hs_rv0, hs_n1, hs_n0, hs_v1i, hs_v1r, hs_a1, hs_d2l, hs_d2i, hs_ri, hs_rl, hs_rg, hs_rd8, hs_rr, hs_rn, hs_ov, hs_gf, hs_po, hs_pfi, hs_pfr, hs_ia, hs_la, hs_da, hs_qa, hs_al, hs_is, hs_ls, hs_ds, hs_iso, hs_lso, hs_dso, hs_rd, hs_f1, hs_f10, hs_f2, hs_f20, hs_in0, hs_in1, hs_lt, hs_le, hs_ge, hs_gt, hs_eq, hs_10, hs_00, hs_01, true_and, and_true, true_imp_iff, false_imp_iff, not_true_eq_false, not_false_eq_true, hs_av, hs_ai, hs_ar, hs_an, hs_aj, hs_ci, hs_cr, hs_cn, hs_cj, hs_cd, hs_cf, hs_q0, hs_q1, reduceIte, Nat.reduceEqDiff, Nat.reduceAdd, Nat.reduceLT, eq_self, List.getElem?_cons_zero, List.getElem?_cons_succ, List.set_cons_zero, List.set_cons_succ, List.length_cons, List.length_nil, Option.toList_some, Option.toList_none, List.cons_append, List.nil_append, Nat.zero_add, Nat.add_zero, List.map_nil, List.sum_nil, List.map_cons, List.sum_cons, Nat.zero_le, hs_set1, f5]
  have k5' := k5.upd (.inr (5, [.int 0, .ref q1, .ref q2, .ref q3, .ref q4, .ref q5]))
  exact hl_vret B rfl (hl_dec okX3_init 35 rfl) (by decide) (by decide) ⟨rfl, q1, a1, q2, a2, q3, a3, q4, a4, q5, a5, k5'⟩
set_option maxRecDepth 20000 in
set_option maxHeartbeats 2000000 in
theorem ct_X4_init {G : hl_G} {l : Launch} {h : hl_H} {r : Nat} (hr : h r = none) :
    hl_Ct G l mX4_init 1 14 1057 [.ref r] (fun g => g = hl_set h r (.inr (6, hl_new 6))) (fun r9 g => r9 = none ∧ ∃ q1 a1 q2 a2 q3 a3 q4 a4 q5 a5 q6 a6 q7 a7, hl_K h [(r, .inr (6, [.int 0, .ref q1, .ref q2, .ref q3, .ref q4, .ref q5, .ref q6, .ref q7])), (q1, .inr (8, [.ref a1])), (a1, .inl (150, .inr (.inl (fun _ => 0)))), (q2, .inr (8, [.ref a2])), (a2, .inl (150, .inr (.inl (fun _ => 0)))), (q3, .inr (8, [.ref a3])), (a3, .inl (150, .inr (.inl (fun _ => 0)))), (q4, .inr (8, [.ref a4])), (a4, .inl (150, .inr (.inl (fun _ => 0)))), (q5, .inr (8, [.ref a5])), (a5, .inl (150, .inr (.inl (fun _ => 0)))), (q6, .inr (8, [.ref a6])), (a6, .inl (150, .inr (.inl (fun _ => 0)))), (q7, .inr (8, [.ref a7])), (a7, .inl (150, .inr (.inl (fun _ => 0))))] g) (fun _ _ => False) := by
  refine hl_body (by decide +kernel) (Nat.le_of_ble_eq_true rfl) ?_
  intro p e s m args below meth c B g hg
  subst hg
  have k0 : hl_K h [(r, .inr (6, [.int 0, .null, .null, .null, .null, .null, .null, .null]))] (hl_set h r (.inr (6, [.int 0, .null, .null, .null, .null, .null, .null, .null]))) := hl_K.one hr _
  change hl_GM G mX4_init 1 14 1057 _ _ p l e s m args below meth c 0 [(0, .ref r)] [] (hl_set h r (.inr (6, [.int 0, .null, .null, .null, .null, .null, .null, .null]))) 0 0
  generalize hl_set h r (.inr (6, [.int 0, .null, .null, .null, .null, .null, .null, .null])) = g0 at k0
  have f0 := k0.hd
  refine hl_seg B okX4_init (fun _ => rfl) 0 1000 rfl ?_
  simp only [pX4_init, List.drop_zero, List.drop_succ_cons, hl_wp, hs_ii, hs_i1, hs_ll, hs_l1, hs_ff, hs_g1, hs_dd, hs_d1, hs_r1, hs_rv, hs_rv0, hs_n1, hs_n0, hs_v1i, hs_v1r, hs_a1, hs_d2l, hs_d2i, hs_ri, hs_rl, hs_rg, hs_rd8, hs_rr, hs_rn, hs_ov, hs_gf, hs_po, hs_pfi, hs_pfr, hs_ia, hs_la, hs_da, hs_qa, hs_al, hs_is, hs_ls, hs_ds, hs_iso, hs_lso, hs_dso, hs_rd, hs_f1, hs_f10, hs_f2, hs_f20, hs_in0, hs_in1, hs_lt, hs_le, hs_ge, hs_gt, hs_eq, hs_10, hs_00, hs_01, true_and, and_true, true_imp_iff, false_imp_iff, not_true_eq_false, not_false_eq_true, hs_av, hs_ai, hs_ar, hs_an, hs_aj, hs_ci, hs_cr, hs_cn, hs_cj, hs_cd, hs_cf, hs_q0, hs_q1, reduceIte, Nat.reduceEqDiff, Nat.reduceAdd, Nat.reduceLT, eq_self, List.getElem?_cons_zero, List.getElem?_cons_succ, List.set_cons_zero, List.set_cons_succ, List.length_cons, List.length_nil, Option.toList_some, Option.toList_none, List.cons_append, List.nil_append, Nat.zero_add, Nat.add_zero, List.map_nil, List.sum_nil, List.map_cons, List.sum_cons, Nat.zero_le, hs_set1, f0]
  have k0' := k0.upd (.inr (6, [.int 0, .null, .null, .null, .null, .null, .null, .null]))
  refine ⟨by decide, by decide, fun q1 hq1 => ?_⟩
  refine hl_callI B (As := [.int _]) (ct_X6_init (N := 150) hq1 (by decide)) mtX6_init rfl (hl_dec okX4_init 9 rfl) (kk := 136) (by decide +kernel) rfl rfl (Nat.le_of_ble_eq_true rfl) (by decide) (by decide) (by decide) (by decide) rfl (fun r9 g1 hQ1 => ?_)
  obtain ⟨rfl, a1, z1⟩ := hQ1
  have k1 : hl_K h [(r, .inr (6, [.int 0, .null, .null, .null, .null, .null, .null, .null])), (q1, .inr (8, [.ref a1])), (a1, .inl (150, .inr (.inl (fun _ => 0))))] g1 := k0'.app z1
  have f1 := k1.hd
  refine hl_seg B okX4_init (fun _ => rfl) 10 1000 rfl ?_
  simp only [pX4_init, List.drop_zero, List.drop_succ_cons, hl_wp, hs_ii, hs_i1, hs_ll, hs_l1, hs_ff, hs_g1, hs_dd, hs_d1, hs_r1, hs_rv, hs_rv0, hs_n1, hs_n0, hs_v1i, hs_v1r, hs_a1, hs_d2l, hs_d2i, hs_ri, hs_rl, hs_rg, hs_rd8, hs_rr, hs_rn, hs_ov, hs_gf, hs_po, hs_pfi, hs_pfr, hs_ia, hs_la, hs_da, hs_qa, hs_al, hs_is, hs_ls, hs_ds, hs_iso, hs_lso, hs_dso, hs_rd, hs_f1, hs_f10, hs_f2, hs_f20, hs_in0, hs_in1, hs_lt, hs_le, hs_ge, hs_gt, hs_eq, hs_10, hs_00, hs_01, true_and, and_true, true_imp_iff, false_imp_iff, not_true_eq_false, not_false_eq_true, hs_av, hs_ai, hs_ar, hs_an, hs_aj, hs_ci, hs_cr, hs_cn, hs_cj, hs_cd, hs_cf, hs_q0, hs_q1, reduceIte, Nat.reduceEqDiff, Nat.reduceAdd, Nat.reduceLT, eq_self, List.getElem?_cons_zero, List.getElem?_cons_succ, List.set_cons_zero, List.set_cons_succ, List.length_cons, List.length_nil, Option.toList_some, Option.toList_none, List.cons_append, List.nil_append, Nat.zero_add, Nat.add_zero, List.map_nil, List.sum_nil, List.map_cons, List.sum_cons, Nat.zero_le, hs_set1, f1]
  have k1' := k1.upd (.inr (6, [.int 0, .ref q1, .null, .null, .null, .null, .null, .null]))
  refine ⟨by decide, by decide, fun q2 hq2 => ?_⟩
  refine hl_callI B (As := [.int _]) (ct_X6_init (N := 150) hq2 (by decide)) mtX6_init rfl (hl_dec okX4_init 15 rfl) (kk := 136) (by decide +kernel) rfl rfl (Nat.le_of_ble_eq_true rfl) (by decide) (by decide) (by decide) (by decide) rfl (fun r9 g2 hQ2 => ?_)
  obtain ⟨rfl, a2, z2⟩ := hQ2
  have k2 : hl_K h [(r, .inr (6, [.int 0, .ref q1, .null, .null, .null, .null, .null, .null])), (q1, .inr (8, [.ref a1])), (a1, .inl (150, .inr (.inl (fun _ => 0)))), (q2, .inr (8, [.ref a2])), (a2, .inl (150, .inr (.inl (fun _ => 0))))] g2 := k1'.app z2
  have f2 := k2.hd
  refine hl_seg B okX4_init (fun _ => rfl) 16 1000 rfl ?_
  simp only [pX4_init, List.drop_zero, List.drop_succ_cons, hl_wp, hs_ii, hs_i1, hs_ll, hs_l1, hs_ff, hs_g1, hs_dd, hs_d1, hs_r1, hs_rv, hs_rv0, hs_n1, hs_n0, hs_v1i, hs_v1r, hs_a1, hs_d2l, hs_d2i, hs_ri, hs_rl, hs_rg, hs_rd8, hs_rr, hs_rn, hs_ov, hs_gf, hs_po, hs_pfi, hs_pfr, hs_ia, hs_la, hs_da, hs_qa, hs_al, hs_is, hs_ls, hs_ds, hs_iso, hs_lso, hs_dso, hs_rd, hs_f1, hs_f10, hs_f2, hs_f20, hs_in0, hs_in1, hs_lt, hs_le, hs_ge, hs_gt, hs_eq, hs_10, hs_00, hs_01, true_and, and_true, true_imp_iff, false_imp_iff, not_true_eq_false, not_false_eq_true, hs_av, hs_ai, hs_ar, hs_an, hs_aj, hs_ci, hs_cr, hs_cn, hs_cj, hs_cd, hs_cf, hs_q0, hs_q1, reduceIte, Nat.reduceEqDiff, Nat.reduceAdd, Nat.reduceLT, eq_self, List.getElem?_cons_zero, List.getElem?_cons_succ, List.set_cons_zero, List.set_cons_succ, List.length_cons, List.length_nil, Option.toList_some, Option.toList_none, List.cons_append, List.nil_append, Nat.zero_add, Nat.add_zero, List.map_nil, List.sum_nil, List.map_cons, List.sum_cons, Nat.zero_le, hs_set1, f2]
  have k2' := k2.upd (.inr (6, [.int 0, .ref q1, .ref q2, .null, .null, .null, .null, .null]))
  refine ⟨by decide, by decide, fun q3 hq3 => ?_⟩
  refine hl_callI B (As := [.int _]) (ct_X6_init (N := 150) hq3 (by decide)) mtX6_init rfl (hl_dec okX4_init 21 rfl) (kk := 136) (by decide +kernel) rfl rfl (Nat.le_of_ble_eq_true rfl) (by decide) (by decide) (by decide) (by decide) rfl (fun r9 g3 hQ3 => ?_)
  obtain ⟨rfl, a3, z3⟩ := hQ3
  have k3 : hl_K h [(r, .inr (6, [.int 0, .ref q1, .ref q2, .null, .null, .null, .null, .null])), (q1, .inr (8, [.ref a1])), (a1, .inl (150, .inr (.inl (fun _ => 0)))), (q2, .inr (8, [.ref a2])), (a2, .inl (150, .inr (.inl (fun _ => 0)))), (q3, .inr (8, [.ref a3])), (a3, .inl (150, .inr (.inl (fun _ => 0))))] g3 := k2'.app z3
  have f3 := k3.hd
  refine hl_seg B okX4_init (fun _ => rfl) 22 1000 rfl ?_
  simp only [pX4_init, List.drop_zero, List.drop_succ_cons, hl_wp, hs_ii, hs_i1, hs_ll, hs_l1, hs_ff, hs_g1, hs_dd, hs_d1, hs_r1, hs_rv, hs_rv0, hs_n1, hs_n0, hs_v1i, hs_v1r, hs_a1, hs_d2l, hs_d2i, hs_ri, hs_rl, hs_rg, hs_rd8, hs_rr, hs_rn, hs_ov, hs_gf, hs_po, hs_pfi, hs_pfr, hs_ia, hs_la, hs_da, hs_qa, hs_al, hs_is, hs_ls, hs_ds, hs_iso, hs_lso, hs_dso, hs_rd, hs_f1, hs_f10, hs_f2, hs_f20, hs_in0, hs_in1, hs_lt, hs_le, hs_ge, hs_gt, hs_eq, hs_10, hs_00, hs_01, true_and, and_true, true_imp_iff, false_imp_iff, not_true_eq_false, not_false_eq_true, hs_av, hs_ai, hs_ar, hs_an, hs_aj, hs_ci, hs_cr, hs_cn, hs_cj, hs_cd, hs_cf, hs_q0, hs_q1, reduceIte, Nat.reduceEqDiff, Nat.reduceAdd, Nat.reduceLT, eq_self, List.getElem?_cons_zero, List.getElem?_cons_succ, List.set_cons_zero, List.set_cons_succ, List.length_cons, List.length_nil, Option.toList_some, Option.toList_none, List.cons_append, List.nil_append, Nat.zero_add, Nat.add_zero, List.map_nil, List.sum_nil, List.map_cons, List.sum_cons, Nat.zero_le, hs_set1, f3]
  have k3' := k3.upd (.inr (6, [.int 0, .ref q1, .ref q2, .ref q3, .null, .null, .null, .null]))
  refine ⟨by decide, by decide, fun q4 hq4 => ?_⟩
  refine hl_callI B (As := [.int _]) (ct_X6_init (N := 150) hq4 (by decide)) mtX6_init rfl (hl_dec okX4_init 27 rfl) (kk := 136) (by decide +kernel) rfl rfl (Nat.le_of_ble_eq_true rfl) (by decide) (by decide) (by decide) (by decide) rfl (fun r9 g4 hQ4 => ?_)
  obtain ⟨rfl, a4, z4⟩ := hQ4
  have k4 : hl_K h [(r, .inr (6, [.int 0, .ref q1, .ref q2, .ref q3, .null, .null, .null, .null])), (q1, .inr (8, [.ref a1])), (a1, .inl (150, .inr (.inl (fun _ => 0)))), (q2, .inr (8, [.ref a2])), (a2, .inl (150, .inr (.inl (fun _ => 0)))), (q3, .inr (8, [.ref a3])), (a3, .inl (150, .inr (.inl (fun _ => 0)))), (q4, .inr (8, [.ref a4])), (a4, .inl (150, .inr (.inl (fun _ => 0))))] g4 := k3'.app z4
  have f4 := k4.hd
  refine hl_seg B okX4_init (fun _ => rfl) 28 1000 rfl ?_
  simp only [pX4_init, List.drop_zero, List.drop_succ_cons, hl_wp, hs_ii, hs_i1, hs_ll, hs_l1, hs_ff, hs_g1, hs_dd, hs_d1, hs_r1, hs_rv, hs_rv0, hs_n1, hs_n0, hs_v1i, hs_v1r, hs_a1, hs_d2l, hs_d2i, hs_ri, hs_rl, hs_rg, hs_rd8, hs_rr, hs_rn, hs_ov, hs_gf, hs_po, hs_pfi, hs_pfr, hs_ia, hs_la, hs_da, hs_qa, hs_al, hs_is, hs_ls, hs_ds, hs_iso, hs_lso, hs_dso, hs_rd, hs_f1, hs_f10, hs_f2, hs_f20, hs_in0, hs_in1, hs_lt, hs_le, hs_ge, hs_gt, hs_eq, hs_10, hs_00, hs_01, true_and, and_true, true_imp_iff, false_imp_iff, not_true_eq_false, not_false_eq_true, hs_av, hs_ai, hs_ar, hs_an, hs_aj, hs_ci, hs_cr, hs_cn, hs_cj, hs_cd, hs_cf, hs_q0, hs_q1, reduceIte, Nat.reduceEqDiff, Nat.reduceAdd, Nat.reduceLT, eq_self, List.getElem?_cons_zero, List.getElem?_cons_succ, List.set_cons_zero, List.set_cons_succ, List.length_cons, List.length_nil, Option.toList_some, Option.toList_none, List.cons_append, List.nil_append, Nat.zero_add, Nat.add_zero, List.map_nil, List.sum_nil, List.map_cons, List.sum_cons, Nat.zero_le, hs_set1, f4]
  have k4' := k4.upd (.inr (6, [.int 0, .ref q1, .ref q2, .ref q3, .ref q4, .null, .null, .null]))
  refine ⟨by decide, by decide, fun q5 hq5 => ?_⟩
  refine hl_callI B (As := [.int _]) (ct_X6_init (N := 150) hq5 (by decide)) mtX6_init rfl (hl_dec okX4_init 33 rfl) (kk := 136) (by decide +kernel) rfl rfl (Nat.le_of_ble_eq_true rfl) (by decide) (by decide) (by decide) (by decide) rfl (fun r9 g5 hQ5 => ?_)
  obtain ⟨rfl, a5, z5⟩ := hQ5
  have k5 : hl_K h [(r, .inr (6, [.int 0, .ref q1, .ref q2, .ref q3, .ref q4, .null, .null, .null])), (q1, .inr (8, [.ref a1])), (a1, .inl (150, .inr (.inl (fun _ => 0)))), (q2, .inr (8, [.ref a2])), (a2, .inl (150, .inr (.inl (fun _ => 0)))), (q3, .inr (8, [.ref a3])), (a3, .inl (150, .inr (.inl (fun _ => 0)))), (q4, .inr (8, [.ref a4])), (a4, .inl (150, .inr (.inl (fun _ => 0)))), (q5, .inr (8, [.ref a5])), (a5, .inl (150, .inr (.inl (fun _ => 0))))] g5 := k4'.app z5
  have f5 := k5.hd
  refine hl_seg B okX4_init (fun _ => rfl) 34 1000 rfl ?_
  simp only [pX4_init, List.drop_zero, List.drop_succ_cons, hl_wp, hs_ii, hs_i1, hs_ll, hs_l1, hs_ff, hs_g1, hs_dd, hs_d1, hs_r1, hs_rv, hs_rv0, hs_n1, hs_n0, hs_v1i, hs_v1r, hs_a1, hs_d2l, hs_d2i, hs_ri, hs_rl, hs_rg, hs_rd8, hs_rr, hs_rn, hs_ov, hs_gf, hs_po, hs_pfi, hs_pfr, hs_ia, hs_la, hs_da, hs_qa, hs_al, hs_is, hs_ls, hs_ds, hs_iso, hs_lso, hs_dso, hs_rd, hs_f1, hs_f10, hs_f2, hs_f20, hs_in0, hs_in1, hs_lt, hs_le, hs_ge, hs_gt, hs_eq, hs_10, hs_00, hs_01, true_and, and_true, true_imp_iff, false_imp_iff, not_true_eq_false, not_false_eq_true, hs_av, hs_ai, hs_ar, hs_an, hs_aj, hs_ci, hs_cr, hs_cn, hs_cj, hs_cd, hs_cf, hs_q0, hs_q1, reduceIte, Nat.reduceEqDiff, Nat.reduceAdd, Nat.reduceLT, eq_self, List.getElem?_cons_zero, List.getElem?_cons_succ, List.set_cons_zero, List.set_cons_succ, List.length_cons, List.length_nil, Option.toList_some, Option.toList_none, List.cons_append, List.nil_append, Nat.zero_add, Nat.add_zero, List.map_nil, List.sum_nil, List.map_cons, List.sum_cons, Nat.zero_le, hs_set1, f5]
  have k5' := k5.upd (.inr (6, [.int 0, .ref q1, .ref q2, .ref q3, .ref q4, .ref q5, .null, .null]))
  refine ⟨by decide, by decide, fun q6 hq6 => ?_⟩
  refine hl_callI B (As := [.int _]) (ct_X6_init (N := 150) hq6 (by decide)) mtX6_init rfl (hl_dec okX4_init 39 rfl) (kk := 136) (by decide +kernel) rfl rfl (Nat.le_of_ble_eq_true rfl) (by decide) (by decide) (by decide) (by decide) rfl (fun r9 g6 hQ6 => ?_)
  obtain ⟨rfl, a6, z6⟩ := hQ6
  have k6 : hl_K h [(r, .inr (6, [.int 0, .ref q1, .ref q2, .ref q3, .ref q4, .ref q5, .null, .null])), (q1, .inr (8, [.ref a1])), (a1, .inl (150, .inr (.inl (fun _ => 0)))), (q2, .inr (8, [.ref a2])), (a2, .inl (150, .inr (.inl (fun _ => 0)))), (q3, .inr (8, [.ref a3])), (a3, .inl (150, .inr (.inl (fun _ => 0)))), (q4, .inr (8, [.ref a4])), (a4, .inl (150, .inr (.inl (fun _ => 0)))), (q5, .inr (8, [.ref a5])), (a5, .inl (150, .inr (.inl (fun _ => 0)))), (q6, .inr (8, [.ref a6])), (a6, .inl (150, .inr (.inl (fun _ => 0))))] g6 := k5'.app z6
  have f6 := k6.hd
  refine hl_seg B okX4_init (fun _ => rfl) 40 1000 rfl ?_
  simp only [pX4_init, List.drop_zero, List.drop_succ_cons, hl_wp, hs_ii, hs_i1, hs_ll, hs_l1, hs_ff, hs_g1, hs_dd, hs_d1, hs_r1, hs_rv, hs_rv0, hs_n1, hs_n0, hs_v1i, hs_v1r, hs_a1, hs_d2l, hs_d2i, hs_ri, hs_rl, hs_rg, hs_rd8, hs_rr, hs_rn, hs_ov, hs_gf, hs_po, hs_pfi, hs_pfr, hs_ia, hs_la, hs_da, hs_qa, hs_al, hs_is, hs_ls, hs_ds, hs_iso, hs_lso, hs_dso, hs_rd, hs_f1, hs_f10, hs_f2, hs_f20, hs_in0, hs_in1, hs_lt, hs_le, hs_ge, hs_gt, hs_eq, hs_10, hs_00, hs_01, true_and, and_true, true_imp_iff, false_imp_iff, not_true_eq_false, not_false_eq_true, hs_av, hs_ai, hs_ar, hs_an, hs_aj, hs_ci, hs_cr, hs_cn, hs_cj, hs_cd, hs_cf, hs_q0, hs_q1, reduceIte, Nat.reduceEqDiff, Nat.reduceAdd, Nat.reduceLT, eq_self, List.getElem?_cons_zero, List.getElem?_cons_succ, List.set_cons_zero, List.set_cons_succ, List.length_cons, List.length_nil, Option.toList_some, Option.toList_none, List.cons_append, List.nil_append, Nat.zero_add, Nat.add_zero, List.map_nil, List.sum_nil, List.map_cons, List.sum_cons, Nat.zero_le, hs_set1, f6]
  have k6' := k6.upd (.inr (6, [.int 0, .ref q1, .ref q2, .ref q3, .ref q4, .ref q5, .ref q6, .null]))
  refine ⟨by decide, by decide, fun q7 hq7 => ?_⟩
  refine hl_callI B (As := [.int _]) (ct_X6_init (N := 150) hq7 (by decide)) mtX6_init rfl (hl_dec okX4_init 45 rfl) (kk := 136) (by decide +kernel) rfl rfl (Nat.le_of_ble_eq_true rfl) (by decide) (by decide) (by decide) (by decide) rfl (fun r9 g7 hQ7 => ?_)
  obtain ⟨rfl, a7, z7⟩ := hQ7
  have k7 : hl_K h [(r, .inr (6, [.int 0, .ref q1, .ref q2, .ref q3, .ref q4, .ref q5, .ref q6, .null])), (q1, .inr (8, [.ref a1])), (a1, .inl (150, .inr (.inl (fun _ => 0)))), (q2, .inr (8, [.ref a2])), (a2, .inl (150, .inr (.inl (fun _ => 0)))), (q3, .inr (8, [.ref a3])), (a3, .inl (150, .inr (.inl (fun _ => 0)))), (q4, .inr (8, [.ref a4])), (a4, .inl (150, .inr (.inl (fun _ => 0)))), (q5, .inr (8, [.ref a5])), (a5, .inl (150, .inr (.inl (fun _ => 0)))), (q6, .inr (8, [.ref a6])), (a6, .inl (150, .inr (.inl (fun _ => 0)))), (q7, .inr (8, [.ref a7])), (a7, .inl (150, .inr (.inl (fun _ => 0))))] g7 := k6'.app z7
  have f7 := k7.hd
  refine hl_seg B okX4_init (fun _ => rfl) 46 1000 rfl ?_
  simp only [pX4_init, List.drop_zero, List.drop_succ_cons, hl_wp, hs_ii, hs_i1, hs_ll, hs_l1, hs_ff, hs_g1, hs_dd, hs_d1, hs_r1, hs_rv, hs_rv0, hs_n1, hs_n0, hs_v1i, hs_v1r, hs_a1, hs_d2l, hs_d2i, hs_ri, hs_rl, hs_rg, hs_rd8, hs_rr, hs_rn, hs_ov, hs_gf, hs_po, hs_pfi, hs_pfr, hs_ia, hs_la, hs_da, hs_qa, hs_al, hs_is, hs_ls, hs_ds, hs_iso, hs_lso, hs_dso, hs_rd, hs_f1, hs_f10, hs_f2, hs_f20, hs_in0, hs_in1, hs_lt, hs_le, hs_ge, hs_gt, hs_eq, hs_10, hs_00, hs_01, true_and, and_true, true_imp_iff, false_imp_iff, not_true_eq_false, not_false_eq_true, hs_av, hs_ai, hs_ar, hs_an, hs_aj, hs_ci, hs_cr, hs_cn, hs_cj, hs_cd, hs_cf, hs_q0, hs_q1, reduceIte, Nat.reduceEqDiff, Nat.reduceAdd, Nat.reduceLT, eq_self, List.getElem?_cons_zero, List.getElem?_cons_succ, List.set_cons_zero, List.set_cons_succ, List.length_cons, List.length_nil, Option.toList_some, Option.toList_none, List.cons_append, List.nil_append, Nat.zero_add, Nat.add_zero, List.map_nil, List.sum_nil, List.map_cons, List.sum_cons, Nat.zero_le, hs_set1, f7]
  have k7' := k7.upd (.inr (6, [.int 0, .ref q1, .ref q2, .ref q3, .ref q4, .ref q5, .ref q6, .ref q7]))
  exact hl_vret B rfl (hl_dec okX4_init 47 rfl) (by decide) (by decide) ⟨rfl, q1, a1, q2, a2, q3, a3, q4, a4, q5, a5, q6, a6, q7, a7, k7'⟩
/-- the rates at first -/
def ls_rt : Nat → Nat → Int64
  | 0 => fun _ => 0
  | i + 1 => row_put 4 (ls_rt i) (nI i) 1000
set_option maxRecDepth 20000 in
set_option maxHeartbeats 2000000 in
theorem ct_X1_init {G : hl_G} {l : Launch} {h : hl_H} {r : Nat} (hr : h r = none) :
    hl_Ct G l mX1_init 1 12 48 [.ref r] (fun g => g = hl_set h r (.inr (3, hl_new 3))) (fun r9 g => r9 = none ∧ ∃ q1 a1 q2 a2 q3 a3 q4 a4 q5 a5 q6 a6, hl_K h [(r, .inr (3, [.int 0, .ref q1, .ref q2, .ref q3, .ref q4, .ref q5, .ref q6])), (q1, .inr (8, [.ref a1])), (a1, .inl (10, .inr (.inl (fun _ => 0)))), (q2, .inr (8, [.ref a2])), (a2, .inl (10, .inr (.inl (fun _ => 0)))), (q3, .inr (8, [.ref a3])), (a3, .inl (10, .inr (.inl (fun _ => 0)))), (q4, .inr (8, [.ref a4])), (a4, .inl (4, .inr (.inl (fun _ => 0)))), (q5, .inr (8, [.ref a5])), (a5, .inl (4, .inr (.inl (fun _ => 0)))), (q6, .inr (8, [.ref a6])), (a6, .inl (4, .inr (.inl (ls_rt 4))))] g) (fun _ _ => False) := by
  refine hl_body (by decide +kernel) (Nat.le_of_ble_eq_true rfl) ?_
  intro p e s m args below meth c B g hg
  subst hg
  have k0 : hl_K h [(r, .inr (3, [.int 0, .null, .null, .null, .null, .null, .null]))] (hl_set h r (.inr (3, [.int 0, .null, .null, .null, .null, .null, .null]))) := hl_K.one hr _
  change hl_GM G mX1_init 1 12 48 _ _ p l e s m args below meth c 0 [(0, .ref r)] [] (hl_set h r (.inr (3, [.int 0, .null, .null, .null, .null, .null, .null]))) 0 0
  generalize hl_set h r (.inr (3, [.int 0, .null, .null, .null, .null, .null, .null])) = g0 at k0
  have f0 := k0.hd
  refine hl_seg B okX1_init (fun _ => rfl) 0 43 rfl ?_
  simp only [pX1_init, List.drop_zero, List.drop_succ_cons, hl_wp, hs_ii, hs_i1, hs_ll, hs_l1, hs_ff, hs_g1, hs_dd, hs_d1, hs_r1, hs_rv, hs_rv0, hs_n1, hs_n0, hs_v1i, hs_v1r, hs_a1, hs_d2l, hs_d2i, hs_ri, hs_rl, hs_rg, hs_rd8, hs_rr, hs_rn, hs_ov, hs_gf, hs_po, hs_pfi, hs_pfr, hs_ia, hs_la, hs_da, hs_qa, hs_al, hs_is, hs_ls, hs_ds, hs_iso, hs_lso, hs_dso, hs_rd, hs_f1, hs_f10, hs_f2, hs_f20, hs_in0, hs_in1, hs_lt, hs_le, hs_ge, hs_gt, hs_eq, hs_10, hs_00, hs_01, true_and, and_true, true_imp_iff, false_imp_iff, not_true_eq_false, not_false_eq_true, hs_av, hs_ai, hs_ar, hs_an, hs_aj, hs_ci, hs_cr, hs_cn, hs_cj, hs_cd, hs_cf, hs_q0, hs_q1, reduceIte, Nat.reduceEqDiff, Nat.reduceAdd, Nat.reduceLT, eq_self, List.getElem?_cons_zero, List.getElem?_cons_succ, List.set_cons_zero, List.set_cons_succ, List.length_cons, List.length_nil, Option.toList_some, Option.toList_none, List.cons_append, List.nil_append, Nat.zero_add, Nat.add_zero, List.map_nil, List.sum_nil, List.map_cons, List.sum_cons, Nat.zero_le, hs_set1, f0]
  have k0' := k0.upd (.inr (3, [.int 0, .null, .null, .null, .null, .null, .null]))
  refine ⟨by decide, by decide, fun q1 hq1 => ?_⟩
  refine hl_callI B (As := [.int _]) (ct_X6_init (N := 10) hq1 (by decide)) mtX6_init rfl (hl_dec okX1_init 9 rfl) (kk := 86) (by decide +kernel) rfl rfl (Nat.le_of_ble_eq_true rfl) (by decide) (by decide) (by decide) (by decide) rfl (fun r9 g1 hQ1 => ?_)
  obtain ⟨rfl, a1, z1⟩ := hQ1
  have k1 : hl_K h [(r, .inr (3, [.int 0, .null, .null, .null, .null, .null, .null])), (q1, .inr (8, [.ref a1])), (a1, .inl (10, .inr (.inl (fun _ => 0))))] g1 := k0'.app z1
  have f1 := k1.hd
  refine hl_seg B okX1_init (fun _ => rfl) 10 33 rfl ?_
  simp only [pX1_init, List.drop_zero, List.drop_succ_cons, hl_wp, hs_ii, hs_i1, hs_ll, hs_l1, hs_ff, hs_g1, hs_dd, hs_d1, hs_r1, hs_rv, hs_rv0, hs_n1, hs_n0, hs_v1i, hs_v1r, hs_a1, hs_d2l, hs_d2i, hs_ri, hs_rl, hs_rg, hs_rd8, hs_rr, hs_rn, hs_ov, hs_gf, hs_po, hs_pfi, hs_pfr, hs_ia, hs_la, hs_da, hs_qa, hs_al, hs_is, hs_ls, hs_ds, hs_iso, hs_lso, hs_dso, hs_rd, hs_f1, hs_f10, hs_f2, hs_f20, hs_in0, hs_in1, hs_lt, hs_le, hs_ge, hs_gt, hs_eq, hs_10, hs_00, hs_01, true_and, and_true, true_imp_iff, false_imp_iff, not_true_eq_false, not_false_eq_true, hs_av, hs_ai, hs_ar, hs_an, hs_aj, hs_ci, hs_cr, hs_cn, hs_cj, hs_cd, hs_cf, hs_q0, hs_q1, reduceIte, Nat.reduceEqDiff, Nat.reduceAdd, Nat.reduceLT, eq_self, List.getElem?_cons_zero, List.getElem?_cons_succ, List.set_cons_zero, List.set_cons_succ, List.length_cons, List.length_nil, Option.toList_some, Option.toList_none, List.cons_append, List.nil_append, Nat.zero_add, Nat.add_zero, List.map_nil, List.sum_nil, List.map_cons, List.sum_cons, Nat.zero_le, hs_set1, f1]
  have k1' := k1.upd (.inr (3, [.int 0, .ref q1, .null, .null, .null, .null, .null]))
  refine ⟨by decide, by decide, fun q2 hq2 => ?_⟩
  refine hl_callI B (As := [.int _]) (ct_X6_init (N := 10) hq2 (by decide)) mtX6_init rfl (hl_dec okX1_init 15 rfl) (kk := 86) (by decide +kernel) rfl rfl (Nat.le_of_ble_eq_true rfl) (by decide) (by decide) (by decide) (by decide) rfl (fun r9 g2 hQ2 => ?_)
  obtain ⟨rfl, a2, z2⟩ := hQ2
  have k2 : hl_K h [(r, .inr (3, [.int 0, .ref q1, .null, .null, .null, .null, .null])), (q1, .inr (8, [.ref a1])), (a1, .inl (10, .inr (.inl (fun _ => 0)))), (q2, .inr (8, [.ref a2])), (a2, .inl (10, .inr (.inl (fun _ => 0))))] g2 := k1'.app z2
  have f2 := k2.hd
  refine hl_seg B okX1_init (fun _ => rfl) 16 27 rfl ?_
  simp only [pX1_init, List.drop_zero, List.drop_succ_cons, hl_wp, hs_ii, hs_i1, hs_ll, hs_l1, hs_ff, hs_g1, hs_dd, hs_d1, hs_r1, hs_rv, hs_rv0, hs_n1, hs_n0, hs_v1i, hs_v1r, hs_a1, hs_d2l, hs_d2i, hs_ri, hs_rl, hs_rg, hs_rd8, hs_rr, hs_rn, hs_ov, hs_gf, hs_po, hs_pfi, hs_pfr, hs_ia, hs_la, hs_da, hs_qa, hs_al, hs_is, hs_ls, hs_ds, hs_iso, hs_lso, hs_dso, hs_rd, hs_f1, hs_f10, hs_f2, hs_f20, hs_in0, hs_in1, hs_lt, hs_le, hs_ge, hs_gt, hs_eq, hs_10, hs_00, hs_01, true_and, and_true, true_imp_iff, false_imp_iff, not_true_eq_false, not_false_eq_true, hs_av, hs_ai, hs_ar, hs_an, hs_aj, hs_ci, hs_cr, hs_cn, hs_cj, hs_cd, hs_cf, hs_q0, hs_q1, reduceIte, Nat.reduceEqDiff, Nat.reduceAdd, Nat.reduceLT, eq_self, List.getElem?_cons_zero, List.getElem?_cons_succ, List.set_cons_zero, List.set_cons_succ, List.length_cons, List.length_nil, Option.toList_some, Option.toList_none, List.cons_append, List.nil_append, Nat.zero_add, Nat.add_zero, List.map_nil, List.sum_nil, List.map_cons, List.sum_cons, Nat.zero_le, hs_set1, f2]
  have k2' := k2.upd (.inr (3, [.int 0, .ref q1, .ref q2, .null, .null, .null, .null]))
  refine ⟨by decide, by decide, fun q3 hq3 => ?_⟩
  refine hl_callI B (As := [.int _]) (ct_X6_init (N := 10) hq3 (by decide)) mtX6_init rfl (hl_dec okX1_init 21 rfl) (kk := 86) (by decide +kernel) rfl rfl (Nat.le_of_ble_eq_true rfl) (by decide) (by decide) (by decide) (by decide) rfl (fun r9 g3 hQ3 => ?_)
  obtain ⟨rfl, a3, z3⟩ := hQ3
  have k3 : hl_K h [(r, .inr (3, [.int 0, .ref q1, .ref q2, .null, .null, .null, .null])), (q1, .inr (8, [.ref a1])), (a1, .inl (10, .inr (.inl (fun _ => 0)))), (q2, .inr (8, [.ref a2])), (a2, .inl (10, .inr (.inl (fun _ => 0)))), (q3, .inr (8, [.ref a3])), (a3, .inl (10, .inr (.inl (fun _ => 0))))] g3 := k2'.app z3
  have f3 := k3.hd
  refine hl_seg B okX1_init (fun _ => rfl) 22 21 rfl ?_
  simp only [pX1_init, List.drop_zero, List.drop_succ_cons, hl_wp, hs_ii, hs_i1, hs_ll, hs_l1, hs_ff, hs_g1, hs_dd, hs_d1, hs_r1, hs_rv, hs_rv0, hs_n1, hs_n0, hs_v1i, hs_v1r, hs_a1, hs_d2l, hs_d2i, hs_ri, hs_rl, hs_rg, hs_rd8, hs_rr, hs_rn, hs_ov, hs_gf, hs_po, hs_pfi, hs_pfr, hs_ia, hs_la, hs_da, hs_qa, hs_al, hs_is, hs_ls, hs_ds, hs_iso, hs_lso, hs_dso, hs_rd, hs_f1, hs_f10, hs_f2, hs_f20, hs_in0, hs_in1, hs_lt, hs_le, hs_ge, hs_gt, hs_eq, hs_10, hs_00, hs_01, true_and, and_true, true_imp_iff, false_imp_iff, not_true_eq_false, not_false_eq_true, hs_av, hs_ai, hs_ar, hs_an, hs_aj, hs_ci, hs_cr, hs_cn, hs_cj, hs_cd, hs_cf, hs_q0, hs_q1, reduceIte, Nat.reduceEqDiff, Nat.reduceAdd, Nat.reduceLT, eq_self, List.getElem?_cons_zero, List.getElem?_cons_succ, List.set_cons_zero, List.set_cons_succ, List.length_cons, List.length_nil, Option.toList_some, Option.toList_none, List.cons_append, List.nil_append, Nat.zero_add, Nat.add_zero, List.map_nil, List.sum_nil, List.map_cons, List.sum_cons, Nat.zero_le, hs_set1, f3]
  have k3' := k3.upd (.inr (3, [.int 0, .ref q1, .ref q2, .ref q3, .null, .null, .null]))
  refine ⟨by decide, by decide, fun q4 hq4 => ?_⟩
  refine hl_callI B (As := [.int _]) (ct_X6_init (N := 4) hq4 (by decide)) mtX6_init rfl (hl_dec okX1_init 27 rfl) (kk := 86) (by decide +kernel) rfl rfl (Nat.le_of_ble_eq_true rfl) (by decide) (by decide) (by decide) (by decide) rfl (fun r9 g4 hQ4 => ?_)
  obtain ⟨rfl, a4, z4⟩ := hQ4
  have k4 : hl_K h [(r, .inr (3, [.int 0, .ref q1, .ref q2, .ref q3, .null, .null, .null])), (q1, .inr (8, [.ref a1])), (a1, .inl (10, .inr (.inl (fun _ => 0)))), (q2, .inr (8, [.ref a2])), (a2, .inl (10, .inr (.inl (fun _ => 0)))), (q3, .inr (8, [.ref a3])), (a3, .inl (10, .inr (.inl (fun _ => 0)))), (q4, .inr (8, [.ref a4])), (a4, .inl (4, .inr (.inl (fun _ => 0))))] g4 := k3'.app z4
  have f4 := k4.hd
  refine hl_seg B okX1_init (fun _ => rfl) 28 15 rfl ?_
  simp only [pX1_init, List.drop_zero, List.drop_succ_cons, hl_wp, hs_ii, hs_i1, hs_ll, hs_l1, hs_ff, hs_g1, hs_dd, hs_d1, hs_r1, hs_rv, hs_rv0, hs_n1, hs_n0, hs_v1i, hs_v1r, hs_a1, hs_d2l, hs_d2i, hs_ri, hs_rl, hs_rg, hs_rd8, hs_rr, hs_rn, hs_ov, hs_gf, hs_po, hs_pfi, hs_pfr, hs_ia, hs_la, hs_da, hs_qa, hs_al, hs_is, hs_ls, hs_ds, hs_iso, hs_lso, hs_dso, hs_rd, hs_f1, hs_f10, hs_f2, hs_f20, hs_in0, hs_in1, hs_lt, hs_le, hs_ge, hs_gt, hs_eq, hs_10, hs_00, hs_01, true_and, and_true, true_imp_iff, false_imp_iff, not_true_eq_false, not_false_eq_true, hs_av, hs_ai, hs_ar, hs_an, hs_aj, hs_ci, hs_cr, hs_cn, hs_cj, hs_cd, hs_cf, hs_q0, hs_q1, reduceIte, Nat.reduceEqDiff, Nat.reduceAdd, Nat.reduceLT, eq_self, List.getElem?_cons_zero, List.getElem?_cons_succ, List.set_cons_zero, List.set_cons_succ, List.length_cons, List.length_nil, Option.toList_some, Option.toList_none, List.cons_append, List.nil_append, Nat.zero_add, Nat.add_zero, List.map_nil, List.sum_nil, List.map_cons, List.sum_cons, Nat.zero_le, hs_set1, f4]
  have k4' := k4.upd (.inr (3, [.int 0, .ref q1, .ref q2, .ref q3, .ref q4, .null, .null]))
  refine ⟨by decide, by decide, fun q5 hq5 => ?_⟩
  refine hl_callI B (As := [.int _]) (ct_X6_init (N := 4) hq5 (by decide)) mtX6_init rfl (hl_dec okX1_init 33 rfl) (kk := 86) (by decide +kernel) rfl rfl (Nat.le_of_ble_eq_true rfl) (by decide) (by decide) (by decide) (by decide) rfl (fun r9 g5 hQ5 => ?_)
  obtain ⟨rfl, a5, z5⟩ := hQ5
  have k5 : hl_K h [(r, .inr (3, [.int 0, .ref q1, .ref q2, .ref q3, .ref q4, .null, .null])), (q1, .inr (8, [.ref a1])), (a1, .inl (10, .inr (.inl (fun _ => 0)))), (q2, .inr (8, [.ref a2])), (a2, .inl (10, .inr (.inl (fun _ => 0)))), (q3, .inr (8, [.ref a3])), (a3, .inl (10, .inr (.inl (fun _ => 0)))), (q4, .inr (8, [.ref a4])), (a4, .inl (4, .inr (.inl (fun _ => 0)))), (q5, .inr (8, [.ref a5])), (a5, .inl (4, .inr (.inl (fun _ => 0))))] g5 := k4'.app z5
  have f5 := k5.hd
  refine hl_seg B okX1_init (fun _ => rfl) 34 9 rfl ?_
  simp only [pX1_init, List.drop_zero, List.drop_succ_cons, hl_wp, hs_ii, hs_i1, hs_ll, hs_l1, hs_ff, hs_g1, hs_dd, hs_d1, hs_r1, hs_rv, hs_rv0, hs_n1, hs_n0, hs_v1i, hs_v1r, hs_a1, hs_d2l, hs_d2i, hs_ri, hs_rl, hs_rg, hs_rd8, hs_rr, hs_rn, hs_ov, hs_gf, hs_po, hs_pfi, hs_pfr, hs_ia, hs_la, hs_da, hs_qa, hs_al, hs_is, hs_ls, hs_ds, hs_iso, hs_lso, hs_dso, hs_rd, hs_f1, hs_f10, hs_f2, hs_f20, hs_in0, hs_in1, hs_lt, hs_le, hs_ge, hs_gt, hs_eq, hs_10, hs_00, hs_01, true_and, and_true, true_imp_iff, false_imp_iff, not_true_eq_false, not_false_eq_true, hs_av, hs_ai, hs_ar, hs_an, hs_aj, hs_ci, hs_cr, hs_cn, hs_cj, hs_cd, hs_cf, hs_q0, hs_q1, reduceIte, Nat.reduceEqDiff, Nat.reduceAdd, Nat.reduceLT, eq_self, List.getElem?_cons_zero, List.getElem?_cons_succ, List.set_cons_zero, List.set_cons_succ, List.length_cons, List.length_nil, Option.toList_some, Option.toList_none, List.cons_append, List.nil_append, Nat.zero_add, Nat.add_zero, List.map_nil, List.sum_nil, List.map_cons, List.sum_cons, Nat.zero_le, hs_set1, f5]
  have k5' := k5.upd (.inr (3, [.int 0, .ref q1, .ref q2, .ref q3, .ref q4, .ref q5, .null]))
  refine ⟨by decide, by decide, fun q6 hq6 => ?_⟩
  refine hl_callI B (As := [.int _]) (ct_X6_init (N := 4) hq6 (by decide)) mtX6_init rfl (hl_dec okX1_init 39 rfl) (kk := 86) (by decide +kernel) rfl rfl (Nat.le_of_ble_eq_true rfl) (by decide) (by decide) (by decide) (by decide) rfl (fun r9 g6 hQ6 => ?_)
  obtain ⟨rfl, a6, z6⟩ := hQ6
  have k6 : hl_K h [(r, .inr (3, [.int 0, .ref q1, .ref q2, .ref q3, .ref q4, .ref q5, .null])), (q1, .inr (8, [.ref a1])), (a1, .inl (10, .inr (.inl (fun _ => 0)))), (q2, .inr (8, [.ref a2])), (a2, .inl (10, .inr (.inl (fun _ => 0)))), (q3, .inr (8, [.ref a3])), (a3, .inl (10, .inr (.inl (fun _ => 0)))), (q4, .inr (8, [.ref a4])), (a4, .inl (4, .inr (.inl (fun _ => 0)))), (q5, .inr (8, [.ref a5])), (a5, .inl (4, .inr (.inl (fun _ => 0)))), (q6, .inr (8, [.ref a6])), (a6, .inl (4, .inr (.inl (fun _ => 0))))] g6 := k5'.app z6
  have f6 := k6.hd
  refine hl_seg B okX1_init (fun _ => rfl) 40 3 rfl ?_
  simp only [pX1_init, List.drop_zero, List.drop_succ_cons, hl_wp, hs_ii, hs_i1, hs_ll, hs_l1, hs_ff, hs_g1, hs_dd, hs_d1, hs_r1, hs_rv, hs_rv0, hs_n1, hs_n0, hs_v1i, hs_v1r, hs_a1, hs_d2l, hs_d2i, hs_ri, hs_rl, hs_rg, hs_rd8, hs_rr, hs_rn, hs_ov, hs_gf, hs_po, hs_pfi, hs_pfr, hs_ia, hs_la, hs_da, hs_qa, hs_al, hs_is, hs_ls, hs_ds, hs_iso, hs_lso, hs_dso, hs_rd, hs_f1, hs_f10, hs_f2, hs_f20, hs_in0, hs_in1, hs_lt, hs_le, hs_ge, hs_gt, hs_eq, hs_10, hs_00, hs_01, true_and, and_true, true_imp_iff, false_imp_iff, not_true_eq_false, not_false_eq_true, hs_av, hs_ai, hs_ar, hs_an, hs_aj, hs_ci, hs_cr, hs_cn, hs_cj, hs_cd, hs_cf, hs_q0, hs_q1, reduceIte, Nat.reduceEqDiff, Nat.reduceAdd, Nat.reduceLT, eq_self, List.getElem?_cons_zero, List.getElem?_cons_succ, List.set_cons_zero, List.set_cons_succ, List.length_cons, List.length_nil, Option.toList_some, Option.toList_none, List.cons_append, List.nil_append, Nat.zero_add, Nat.add_zero, List.map_nil, List.sum_nil, List.map_cons, List.sum_cons, Nat.zero_le, hs_set1, f6]
  have k6' := k6.upd (.inr (3, [.int 0, .ref q1, .ref q2, .ref q3, .ref q4, .ref q5, .ref q6]))
  have loop : ∀ (k9 i : Nat) (g9 : hl_H), i + k9 = 4 → hl_K h [(r, .inr (3, [.int 0, .ref q1, .ref q2, .ref q3, .ref q4, .ref q5, .ref q6])), (q1, .inr (8, [.ref a1])), (a1, .inl (10, .inr (.inl (fun _ => 0)))), (q2, .inr (8, [.ref a2])), (a2, .inl (10, .inr (.inl (fun _ => 0)))), (q3, .inr (8, [.ref a3])), (a3, .inl (10, .inr (.inl (fun _ => 0)))), (q4, .inr (8, [.ref a4])), (a4, .inl (4, .inr (.inl (fun _ => 0)))), (q5, .inr (8, [.ref a5])), (a5, .inl (4, .inr (.inl (fun _ => 0)))), (q6, .inr (8, [.ref a6])), (a6, .inl (4, .inr (.inl (ls_rt i))))] g9 → hl_GM G mX1_init 1 12 48 (fun r9 g => r9 = none ∧ ∃ q1 a1 q2 a2 q3 a3 q4 a4 q5 a5 q6 a6, hl_K h [(r, .inr (3, [.int 0, .ref q1, .ref q2, .ref q3, .ref q4, .ref q5, .ref q6])), (q1, .inr (8, [.ref a1])), (a1, .inl (10, .inr (.inl (fun _ => 0)))), (q2, .inr (8, [.ref a2])), (a2, .inl (10, .inr (.inl (fun _ => 0)))), (q3, .inr (8, [.ref a3])), (a3, .inl (10, .inr (.inl (fun _ => 0)))), (q4, .inr (8, [.ref a4])), (a4, .inl (4, .inr (.inl (fun _ => 0)))), (q5, .inr (8, [.ref a5])), (a5, .inl (4, .inr (.inl (fun _ => 0)))), (q6, .inr (8, [.ref a6])), (a6, .inl (4, .inr (.inl (ls_rt 4))))] g) (fun _ _ => False) p l e s m args below meth c 86 [(0, .ref r), (1, .int (nI i))] [] g9 12 48 := by
    intro k9
    induction k9 with
    | zero =>
      intro i g9 hi kk
      have hle : (4 : Int32) ≤ nI i := nI_le (a := 4) (by omega) (by omega)
      have hi4 : i = 4 := by omega
      subst hi4
      refine hl_seg B okX1_init (fun _ => rfl) 43 1000 rfl ?_
      simp only [pX1_init, List.drop_zero, List.drop_succ_cons, hl_wp, hs_ii, hs_i1, hs_ll, hs_l1, hs_ff, hs_g1, hs_dd, hs_d1, hs_r1, hs_rv, hs_rv0, hs_n1, hs_n0, hs_v1i, hs_v1r, hs_a1, hs_d2l, hs_d2i, hs_ri, hs_rl, hs_rg, hs_rd8, hs_rr, hs_rn, hs_ov, hs_gf, hs_po, hs_pfi, hs_pfr, hs_ia, hs_la, hs_da, hs_qa, hs_al, hs_is, hs_ls, hs_ds, hs_iso, hs_lso, hs_dso, hs_rd, hs_f1, hs_f10, hs_f2, hs_f20, hs_in0, hs_in1, hs_lt, hs_le, hs_ge, hs_gt, hs_eq, hs_10, hs_00, hs_01, true_and, and_true, true_imp_iff, false_imp_iff, not_true_eq_false, not_false_eq_true, hs_av, hs_ai, hs_ar, hs_an, hs_aj, hs_ci, hs_cr, hs_cn, hs_cj, hs_cd, hs_cf, hs_q0, hs_q1, reduceIte, Nat.reduceEqDiff, Nat.reduceAdd, Nat.reduceLT, eq_self, List.getElem?_cons_zero, List.getElem?_cons_succ, List.set_cons_zero, List.set_cons_succ, List.length_cons, List.length_nil, Option.toList_some, Option.toList_none, List.cons_append, List.nil_append, Nat.zero_add, Nat.add_zero, List.map_nil, List.sum_nil, List.map_cons, List.sum_cons, Nat.zero_le, hs_set1, hle]
      exact hl_vret B rfl (hl_dec okX1_init 53 rfl) (by decide) (by decide) ⟨rfl, q1, a1, q2, a2, q3, a3, q4, a4, q5, a5, q6, a6, kk⟩
    | succ k9 ih =>
      intro i g9 hi kk
      have hlt : ¬ (4 : Int32) ≤ nI i := nI_ge (b := 4) (by omega) (by omega)
      have f := kk.hd
      refine hl_seg B okX1_init (fun _ => rfl) 43 1000 rfl ?_
      simp only [pX1_init, List.drop_zero, List.drop_succ_cons, hl_wp, hs_ii, hs_i1, hs_ll, hs_l1, hs_ff, hs_g1, hs_dd, hs_d1, hs_r1, hs_rv, hs_rv0, hs_n1, hs_n0, hs_v1i, hs_v1r, hs_a1, hs_d2l, hs_d2i, hs_ri, hs_rl, hs_rg, hs_rd8, hs_rr, hs_rn, hs_ov, hs_gf, hs_po, hs_pfi, hs_pfr, hs_ia, hs_la, hs_da, hs_qa, hs_al, hs_is, hs_ls, hs_ds, hs_iso, hs_lso, hs_dso, hs_rd, hs_f1, hs_f10, hs_f2, hs_f20, hs_in0, hs_in1, hs_lt, hs_le, hs_ge, hs_gt, hs_eq, hs_10, hs_00, hs_01, true_and, and_true, true_imp_iff, false_imp_iff, not_true_eq_false, not_false_eq_true, hs_av, hs_ai, hs_ar, hs_an, hs_aj, hs_ci, hs_cr, hs_cn, hs_cj, hs_cd, hs_cf, hs_q0, hs_q1, reduceIte, Nat.reduceEqDiff, Nat.reduceAdd, Nat.reduceLT, eq_self, List.getElem?_cons_zero, List.getElem?_cons_succ, List.set_cons_zero, List.set_cons_succ, List.length_cons, List.length_nil, Option.toList_some, Option.toList_none, List.cons_append, List.nil_append, Nat.zero_add, Nat.add_zero, List.map_nil, List.sum_nil, List.map_cons, List.sum_cons, Nat.zero_le, hs_set1, hlt, f]
      have h1 : g9 q6 = some (.inr (8, [.ref a6])) := kk.get (i := 11) rfl
      have h2 : g9 a6 = some (.inl (4, .inr (.inl (ls_rt i)))) := kk.get (i := 12) rfl
      refine hl_callV B (As := [.int _, .long _]) (ct_X6_put (i := nI i) (v := 1000) h1 h2 (by decide)) mtX6_put (hl_dec okX1_init 50 rfl) (kk := 96) (by decide +kernel) rfl rfl h1 rfl (Nat.le_of_ble_eq_true rfl) (by decide) (by decide) (by decide) (by decide) rfl (fun r9 h9 hq => ?_) (fun _ _ hx => hx.elim)
      obtain ⟨rfl, rfl⟩ := hq
      refine hl_seg B okX1_init (fun _ => rfl) 51 1000 rfl ?_
      simp only [pX1_init, List.drop_zero, List.drop_succ_cons, hl_wp, hs_ii, hs_i1, hs_ll, hs_l1, hs_ff, hs_g1, hs_dd, hs_d1, hs_r1, hs_rv, hs_rv0, hs_n1, hs_n0, hs_v1i, hs_v1r, hs_a1, hs_d2l, hs_d2i, hs_ri, hs_rl, hs_rg, hs_rd8, hs_rr, hs_rn, hs_ov, hs_gf, hs_po, hs_pfi, hs_pfr, hs_ia, hs_la, hs_da, hs_qa, hs_al, hs_is, hs_ls, hs_ds, hs_iso, hs_lso, hs_dso, hs_rd, hs_f1, hs_f10, hs_f2, hs_f20, hs_in0, hs_in1, hs_lt, hs_le, hs_ge, hs_gt, hs_eq, hs_10, hs_00, hs_01, true_and, and_true, true_imp_iff, false_imp_iff, not_true_eq_false, not_false_eq_true, hs_av, hs_ai, hs_ar, hs_an, hs_aj, hs_ci, hs_cr, hs_cn, hs_cj, hs_cd, hs_cf, hs_q0, hs_q1, reduceIte, Nat.reduceEqDiff, Nat.reduceAdd, Nat.reduceLT, eq_self, List.getElem?_cons_zero, List.getElem?_cons_succ, List.set_cons_zero, List.set_cons_succ, List.length_cons, List.length_nil, Option.toList_some, Option.toList_none, List.cons_append, List.nil_append, Nat.zero_add, Nat.add_zero, List.map_nil, List.sum_nil, List.map_cons, List.sum_cons, Nat.zero_le, hs_set1]
      have hcs : nI i + 1 = nI (i + 1) := nI_1 i
      simp only [hcs]
      exact ih (i + 1) _ (by omega) (hl_K.mid (L1 := [(r, .inr (3, [.int 0, .ref q1, .ref q2, .ref q3, .ref q4, .ref q5, .ref q6])), (q1, .inr (8, [.ref a1])), (a1, .inl (10, .inr (.inl (fun _ => 0)))), (q2, .inr (8, [.ref a2])), (a2, .inl (10, .inr (.inl (fun _ => 0)))), (q3, .inr (8, [.ref a3])), (a3, .inl (10, .inr (.inl (fun _ => 0)))), (q4, .inr (8, [.ref a4])), (a4, .inl (4, .inr (.inl (fun _ => 0)))), (q5, .inr (8, [.ref a5])), (a5, .inl (4, .inr (.inl (fun _ => 0)))), (q6, .inr (8, [.ref a6]))]) (L2 := []) kk (.inl (4, .inr (.inl (ls_rt (i + 1))))))
  have e1 := loop 4 0 _ rfl k6'
  simp only [nI_0] at e1
  exact e1
set_option maxRecDepth 20000 in
set_option maxHeartbeats 2000000 in
theorem ct_X5_init {G : hl_G} {l : Launch} {h : hl_H} {r : Nat} (hr : h r = none) :
    hl_Ct G l mX5_init 0 1 180 [.ref r] (fun g => g = hl_set h r (.inr (7, hl_new 7))) (fun r9 g => r9 = none ∧ ∃ q, hl_K h [(r, .inr (7, [.int 0, .ref q])), (q, .inl (180, .inr (.inr (.inr (.inr (fun _ => none))))))] g) (fun _ _ => False) := by
  refine hl_body (by decide +kernel) (Nat.le_of_ble_eq_true rfl) ?_
  intro p e s m args below meth c B g hg
  subst hg
  have k0 : hl_K h [(r, .inr (7, [.int 0, .null]))] (hl_set h r (.inr (7, [.int 0, .null]))) := hl_K.one hr _
  change hl_GM G mX5_init 0 1 180 _ _ p l e s m args below meth c 0 [(0, .ref r)] [] (hl_set h r (.inr (7, [.int 0, .null]))) 0 0
  generalize hl_set h r (.inr (7, [.int 0, .null])) = g0 at k0
  have f0 := k0.hd
  refine hl_seg B okX5_init (fun _ => rfl) 0 1000 rfl ?_
  simp only [pX5_init, List.drop_zero, List.drop_succ_cons, hl_wp, hs_ii, hs_i1, hs_ll, hs_l1, hs_ff, hs_g1, hs_dd, hs_d1, hs_r1, hs_rv, hs_rv0, hs_n1, hs_n0, hs_v1i, hs_v1r, hs_a1, hs_d2l, hs_d2i, hs_ri, hs_rl, hs_rg, hs_rd8, hs_rr, hs_rn, hs_ov, hs_gf, hs_po, hs_pfi, hs_pfr, hs_ia, hs_la, hs_da, hs_qa, hs_al, hs_is, hs_ls, hs_ds, hs_iso, hs_lso, hs_dso, hs_rd, hs_f1, hs_f10, hs_f2, hs_f20, hs_in0, hs_in1, hs_lt, hs_le, hs_ge, hs_gt, hs_eq, hs_10, hs_00, hs_01, true_and, and_true, true_imp_iff, false_imp_iff, not_true_eq_false, not_false_eq_true, hs_av, hs_ai, hs_ar, hs_an, hs_aj, hs_ci, hs_cr, hs_cn, hs_cj, hs_cd, hs_cf, hs_q0, hs_q1, reduceIte, Nat.reduceEqDiff, Nat.reduceAdd, Nat.reduceLT, eq_self, List.getElem?_cons_zero, List.getElem?_cons_succ, List.set_cons_zero, List.set_cons_succ, List.length_cons, List.length_nil, Option.toList_some, Option.toList_none, List.cons_append, List.nil_append, Nat.zero_add, Nat.add_zero, List.map_nil, List.sum_nil, List.map_cons, List.sum_cons, Nat.zero_le, hs_set1, f0]
  refine hl_newQ B (hl_dec okX5_init 7 rfl) (kk := 233) (by decide +kernel) (by decide) (N' := 180) (by decide) (by decide) (by decide) (by decide) (fun q hq => ?_)
  have k1 := (k0.upd (.inr (7, [.int 0, .null]))).new hq (.inl (180, .inr (.inr (.inr (.inr (fun _ => none))))))
  have f1 := k1.hd
  generalize hl_set (hl_set g0 r (.inr (7, [.int 0, .null]))) q (.inl (180, .inr (.inr (.inr (.inr (fun _ => none)))))) = g1 at k1 f1
  refine hl_seg B okX5_init (fun _ => rfl) 8 1000 rfl ?_
  simp only [pX5_init, List.drop_zero, List.drop_succ_cons, hl_wp, hs_ii, hs_i1, hs_ll, hs_l1, hs_ff, hs_g1, hs_dd, hs_d1, hs_r1, hs_rv, hs_rv0, hs_n1, hs_n0, hs_v1i, hs_v1r, hs_a1, hs_d2l, hs_d2i, hs_ri, hs_rl, hs_rg, hs_rd8, hs_rr, hs_rn, hs_ov, hs_gf, hs_po, hs_pfi, hs_pfr, hs_ia, hs_la, hs_da, hs_qa, hs_al, hs_is, hs_ls, hs_ds, hs_iso, hs_lso, hs_dso, hs_rd, hs_f1, hs_f10, hs_f2, hs_f20, hs_in0, hs_in1, hs_lt, hs_le, hs_ge, hs_gt, hs_eq, hs_10, hs_00, hs_01, true_and, and_true, true_imp_iff, false_imp_iff, not_true_eq_false, not_false_eq_true, hs_av, hs_ai, hs_ar, hs_an, hs_aj, hs_ci, hs_cr, hs_cn, hs_cj, hs_cd, hs_cf, hs_q0, hs_q1, reduceIte, Nat.reduceEqDiff, Nat.reduceAdd, Nat.reduceLT, eq_self, List.getElem?_cons_zero, List.getElem?_cons_succ, List.set_cons_zero, List.set_cons_succ, List.length_cons, List.length_nil, Option.toList_some, Option.toList_none, List.cons_append, List.nil_append, Nat.zero_add, Nat.add_zero, List.map_nil, List.sum_nil, List.map_cons, List.sum_cons, Nat.zero_le, hs_set1, f1]
  exact hl_vret B rfl (hl_dec okX5_init 9 rfl) (by decide) (by decide) ⟨rfl, q, k1.upd _⟩
def ls_0 : LSt := (fun k => if k = 5 then ls_rt 4 else fun _ => 0, fun _ => 0, fun _ _ => 0)
def ls_pm : List Nat := [0, 1, 14, 29, 40, 47, 48, 2, 4, 6, 8, 10, 12, 15, 17, 19, 21, 23, 25, 27, 30, 32, 34, 36, 38, 41, 43, 45, 49, 3, 5, 7, 9, 11, 13, 16, 18, 20, 22, 24, 26, 28, 31, 33, 35, 37, 39, 42, 44, 46, 50]
def ls_ad (A : List Nat) : Nat → Nat := fun k => A.getD (ls_pm.getD k 0) 0
theorem ls_pm_lt : ∀ i : Fin 51, ls_pm.getD i 0 < 51 := by decide +kernel
theorem ls_pm_inj : ∀ i j : Fin 51, ls_pm.getD i 0 = ls_pm.getD j 0 → i = j := by decide +kernel
theorem ls_ad_mem {A : List Nat} (hl : A.length = 51) {i : Nat} (hi : i < 51) : A[ls_pm.getD i 0]? = some (ls_ad A i) := by
  have h := ls_pm_lt ⟨i, hi⟩
  have h2 : ls_pm.getD i 0 < A.length := by rw [hl]; exact h
  show A[ls_pm.getD i 0]? = some (A.getD (ls_pm.getD i 0) 0)
  generalize ls_pm.getD i 0 = p at h2
  rw [List.getD_eq_getElem?_getD, List.getElem?_eq_getElem h2]
  rfl
theorem ls_ad_inj {A : List Nat} (hl : A.length = 51) (hn : A.Nodup) (i j : Nat) (hi : i < 51) (hj : j < 51) (e : ls_ad A i = ls_ad A j) : i = j := by
  have h1 := ls_ad_mem hl hi
  have h2 := ls_ad_mem hl hj
  rw [e, ← h2] at h1
  have h := (List.getElem?_inj (by rw [hl]; exact ls_pm_lt ⟨i, hi⟩) hn).mp h1
  have := ls_pm_inj ⟨i, hi⟩ ⟨j, hj⟩ h
  exact congrArg Fin.val this
theorem ls_of51 {P : Nat → Prop} (h0 : P 0) (h1 : P 1) (h2 : P 2) (h3 : P 3) (h4 : P 4) (h5 : P 5) (h6 : P 6) (h7 : P 7) (h8 : P 8) (h9 : P 9) (h10 : P 10) (h11 : P 11) (h12 : P 12) (h13 : P 13) (h14 : P 14) (h15 : P 15) (h16 : P 16) (h17 : P 17) (h18 : P 18) (h19 : P 19) (h20 : P 20) (h21 : P 21) (h22 : P 22) (h23 : P 23) (h24 : P 24) (h25 : P 25) (h26 : P 26) (h27 : P 27) (h28 : P 28) (h29 : P 29) (h30 : P 30) (h31 : P 31) (h32 : P 32) (h33 : P 33) (h34 : P 34) (h35 : P 35) (h36 : P 36) (h37 : P 37) (h38 : P 38) (h39 : P 39) (h40 : P 40) (h41 : P 41) (h42 : P 42) (h43 : P 43) (h44 : P 44) (h45 : P 45) (h46 : P 46) (h47 : P 47) (h48 : P 48) (h49 : P 49) (h50 : P 50) : ∀ k : Nat, k < 51 → P k
  | 0, _ => h0
  | 1, _ => h1
  | 2, _ => h2
  | 3, _ => h3
  | 4, _ => h4
  | 5, _ => h5
  | 6, _ => h6
  | 7, _ => h7
  | 8, _ => h8
  | 9, _ => h9
  | 10, _ => h10
  | 11, _ => h11
  | 12, _ => h12
  | 13, _ => h13
  | 14, _ => h14
  | 15, _ => h15
  | 16, _ => h16
  | 17, _ => h17
  | 18, _ => h18
  | 19, _ => h19
  | 20, _ => h20
  | 21, _ => h21
  | 22, _ => h22
  | 23, _ => h23
  | 24, _ => h24
  | 25, _ => h25
  | 26, _ => h26
  | 27, _ => h27
  | 28, _ => h28
  | 29, _ => h29
  | 30, _ => h30
  | 31, _ => h31
  | 32, _ => h32
  | 33, _ => h33
  | 34, _ => h34
  | 35, _ => h35
  | 36, _ => h36
  | 37, _ => h37
  | 38, _ => h38
  | 39, _ => h39
  | 40, _ => h40
  | 41, _ => h41
  | 42, _ => h42
  | 43, _ => h43
  | 44, _ => h44
  | 45, _ => h45
  | 46, _ => h46
  | 47, _ => h47
  | 48, _ => h48
  | 49, _ => h49
  | 50, _ => h50
  | k + 51, h => absurd h (by omega)
set_option maxRecDepth 20000 in
set_option maxHeartbeats 2000000 in
theorem ct_X7_init {G : hl_G} {l : Launch} {h : hl_H} {r : Nat} (hr : h r = none) :
    hl_Ct G l mX7_init 3 50 1517 [.ref r] (fun g => g = hl_set h r (.inr (9, hl_new 9))) (fun r9 g => r9 = none ∧ ∃ a : Nat → Nat, a 0 = r ∧ LSw a (fun _ => 0) ls_0 h g) (fun _ _ => False) := by
  refine hl_body (by decide +kernel) (Nat.le_of_ble_eq_true rfl) ?_
  intro p e s m args below meth c B g hg
  subst hg
  have k0 : hl_K h [(r, .inr (9, [.null, .null, .null, .null, .null, .null, .int 0]))] (hl_set h r (.inr (9, [.null, .null, .null, .null, .null, .null, .int 0]))) := hl_K.one hr _
  change hl_GM G mX7_init 3 50 1517 _ _ p l e s m args below meth c 0 [(0, .ref r)] [] (hl_set h r (.inr (9, [.null, .null, .null, .null, .null, .null, .int 0]))) 0 0
  generalize hl_set h r (.inr (9, [.null, .null, .null, .null, .null, .null, .int 0])) = g0 at k0
  have f0 := k0.hd
  refine hl_seg B okX7_init (fun _ => rfl) 0 1000 rfl ?_
  simp only [pX7_init, List.drop_zero, List.drop_succ_cons, hl_wp, hs_ii, hs_i1, hs_ll, hs_l1, hs_ff, hs_g1, hs_dd, hs_d1, hs_r1, hs_rv, hs_rv0, hs_n1, hs_n0, hs_v1i, hs_v1r, hs_a1, hs_d2l, hs_d2i, hs_ri, hs_rl, hs_rg, hs_rd8, hs_rr, hs_rn, hs_ov, hs_gf, hs_po, hs_pfi, hs_pfr, hs_ia, hs_la, hs_da, hs_qa, hs_al, hs_is, hs_ls, hs_ds, hs_iso, hs_lso, hs_dso, hs_rd, hs_f1, hs_f10, hs_f2, hs_f20, hs_in0, hs_in1, hs_lt, hs_le, hs_ge, hs_gt, hs_eq, hs_10, hs_00, hs_01, true_and, and_true, true_imp_iff, false_imp_iff, not_true_eq_false, not_false_eq_true, hs_av, hs_ai, hs_ar, hs_an, hs_aj, hs_ci, hs_cr, hs_cn, hs_cj, hs_cd, hs_cf, hs_q0, hs_q1, reduceIte, Nat.reduceEqDiff, Nat.reduceAdd, Nat.reduceLT, eq_self, List.getElem?_cons_zero, List.getElem?_cons_succ, List.set_cons_zero, List.set_cons_succ, List.length_cons, List.length_nil, Option.toList_some, Option.toList_none, List.cons_append, List.nil_append, Nat.zero_add, Nat.add_zero, List.map_nil, List.sum_nil, List.map_cons, List.sum_cons, Nat.zero_le, hs_set1, f0]
  have k0' := k0
  refine ⟨by decide, by decide, fun b0 hq => ?_⟩
  refine hl_callI B (As := []) (ct_X1_init hq) mtX1_init rfl (hl_dec okX7_init 5 rfl) (kk := 80) (by decide +kernel) rfl rfl (Nat.le_of_ble_eq_true rfl) (by decide) (by decide) (by decide) (by decide) rfl (fun r9 g1 hQ => ?_)
  obtain ⟨rfl, bq1, ba1, bq2, ba2, bq3, ba3, bq4, ba4, bq5, ba5, bq6, ba6, z1⟩ := hQ
  have k1 : hl_K h [(r, .inr (9, [.null, .null, .null, .null, .null, .null, .int 0])), (b0, .inr (3, [.int 0, .ref bq1, .ref bq2, .ref bq3, .ref bq4, .ref bq5, .ref bq6])), (bq1, .inr (8, [.ref ba1])), (ba1, .inl (10, .inr (.inl (fun _ => 0)))), (bq2, .inr (8, [.ref ba2])), (ba2, .inl (10, .inr (.inl (fun _ => 0)))), (bq3, .inr (8, [.ref ba3])), (ba3, .inl (10, .inr (.inl (fun _ => 0)))), (bq4, .inr (8, [.ref ba4])), (ba4, .inl (4, .inr (.inl (fun _ => 0)))), (bq5, .inr (8, [.ref ba5])), (ba5, .inl (4, .inr (.inl (fun _ => 0)))), (bq6, .inr (8, [.ref ba6])), (ba6, .inl (4, .inr (.inl (ls_rt 4))))] g1 := k0'.app z1
  have f1 := k1.hd
  refine hl_seg B okX7_init (fun _ => rfl) 6 1000 rfl ?_
  simp only [pX7_init, List.drop_zero, List.drop_succ_cons, hl_wp, hs_ii, hs_i1, hs_ll, hs_l1, hs_ff, hs_g1, hs_dd, hs_d1, hs_r1, hs_rv, hs_rv0, hs_n1, hs_n0, hs_v1i, hs_v1r, hs_a1, hs_d2l, hs_d2i, hs_ri, hs_rl, hs_rg, hs_rd8, hs_rr, hs_rn, hs_ov, hs_gf, hs_po, hs_pfi, hs_pfr, hs_ia, hs_la, hs_da, hs_qa, hs_al, hs_is, hs_ls, hs_ds, hs_iso, hs_lso, hs_dso, hs_rd, hs_f1, hs_f10, hs_f2, hs_f20, hs_in0, hs_in1, hs_lt, hs_le, hs_ge, hs_gt, hs_eq, hs_10, hs_00, hs_01, true_and, and_true, true_imp_iff, false_imp_iff, not_true_eq_false, not_false_eq_true, hs_av, hs_ai, hs_ar, hs_an, hs_aj, hs_ci, hs_cr, hs_cn, hs_cj, hs_cd, hs_cf, hs_q0, hs_q1, reduceIte, Nat.reduceEqDiff, Nat.reduceAdd, Nat.reduceLT, eq_self, List.getElem?_cons_zero, List.getElem?_cons_succ, List.set_cons_zero, List.set_cons_succ, List.length_cons, List.length_nil, Option.toList_some, Option.toList_none, List.cons_append, List.nil_append, Nat.zero_add, Nat.add_zero, List.map_nil, List.sum_nil, List.map_cons, List.sum_cons, Nat.zero_le, hs_set1, f1]
  have k1' := k1.upd (.inr (9, [.ref b0, .null, .null, .null, .null, .null, .int 0]))
  refine ⟨by decide, by decide, fun j0 hq => ?_⟩
  refine hl_callIN B (As := []) (ct_X4_init hq) mtX4_init rfl (hl_dec okX7_init 10 rfl) (kk := 131) (by decide +kernel) rfl rfl (Nat.le_of_ble_eq_true rfl) (by decide) (by decide) (by decide) (by decide) rfl (fun r9 g2 hQ => ?_)
  obtain ⟨rfl, jq1, ja1, jq2, ja2, jq3, ja3, jq4, ja4, jq5, ja5, jq6, ja6, jq7, ja7, z2⟩ := hQ
  have k2 : hl_K h [(r, .inr (9, [.ref b0, .null, .null, .null, .null, .null, .int 0])), (b0, .inr (3, [.int 0, .ref bq1, .ref bq2, .ref bq3, .ref bq4, .ref bq5, .ref bq6])), (bq1, .inr (8, [.ref ba1])), (ba1, .inl (10, .inr (.inl (fun _ => 0)))), (bq2, .inr (8, [.ref ba2])), (ba2, .inl (10, .inr (.inl (fun _ => 0)))), (bq3, .inr (8, [.ref ba3])), (ba3, .inl (10, .inr (.inl (fun _ => 0)))), (bq4, .inr (8, [.ref ba4])), (ba4, .inl (4, .inr (.inl (fun _ => 0)))), (bq5, .inr (8, [.ref ba5])), (ba5, .inl (4, .inr (.inl (fun _ => 0)))), (bq6, .inr (8, [.ref ba6])), (ba6, .inl (4, .inr (.inl (ls_rt 4)))), (j0, .inr (6, [.int 0, .ref jq1, .ref jq2, .ref jq3, .ref jq4, .ref jq5, .ref jq6, .ref jq7])), (jq1, .inr (8, [.ref ja1])), (ja1, .inl (150, .inr (.inl (fun _ => 0)))), (jq2, .inr (8, [.ref ja2])), (ja2, .inl (150, .inr (.inl (fun _ => 0)))), (jq3, .inr (8, [.ref ja3])), (ja3, .inl (150, .inr (.inl (fun _ => 0)))), (jq4, .inr (8, [.ref ja4])), (ja4, .inl (150, .inr (.inl (fun _ => 0)))), (jq5, .inr (8, [.ref ja5])), (ja5, .inl (150, .inr (.inl (fun _ => 0)))), (jq6, .inr (8, [.ref ja6])), (ja6, .inl (150, .inr (.inl (fun _ => 0)))), (jq7, .inr (8, [.ref ja7])), (ja7, .inl (150, .inr (.inl (fun _ => 0))))] g2 := k1'.app z2
  have f2 := k2.hd
  refine hl_seg B okX7_init (fun _ => rfl) 11 1000 rfl ?_
  simp only [pX7_init, List.drop_zero, List.drop_succ_cons, hl_wp, hs_ii, hs_i1, hs_ll, hs_l1, hs_ff, hs_g1, hs_dd, hs_d1, hs_r1, hs_rv, hs_rv0, hs_n1, hs_n0, hs_v1i, hs_v1r, hs_a1, hs_d2l, hs_d2i, hs_ri, hs_rl, hs_rg, hs_rd8, hs_rr, hs_rn, hs_ov, hs_gf, hs_po, hs_pfi, hs_pfr, hs_ia, hs_la, hs_da, hs_qa, hs_al, hs_is, hs_ls, hs_ds, hs_iso, hs_lso, hs_dso, hs_rd, hs_f1, hs_f10, hs_f2, hs_f20, hs_in0, hs_in1, hs_lt, hs_le, hs_ge, hs_gt, hs_eq, hs_10, hs_00, hs_01, true_and, and_true, true_imp_iff, false_imp_iff, not_true_eq_false, not_false_eq_true, hs_av, hs_ai, hs_ar, hs_an, hs_aj, hs_ci, hs_cr, hs_cn, hs_cj, hs_cd, hs_cf, hs_q0, hs_q1, reduceIte, Nat.reduceEqDiff, Nat.reduceAdd, Nat.reduceLT, eq_self, List.getElem?_cons_zero, List.getElem?_cons_succ, List.set_cons_zero, List.set_cons_succ, List.length_cons, List.length_nil, Option.toList_some, Option.toList_none, List.cons_append, List.nil_append, Nat.zero_add, Nat.add_zero, List.map_nil, List.sum_nil, List.map_cons, List.sum_cons, Nat.zero_le, hs_set1, f2]
  have k2' := k2.upd (.inr (9, [.ref b0, .ref j0, .null, .null, .null, .null, .int 0]))
  refine ⟨by decide, by decide, fun h0 hq => ?_⟩
  refine hl_callIN B (As := []) (ct_X3_init hq) mtX3_init rfl (hl_dec okX7_init 15 rfl) (kk := 171) (by decide +kernel) rfl rfl (Nat.le_of_ble_eq_true rfl) (by decide) (by decide) (by decide) (by decide) rfl (fun r9 g3 hQ => ?_)
  obtain ⟨rfl, hq1, ha1, hq2, ha2, hq3, ha3, hq4, ha4, hq5, ha5, z3⟩ := hQ
  have k3 : hl_K h [(r, .inr (9, [.ref b0, .ref j0, .null, .null, .null, .null, .int 0])), (b0, .inr (3, [.int 0, .ref bq1, .ref bq2, .ref bq3, .ref bq4, .ref bq5, .ref bq6])), (bq1, .inr (8, [.ref ba1])), (ba1, .inl (10, .inr (.inl (fun _ => 0)))), (bq2, .inr (8, [.ref ba2])), (ba2, .inl (10, .inr (.inl (fun _ => 0)))), (bq3, .inr (8, [.ref ba3])), (ba3, .inl (10, .inr (.inl (fun _ => 0)))), (bq4, .inr (8, [.ref ba4])), (ba4, .inl (4, .inr (.inl (fun _ => 0)))), (bq5, .inr (8, [.ref ba5])), (ba5, .inl (4, .inr (.inl (fun _ => 0)))), (bq6, .inr (8, [.ref ba6])), (ba6, .inl (4, .inr (.inl (ls_rt 4)))), (j0, .inr (6, [.int 0, .ref jq1, .ref jq2, .ref jq3, .ref jq4, .ref jq5, .ref jq6, .ref jq7])), (jq1, .inr (8, [.ref ja1])), (ja1, .inl (150, .inr (.inl (fun _ => 0)))), (jq2, .inr (8, [.ref ja2])), (ja2, .inl (150, .inr (.inl (fun _ => 0)))), (jq3, .inr (8, [.ref ja3])), (ja3, .inl (150, .inr (.inl (fun _ => 0)))), (jq4, .inr (8, [.ref ja4])), (ja4, .inl (150, .inr (.inl (fun _ => 0)))), (jq5, .inr (8, [.ref ja5])), (ja5, .inl (150, .inr (.inl (fun _ => 0)))), (jq6, .inr (8, [.ref ja6])), (ja6, .inl (150, .inr (.inl (fun _ => 0)))), (jq7, .inr (8, [.ref ja7])), (ja7, .inl (150, .inr (.inl (fun _ => 0)))), (h0, .inr (5, [.int 0, .ref hq1, .ref hq2, .ref hq3, .ref hq4, .ref hq5])), (hq1, .inr (8, [.ref ha1])), (ha1, .inl (30, .inr (.inl (fun _ => 0)))), (hq2, .inr (8, [.ref ha2])), (ha2, .inl (30, .inr (.inl (fun _ => 0)))), (hq3, .inr (8, [.ref ha3])), (ha3, .inl (30, .inr (.inl (fun _ => 0)))), (hq4, .inr (8, [.ref ha4])), (ha4, .inl (30, .inr (.inl (fun _ => 0)))), (hq5, .inr (8, [.ref ha5])), (ha5, .inl (30, .inr (.inl (fun _ => 0))))] g3 := k2'.app z3
  have f3 := k3.hd
  refine hl_seg B okX7_init (fun _ => rfl) 16 1000 rfl ?_
  simp only [pX7_init, List.drop_zero, List.drop_succ_cons, hl_wp, hs_ii, hs_i1, hs_ll, hs_l1, hs_ff, hs_g1, hs_dd, hs_d1, hs_r1, hs_rv, hs_rv0, hs_n1, hs_n0, hs_v1i, hs_v1r, hs_a1, hs_d2l, hs_d2i, hs_ri, hs_rl, hs_rg, hs_rd8, hs_rr, hs_rn, hs_ov, hs_gf, hs_po, hs_pfi, hs_pfr, hs_ia, hs_la, hs_da, hs_qa, hs_al, hs_is, hs_ls, hs_ds, hs_iso, hs_lso, hs_dso, hs_rd, hs_f1, hs_f10, hs_f2, hs_f20, hs_in0, hs_in1, hs_lt, hs_le, hs_ge, hs_gt, hs_eq, hs_10, hs_00, hs_01, true_and, and_true, true_imp_iff, false_imp_iff, not_true_eq_false, not_false_eq_true, hs_av, hs_ai, hs_ar, hs_an, hs_aj, hs_ci, hs_cr, hs_cn, hs_cj, hs_cd, hs_cf, hs_q0, hs_q1, reduceIte, Nat.reduceEqDiff, Nat.reduceAdd, Nat.reduceLT, eq_self, List.getElem?_cons_zero, List.getElem?_cons_succ, List.set_cons_zero, List.set_cons_succ, List.length_cons, List.length_nil, Option.toList_some, Option.toList_none, List.cons_append, List.nil_append, Nat.zero_add, Nat.add_zero, List.map_nil, List.sum_nil, List.map_cons, List.sum_cons, Nat.zero_le, hs_set1, f3]
  have k3' := k3.upd (.inr (9, [.ref b0, .ref j0, .ref h0, .null, .null, .null, .int 0]))
  refine ⟨by decide, by decide, fun c0 hq => ?_⟩
  refine hl_callIN B (As := []) (ct_X0_init hq) mtX0_init rfl (hl_dec okX7_init 20 rfl) (kk := 204) (by decide +kernel) rfl rfl (Nat.le_of_ble_eq_true rfl) (by decide) (by decide) (by decide) (by decide) rfl (fun r9 g4 hQ => ?_)
  obtain ⟨rfl, cq1, ca1, cq2, ca2, cq3, ca3, z4⟩ := hQ
  have k4 : hl_K h [(r, .inr (9, [.ref b0, .ref j0, .ref h0, .null, .null, .null, .int 0])), (b0, .inr (3, [.int 0, .ref bq1, .ref bq2, .ref bq3, .ref bq4, .ref bq5, .ref bq6])), (bq1, .inr (8, [.ref ba1])), (ba1, .inl (10, .inr (.inl (fun _ => 0)))), (bq2, .inr (8, [.ref ba2])), (ba2, .inl (10, .inr (.inl (fun _ => 0)))), (bq3, .inr (8, [.ref ba3])), (ba3, .inl (10, .inr (.inl (fun _ => 0)))), (bq4, .inr (8, [.ref ba4])), (ba4, .inl (4, .inr (.inl (fun _ => 0)))), (bq5, .inr (8, [.ref ba5])), (ba5, .inl (4, .inr (.inl (fun _ => 0)))), (bq6, .inr (8, [.ref ba6])), (ba6, .inl (4, .inr (.inl (ls_rt 4)))), (j0, .inr (6, [.int 0, .ref jq1, .ref jq2, .ref jq3, .ref jq4, .ref jq5, .ref jq6, .ref jq7])), (jq1, .inr (8, [.ref ja1])), (ja1, .inl (150, .inr (.inl (fun _ => 0)))), (jq2, .inr (8, [.ref ja2])), (ja2, .inl (150, .inr (.inl (fun _ => 0)))), (jq3, .inr (8, [.ref ja3])), (ja3, .inl (150, .inr (.inl (fun _ => 0)))), (jq4, .inr (8, [.ref ja4])), (ja4, .inl (150, .inr (.inl (fun _ => 0)))), (jq5, .inr (8, [.ref ja5])), (ja5, .inl (150, .inr (.inl (fun _ => 0)))), (jq6, .inr (8, [.ref ja6])), (ja6, .inl (150, .inr (.inl (fun _ => 0)))), (jq7, .inr (8, [.ref ja7])), (ja7, .inl (150, .inr (.inl (fun _ => 0)))), (h0, .inr (5, [.int 0, .ref hq1, .ref hq2, .ref hq3, .ref hq4, .ref hq5])), (hq1, .inr (8, [.ref ha1])), (ha1, .inl (30, .inr (.inl (fun _ => 0)))), (hq2, .inr (8, [.ref ha2])), (ha2, .inl (30, .inr (.inl (fun _ => 0)))), (hq3, .inr (8, [.ref ha3])), (ha3, .inl (30, .inr (.inl (fun _ => 0)))), (hq4, .inr (8, [.ref ha4])), (ha4, .inl (30, .inr (.inl (fun _ => 0)))), (hq5, .inr (8, [.ref ha5])), (ha5, .inl (30, .inr (.inl (fun _ => 0)))), (c0, .inr (2, [.int 0, .ref cq1, .ref cq2, .ref cq3])), (cq1, .inr (8, [.ref ca1])), (ca1, .inl (12, .inr (.inl (fun _ => 0)))), (cq2, .inr (8, [.ref ca2])), (ca2, .inl (12, .inr (.inl (fun _ => 0)))), (cq3, .inr (8, [.ref ca3])), (ca3, .inl (12, .inr (.inl (fun _ => 0))))] g4 := k3'.app z4
  have f4 := k4.hd
  refine hl_seg B okX7_init (fun _ => rfl) 21 1000 rfl ?_
  simp only [pX7_init, List.drop_zero, List.drop_succ_cons, hl_wp, hs_ii, hs_i1, hs_ll, hs_l1, hs_ff, hs_g1, hs_dd, hs_d1, hs_r1, hs_rv, hs_rv0, hs_n1, hs_n0, hs_v1i, hs_v1r, hs_a1, hs_d2l, hs_d2i, hs_ri, hs_rl, hs_rg, hs_rd8, hs_rr, hs_rn, hs_ov, hs_gf, hs_po, hs_pfi, hs_pfr, hs_ia, hs_la, hs_da, hs_qa, hs_al, hs_is, hs_ls, hs_ds, hs_iso, hs_lso, hs_dso, hs_rd, hs_f1, hs_f10, hs_f2, hs_f20, hs_in0, hs_in1, hs_lt, hs_le, hs_ge, hs_gt, hs_eq, hs_10, hs_00, hs_01, true_and, and_true, true_imp_iff, false_imp_iff, not_true_eq_false, not_false_eq_true, hs_av, hs_ai, hs_ar, hs_an, hs_aj, hs_ci, hs_cr, hs_cn, hs_cj, hs_cd, hs_cf, hs_q0, hs_q1, reduceIte, Nat.reduceEqDiff, Nat.reduceAdd, Nat.reduceLT, eq_self, List.getElem?_cons_zero, List.getElem?_cons_succ, List.set_cons_zero, List.set_cons_succ, List.length_cons, List.length_nil, Option.toList_some, Option.toList_none, List.cons_append, List.nil_append, Nat.zero_add, Nat.add_zero, List.map_nil, List.sum_nil, List.map_cons, List.sum_cons, Nat.zero_le, hs_set1, f4]
  have k4' := k4.upd (.inr (9, [.ref b0, .ref j0, .ref h0, .ref c0, .null, .null, .int 0]))
  refine ⟨by decide, by decide, fun m0 hq => ?_⟩
  refine hl_callIN B (As := []) (ct_X5_init hq) mtX5_init rfl (hl_dec okX7_init 25 rfl) (kk := 229) (by decide +kernel) rfl rfl (Nat.le_of_ble_eq_true rfl) (by decide) (by decide) (by decide) (by decide) rfl (fun r9 g5 hQ => ?_)
  obtain ⟨rfl, mq, z5⟩ := hQ
  have k5 : hl_K h [(r, .inr (9, [.ref b0, .ref j0, .ref h0, .ref c0, .null, .null, .int 0])), (b0, .inr (3, [.int 0, .ref bq1, .ref bq2, .ref bq3, .ref bq4, .ref bq5, .ref bq6])), (bq1, .inr (8, [.ref ba1])), (ba1, .inl (10, .inr (.inl (fun _ => 0)))), (bq2, .inr (8, [.ref ba2])), (ba2, .inl (10, .inr (.inl (fun _ => 0)))), (bq3, .inr (8, [.ref ba3])), (ba3, .inl (10, .inr (.inl (fun _ => 0)))), (bq4, .inr (8, [.ref ba4])), (ba4, .inl (4, .inr (.inl (fun _ => 0)))), (bq5, .inr (8, [.ref ba5])), (ba5, .inl (4, .inr (.inl (fun _ => 0)))), (bq6, .inr (8, [.ref ba6])), (ba6, .inl (4, .inr (.inl (ls_rt 4)))), (j0, .inr (6, [.int 0, .ref jq1, .ref jq2, .ref jq3, .ref jq4, .ref jq5, .ref jq6, .ref jq7])), (jq1, .inr (8, [.ref ja1])), (ja1, .inl (150, .inr (.inl (fun _ => 0)))), (jq2, .inr (8, [.ref ja2])), (ja2, .inl (150, .inr (.inl (fun _ => 0)))), (jq3, .inr (8, [.ref ja3])), (ja3, .inl (150, .inr (.inl (fun _ => 0)))), (jq4, .inr (8, [.ref ja4])), (ja4, .inl (150, .inr (.inl (fun _ => 0)))), (jq5, .inr (8, [.ref ja5])), (ja5, .inl (150, .inr (.inl (fun _ => 0)))), (jq6, .inr (8, [.ref ja6])), (ja6, .inl (150, .inr (.inl (fun _ => 0)))), (jq7, .inr (8, [.ref ja7])), (ja7, .inl (150, .inr (.inl (fun _ => 0)))), (h0, .inr (5, [.int 0, .ref hq1, .ref hq2, .ref hq3, .ref hq4, .ref hq5])), (hq1, .inr (8, [.ref ha1])), (ha1, .inl (30, .inr (.inl (fun _ => 0)))), (hq2, .inr (8, [.ref ha2])), (ha2, .inl (30, .inr (.inl (fun _ => 0)))), (hq3, .inr (8, [.ref ha3])), (ha3, .inl (30, .inr (.inl (fun _ => 0)))), (hq4, .inr (8, [.ref ha4])), (ha4, .inl (30, .inr (.inl (fun _ => 0)))), (hq5, .inr (8, [.ref ha5])), (ha5, .inl (30, .inr (.inl (fun _ => 0)))), (c0, .inr (2, [.int 0, .ref cq1, .ref cq2, .ref cq3])), (cq1, .inr (8, [.ref ca1])), (ca1, .inl (12, .inr (.inl (fun _ => 0)))), (cq2, .inr (8, [.ref ca2])), (ca2, .inl (12, .inr (.inl (fun _ => 0)))), (cq3, .inr (8, [.ref ca3])), (ca3, .inl (12, .inr (.inl (fun _ => 0)))), (m0, .inr (7, [.int 0, .ref mq])), (mq, .inl (180, .inr (.inr (.inr (.inr (fun _ => none))))))] g5 := k4'.app z5
  have f5 := k5.hd
  refine hl_seg B okX7_init (fun _ => rfl) 26 1000 rfl ?_
  simp only [pX7_init, List.drop_zero, List.drop_succ_cons, hl_wp, hs_ii, hs_i1, hs_ll, hs_l1, hs_ff, hs_g1, hs_dd, hs_d1, hs_r1, hs_rv, hs_rv0, hs_n1, hs_n0, hs_v1i, hs_v1r, hs_a1, hs_d2l, hs_d2i, hs_ri, hs_rl, hs_rg, hs_rd8, hs_rr, hs_rn, hs_ov, hs_gf, hs_po, hs_pfi, hs_pfr, hs_ia, hs_la, hs_da, hs_qa, hs_al, hs_is, hs_ls, hs_ds, hs_iso, hs_lso, hs_dso, hs_rd, hs_f1, hs_f10, hs_f2, hs_f20, hs_in0, hs_in1, hs_lt, hs_le, hs_ge, hs_gt, hs_eq, hs_10, hs_00, hs_01, true_and, and_true, true_imp_iff, false_imp_iff, not_true_eq_false, not_false_eq_true, hs_av, hs_ai, hs_ar, hs_an, hs_aj, hs_ci, hs_cr, hs_cn, hs_cj, hs_cd, hs_cf, hs_q0, hs_q1, reduceIte, Nat.reduceEqDiff, Nat.reduceAdd, Nat.reduceLT, eq_self, List.getElem?_cons_zero, List.getElem?_cons_succ, List.set_cons_zero, List.set_cons_succ, List.length_cons, List.length_nil, Option.toList_some, Option.toList_none, List.cons_append, List.nil_append, Nat.zero_add, Nat.add_zero, List.map_nil, List.sum_nil, List.map_cons, List.sum_cons, Nat.zero_le, hs_set1, f5]
  have k5' := k5.upd (.inr (9, [.ref b0, .ref j0, .ref h0, .ref c0, .ref m0, .null, .int 0]))
  refine ⟨by decide, by decide, fun s0 hq => ?_⟩
  refine hl_callI B (As := [.int _]) (ct_X6_init (N := 10) hq (by decide)) mtX6_init rfl (hl_dec okX7_init 31 rfl) (kk := 243) (by decide +kernel) rfl rfl (Nat.le_of_ble_eq_true rfl) (by decide) (by decide) (by decide) (by decide) rfl (fun r9 g6 hQ => ?_)
  obtain ⟨rfl, sa, z6⟩ := hQ
  have k6 : hl_K h [(r, .inr (9, [.ref b0, .ref j0, .ref h0, .ref c0, .ref m0, .null, .int 0])), (b0, .inr (3, [.int 0, .ref bq1, .ref bq2, .ref bq3, .ref bq4, .ref bq5, .ref bq6])), (bq1, .inr (8, [.ref ba1])), (ba1, .inl (10, .inr (.inl (fun _ => 0)))), (bq2, .inr (8, [.ref ba2])), (ba2, .inl (10, .inr (.inl (fun _ => 0)))), (bq3, .inr (8, [.ref ba3])), (ba3, .inl (10, .inr (.inl (fun _ => 0)))), (bq4, .inr (8, [.ref ba4])), (ba4, .inl (4, .inr (.inl (fun _ => 0)))), (bq5, .inr (8, [.ref ba5])), (ba5, .inl (4, .inr (.inl (fun _ => 0)))), (bq6, .inr (8, [.ref ba6])), (ba6, .inl (4, .inr (.inl (ls_rt 4)))), (j0, .inr (6, [.int 0, .ref jq1, .ref jq2, .ref jq3, .ref jq4, .ref jq5, .ref jq6, .ref jq7])), (jq1, .inr (8, [.ref ja1])), (ja1, .inl (150, .inr (.inl (fun _ => 0)))), (jq2, .inr (8, [.ref ja2])), (ja2, .inl (150, .inr (.inl (fun _ => 0)))), (jq3, .inr (8, [.ref ja3])), (ja3, .inl (150, .inr (.inl (fun _ => 0)))), (jq4, .inr (8, [.ref ja4])), (ja4, .inl (150, .inr (.inl (fun _ => 0)))), (jq5, .inr (8, [.ref ja5])), (ja5, .inl (150, .inr (.inl (fun _ => 0)))), (jq6, .inr (8, [.ref ja6])), (ja6, .inl (150, .inr (.inl (fun _ => 0)))), (jq7, .inr (8, [.ref ja7])), (ja7, .inl (150, .inr (.inl (fun _ => 0)))), (h0, .inr (5, [.int 0, .ref hq1, .ref hq2, .ref hq3, .ref hq4, .ref hq5])), (hq1, .inr (8, [.ref ha1])), (ha1, .inl (30, .inr (.inl (fun _ => 0)))), (hq2, .inr (8, [.ref ha2])), (ha2, .inl (30, .inr (.inl (fun _ => 0)))), (hq3, .inr (8, [.ref ha3])), (ha3, .inl (30, .inr (.inl (fun _ => 0)))), (hq4, .inr (8, [.ref ha4])), (ha4, .inl (30, .inr (.inl (fun _ => 0)))), (hq5, .inr (8, [.ref ha5])), (ha5, .inl (30, .inr (.inl (fun _ => 0)))), (c0, .inr (2, [.int 0, .ref cq1, .ref cq2, .ref cq3])), (cq1, .inr (8, [.ref ca1])), (ca1, .inl (12, .inr (.inl (fun _ => 0)))), (cq2, .inr (8, [.ref ca2])), (ca2, .inl (12, .inr (.inl (fun _ => 0)))), (cq3, .inr (8, [.ref ca3])), (ca3, .inl (12, .inr (.inl (fun _ => 0)))), (m0, .inr (7, [.int 0, .ref mq])), (mq, .inl (180, .inr (.inr (.inr (.inr (fun _ => none)))))), (s0, .inr (8, [.ref sa])), (sa, .inl (10, .inr (.inl (fun _ => 0))))] g6 := k5'.app z6
  have f6 := k6.hd
  refine hl_seg B okX7_init (fun _ => rfl) 32 1000 rfl ?_
  simp only [pX7_init, List.drop_zero, List.drop_succ_cons, hl_wp, hs_ii, hs_i1, hs_ll, hs_l1, hs_ff, hs_g1, hs_dd, hs_d1, hs_r1, hs_rv, hs_rv0, hs_n1, hs_n0, hs_v1i, hs_v1r, hs_a1, hs_d2l, hs_d2i, hs_ri, hs_rl, hs_rg, hs_rd8, hs_rr, hs_rn, hs_ov, hs_gf, hs_po, hs_pfi, hs_pfr, hs_ia, hs_la, hs_da, hs_qa, hs_al, hs_is, hs_ls, hs_ds, hs_iso, hs_lso, hs_dso, hs_rd, hs_f1, hs_f10, hs_f2, hs_f20, hs_in0, hs_in1, hs_lt, hs_le, hs_ge, hs_gt, hs_eq, hs_10, hs_00, hs_01, true_and, and_true, true_imp_iff, false_imp_iff, not_true_eq_false, not_false_eq_true, hs_av, hs_ai, hs_ar, hs_an, hs_aj, hs_ci, hs_cr, hs_cn, hs_cj, hs_cd, hs_cf, hs_q0, hs_q1, reduceIte, Nat.reduceEqDiff, Nat.reduceAdd, Nat.reduceLT, eq_self, List.getElem?_cons_zero, List.getElem?_cons_succ, List.set_cons_zero, List.set_cons_succ, List.length_cons, List.length_nil, Option.toList_some, Option.toList_none, List.cons_append, List.nil_append, Nat.zero_add, Nat.add_zero, List.map_nil, List.sum_nil, List.map_cons, List.sum_cons, Nat.zero_le, hs_set1, f6, hs_set1, hs_set3]
  have k6' := k6.upd (.inr (9, [.ref b0, .ref j0, .ref h0, .ref c0, .ref m0, .ref s0, .int 0]))
  refine hl_vret B rfl (hl_dec okX7_init 36 rfl) (by decide) (by decide) ⟨rfl, ls_ad (List.map (fun e => e.1) ([(r, .inr (9, [.ref b0, .ref j0, .ref h0, .ref c0, .ref m0, .ref s0, .int 0])), (b0, .inr (3, [.int 0, .ref bq1, .ref bq2, .ref bq3, .ref bq4, .ref bq5, .ref bq6])), (bq1, .inr (8, [.ref ba1])), (ba1, .inl (10, .inr (.inl (fun _ => 0)))), (bq2, .inr (8, [.ref ba2])), (ba2, .inl (10, .inr (.inl (fun _ => 0)))), (bq3, .inr (8, [.ref ba3])), (ba3, .inl (10, .inr (.inl (fun _ => 0)))), (bq4, .inr (8, [.ref ba4])), (ba4, .inl (4, .inr (.inl (fun _ => 0)))), (bq5, .inr (8, [.ref ba5])), (ba5, .inl (4, .inr (.inl (fun _ => 0)))), (bq6, .inr (8, [.ref ba6])), (ba6, .inl (4, .inr (.inl (ls_rt 4)))), (j0, .inr (6, [.int 0, .ref jq1, .ref jq2, .ref jq3, .ref jq4, .ref jq5, .ref jq6, .ref jq7])), (jq1, .inr (8, [.ref ja1])), (ja1, .inl (150, .inr (.inl (fun _ => 0)))), (jq2, .inr (8, [.ref ja2])), (ja2, .inl (150, .inr (.inl (fun _ => 0)))), (jq3, .inr (8, [.ref ja3])), (ja3, .inl (150, .inr (.inl (fun _ => 0)))), (jq4, .inr (8, [.ref ja4])), (ja4, .inl (150, .inr (.inl (fun _ => 0)))), (jq5, .inr (8, [.ref ja5])), (ja5, .inl (150, .inr (.inl (fun _ => 0)))), (jq6, .inr (8, [.ref ja6])), (ja6, .inl (150, .inr (.inl (fun _ => 0)))), (jq7, .inr (8, [.ref ja7])), (ja7, .inl (150, .inr (.inl (fun _ => 0)))), (h0, .inr (5, [.int 0, .ref hq1, .ref hq2, .ref hq3, .ref hq4, .ref hq5])), (hq1, .inr (8, [.ref ha1])), (ha1, .inl (30, .inr (.inl (fun _ => 0)))), (hq2, .inr (8, [.ref ha2])), (ha2, .inl (30, .inr (.inl (fun _ => 0)))), (hq3, .inr (8, [.ref ha3])), (ha3, .inl (30, .inr (.inl (fun _ => 0)))), (hq4, .inr (8, [.ref ha4])), (ha4, .inl (30, .inr (.inl (fun _ => 0)))), (hq5, .inr (8, [.ref ha5])), (ha5, .inl (30, .inr (.inl (fun _ => 0)))), (c0, .inr (2, [.int 0, .ref cq1, .ref cq2, .ref cq3])), (cq1, .inr (8, [.ref ca1])), (ca1, .inl (12, .inr (.inl (fun _ => 0)))), (cq2, .inr (8, [.ref ca2])), (ca2, .inl (12, .inr (.inl (fun _ => 0)))), (cq3, .inr (8, [.ref ca3])), (ca3, .inl (12, .inr (.inl (fun _ => 0)))), (m0, .inr (7, [.int 0, .ref mq])), (mq, .inl (180, .inr (.inr (.inr (.inr (fun _ => none)))))), (s0, .inr (8, [.ref sa])), (sa, .inl (10, .inr (.inl (fun _ => 0))))] : List (Nat × hl_C))), rfl, ?_⟩
  generalize hl_set g6 r (.inr (9, [.ref b0, .ref j0, .ref h0, .ref c0, .ref m0, .ref s0, .int 0])) = g7 at k6'
  refine ⟨⟨fun _ => 0, ls_of51 (k6'.get (i := 0) rfl) (k6'.get (i := 1) rfl) (k6'.get (i := 14) rfl) (k6'.get (i := 29) rfl) (k6'.get (i := 40) rfl) (k6'.get (i := 47) rfl) (k6'.get (i := 48) rfl) (k6'.get (i := 2) rfl) (k6'.get (i := 4) rfl) (k6'.get (i := 6) rfl) (k6'.get (i := 8) rfl) (k6'.get (i := 10) rfl) (k6'.get (i := 12) rfl) (k6'.get (i := 15) rfl) (k6'.get (i := 17) rfl) (k6'.get (i := 19) rfl) (k6'.get (i := 21) rfl) (k6'.get (i := 23) rfl) (k6'.get (i := 25) rfl) (k6'.get (i := 27) rfl) (k6'.get (i := 30) rfl) (k6'.get (i := 32) rfl) (k6'.get (i := 34) rfl) (k6'.get (i := 36) rfl) (k6'.get (i := 38) rfl) (k6'.get (i := 41) rfl) (k6'.get (i := 43) rfl) (k6'.get (i := 45) rfl) (k6'.get (i := 49) rfl) (k6'.get (i := 3) rfl) (k6'.get (i := 5) rfl) (k6'.get (i := 7) rfl) (k6'.get (i := 9) rfl) (k6'.get (i := 11) rfl) (k6'.get (i := 13) rfl) (k6'.get (i := 16) rfl) (k6'.get (i := 18) rfl) (k6'.get (i := 20) rfl) (k6'.get (i := 22) rfl) (k6'.get (i := 24) rfl) (k6'.get (i := 26) rfl) (k6'.get (i := 28) rfl) (k6'.get (i := 31) rfl) (k6'.get (i := 33) rfl) (k6'.get (i := 35) rfl) (k6'.get (i := 37) rfl) (k6'.get (i := 39) rfl) (k6'.get (i := 42) rfl) (k6'.get (i := 44) rfl) (k6'.get (i := 46) rfl) (k6'.get (i := 50) rfl), fun i hi => absurd hi (Nat.not_lt_zero i)⟩, ls_ad_inj rfl k6'.2.2, fun i j hi => absurd hi (Nat.not_lt_zero i), fun i j _ hj => absurd hj (Nat.not_lt_zero j), fun i hi => ?_, fun i hi => absurd hi (Nat.not_lt_zero i), k6'.1⟩
  have hm := List.mem_of_getElem? (ls_ad_mem (A := (List.map (fun e => e.1) ([(r, .inr (9, [.ref b0, .ref j0, .ref h0, .ref c0, .ref m0, .ref s0, .int 0])), (b0, .inr (3, [.int 0, .ref bq1, .ref bq2, .ref bq3, .ref bq4, .ref bq5, .ref bq6])), (bq1, .inr (8, [.ref ba1])), (ba1, .inl (10, .inr (.inl (fun _ => 0)))), (bq2, .inr (8, [.ref ba2])), (ba2, .inl (10, .inr (.inl (fun _ => 0)))), (bq3, .inr (8, [.ref ba3])), (ba3, .inl (10, .inr (.inl (fun _ => 0)))), (bq4, .inr (8, [.ref ba4])), (ba4, .inl (4, .inr (.inl (fun _ => 0)))), (bq5, .inr (8, [.ref ba5])), (ba5, .inl (4, .inr (.inl (fun _ => 0)))), (bq6, .inr (8, [.ref ba6])), (ba6, .inl (4, .inr (.inl (ls_rt 4)))), (j0, .inr (6, [.int 0, .ref jq1, .ref jq2, .ref jq3, .ref jq4, .ref jq5, .ref jq6, .ref jq7])), (jq1, .inr (8, [.ref ja1])), (ja1, .inl (150, .inr (.inl (fun _ => 0)))), (jq2, .inr (8, [.ref ja2])), (ja2, .inl (150, .inr (.inl (fun _ => 0)))), (jq3, .inr (8, [.ref ja3])), (ja3, .inl (150, .inr (.inl (fun _ => 0)))), (jq4, .inr (8, [.ref ja4])), (ja4, .inl (150, .inr (.inl (fun _ => 0)))), (jq5, .inr (8, [.ref ja5])), (ja5, .inl (150, .inr (.inl (fun _ => 0)))), (jq6, .inr (8, [.ref ja6])), (ja6, .inl (150, .inr (.inl (fun _ => 0)))), (jq7, .inr (8, [.ref ja7])), (ja7, .inl (150, .inr (.inl (fun _ => 0)))), (h0, .inr (5, [.int 0, .ref hq1, .ref hq2, .ref hq3, .ref hq4, .ref hq5])), (hq1, .inr (8, [.ref ha1])), (ha1, .inl (30, .inr (.inl (fun _ => 0)))), (hq2, .inr (8, [.ref ha2])), (ha2, .inl (30, .inr (.inl (fun _ => 0)))), (hq3, .inr (8, [.ref ha3])), (ha3, .inl (30, .inr (.inl (fun _ => 0)))), (hq4, .inr (8, [.ref ha4])), (ha4, .inl (30, .inr (.inl (fun _ => 0)))), (hq5, .inr (8, [.ref ha5])), (ha5, .inl (30, .inr (.inl (fun _ => 0)))), (c0, .inr (2, [.int 0, .ref cq1, .ref cq2, .ref cq3])), (cq1, .inr (8, [.ref ca1])), (ca1, .inl (12, .inr (.inl (fun _ => 0)))), (cq2, .inr (8, [.ref ca2])), (ca2, .inl (12, .inr (.inl (fun _ => 0)))), (cq3, .inr (8, [.ref ca3])), (ca3, .inl (12, .inr (.inl (fun _ => 0)))), (m0, .inr (7, [.int 0, .ref mq])), (mq, .inl (180, .inr (.inr (.inr (.inr (fun _ => none)))))), (s0, .inr (8, [.ref sa])), (sa, .inl (10, .inr (.inl (fun _ => 0))))] : List (Nat × hl_C)))) rfl hi)
  obtain ⟨e9, he9, hee⟩ := List.mem_map.mp hm
  have := (k6'.2.1 e9 he9).1
  rw [hee] at this
  exact this
