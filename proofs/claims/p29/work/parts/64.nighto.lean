section NIGHTO
variable {lay : mL} {d e n n' k : Nat} {I I' : mI} {F F' : mF} {R R' : mR} {Q : mP} {st st' st2 : St} {hs hs' hs2 : List St}
/-- undone twice -/
theorem ni_f {l2 : List St} {st1 : St} {v1 v2 v3 v5 v6 v9 v10 v11 v12 v13 v14 : Value} (hl : HL lay) (G : GD e st) (hl2 : l2.length ≤ 5) (hd : 6 ≤ d) (T : TW lay st2 ((l2 ++ [st]) ++ [st1]) st' hs' I F R n) (hQ : ∀ I' F' R', I' 0 = I 0 → TW lay st l2 st' hs' I' F' R' n → Q (some (.int (nI 1))) I' F' R' n) : Ev lay d 101 393 [.ref 1, v1, v2, v3, .int (nI (st.1 0)), v5, v6, .int (nI 1), .int (nI (st.1 69)), v9, v10, v11, v12, v13, v14] [] I F R n Q := by
  have wf := G.1
  have x1 := TW_1 T
  have ll : (l2 ++ [st]).length = l2.length + 1 := by rw [List.length_append]; rfl
  simp (disch := omega) only [e101_393, e101_395, e101_398, e101_398N, e101_399, true_or, m_psh_s, m_psh_n, m_kl_i, m_kl_f, m_kl_r, m_kl_n, m_kl_j, m_kl_l, m_kl_d, c_i, c_f, c_r, c_n, List.length_nil, List.length_cons, true_and, and_true, Nat.reduceAdd, Nat.reduceLeDiff, Nat.reduceSub, Nat.reduceEqDiff, Nat.reduceLT, ge_iff_le, gt_iff_lt, n_lit, m_in, m_nar0, m_nar1, and_self, not_false_eq_true, not_true_eq_false, ne_eq, reduceIte, ite_self, Nat.reduceMul, Nat.reduceDiv, Nat.reduceMod, Nat.reducePow, Nat.zero_add, Nat.add_zero, Nat.one_mul, Nat.mul_one, n_in, n_min, n_clamp, n_eq_t, n_eq_f, n_eq, n_le_t, n_le_f, n_le, n_lt_t, n_lt_f, n_lt, n_sub0, n_sublt, n_suble, n_negsub, m_up_hit, m_up_miss, m_row_hit, m_row_miss, n_eqm, n_meq, n_meqm, n_ltm, n_lem, n_mlt, n_mle, n_sub, n_div, n_and1, n_shl, n_shr, n_inc, n_mul, n_rem, z_lt, z_le, z_nlt, z_nle, Nat.not_lt_zero, Nat.le_zero_eq, Nat.zero_le, if_true, if_false, x1]
  refine k_undo (d := d - 1) hl (by omega) _ _ _ _ _ _ _ T fun I1 F1 R1 n1 a1 b1 z1 T1 => ?_
  obtain rfl : n1 = n := by omega
  rw [ll]
  simp (disch := omega) only [e101_402, e101_405, e101_405N, e101_406, true_or, m_psh_s, m_psh_n, m_kl_i, m_kl_f, m_kl_r, m_kl_n, m_kl_j, m_kl_l, m_kl_d, c_i, c_f, c_r, c_n, List.length_nil, List.length_cons, true_and, and_true, Nat.reduceAdd, Nat.reduceLeDiff, Nat.reduceSub, Nat.reduceEqDiff, Nat.reduceLT, ge_iff_le, gt_iff_lt, n_lit, m_in, m_nar0, m_nar1, and_self, not_false_eq_true, not_true_eq_false, ne_eq, reduceIte, ite_self, Nat.reduceMul, Nat.reduceDiv, Nat.reduceMod, Nat.reducePow, Nat.zero_add, Nat.add_zero, Nat.one_mul, Nat.mul_one, n_in, n_min, n_clamp, n_eq_t, n_eq_f, n_eq, n_le_t, n_le_f, n_le, n_lt_t, n_lt_f, n_lt, n_sub0, n_sublt, n_suble, n_negsub, m_up_hit, m_up_miss, m_row_hit, m_row_miss, n_eqm, n_meq, n_meqm, n_ltm, n_lem, n_mlt, n_mle, n_sub, n_div, n_and1, n_shl, n_shr, n_inc, n_mul, n_rem, z_lt, z_le, z_nlt, z_nle, Nat.not_lt_zero, Nat.le_zero_eq, Nat.zero_le, if_true, if_false, x1]
  refine k_undo (d := d - 1) hl (by omega) _ _ _ _ _ _ _ T1 fun I2 F2 R2 n2 a2 b2 z2 T2 => ?_
  obtain rfl : n2 = n1 := by omega
  simp (disch := omega) only [e101_409, e101_412, e101_412N, e101_413, e101_415, true_or, m_psh_s, m_psh_n, m_kl_i, m_kl_f, m_kl_r, m_kl_n, m_kl_j, m_kl_l, m_kl_d, c_i, c_f, c_r, c_n, List.length_nil, List.length_cons, true_and, and_true, Nat.reduceAdd, Nat.reduceLeDiff, Nat.reduceSub, Nat.reduceEqDiff, Nat.reduceLT, ge_iff_le, gt_iff_lt, n_lit, m_in, m_nar0, m_nar1, and_self, not_false_eq_true, not_true_eq_false, ne_eq, reduceIte, ite_self, Nat.reduceMul, Nat.reduceDiv, Nat.reduceMod, Nat.reducePow, Nat.zero_add, Nat.add_zero, Nat.one_mul, Nat.mul_one, n_in, n_min, n_clamp, n_eq_t, n_eq_f, n_eq, n_le_t, n_le_f, n_le, n_lt_t, n_lt_f, n_lt, n_sub0, n_sublt, n_suble, n_negsub, m_up_hit, m_up_miss, m_row_hit, m_row_miss, n_eqm, n_meq, n_meqm, n_ltm, n_lem, n_mlt, n_mle, n_sub, n_div, n_and1, n_shl, n_shr, n_inc, n_mul, n_rem, z_lt, z_le, z_nlt, z_nle, Nat.not_lt_zero, Nat.le_zero_eq, Nat.zero_le, if_true, if_false, x1]
  refine k_count (d := d - 1) hl wf (by omega) _ _ _ _ _ _ _ T2 fun I3 F3 R3 n3 a3 b3 z3 T3 => ?_
  obtain rfl : n3 = n2 := by omega
  rw [v_c11]
  simp (disch := omega) only [e101_418, e101_420, e101_423, e101_423N, e101_424, e101_425, true_or, m_psh_s, m_psh_n, m_kl_i, m_kl_f, m_kl_r, m_kl_n, m_kl_j, m_kl_l, m_kl_d, c_i, c_f, c_r, c_n, List.length_nil, List.length_cons, true_and, and_true, Nat.reduceAdd, Nat.reduceLeDiff, Nat.reduceSub, Nat.reduceEqDiff, Nat.reduceLT, ge_iff_le, gt_iff_lt, n_lit, m_in, m_nar0, m_nar1, and_self, not_false_eq_true, not_true_eq_false, ne_eq, reduceIte, ite_self, Nat.reduceMul, Nat.reduceDiv, Nat.reduceMod, Nat.reducePow, Nat.zero_add, Nat.add_zero, Nat.one_mul, Nat.mul_one, n_in, n_min, n_clamp, n_eq_t, n_eq_f, n_eq, n_le_t, n_le_f, n_le, n_lt_t, n_lt_f, n_lt, n_sub0, n_sublt, n_suble, n_negsub, m_up_hit, m_up_miss, m_row_hit, m_row_miss, n_eqm, n_meq, n_meqm, n_ltm, n_lem, n_mlt, n_mle, n_sub, n_div, n_and1, n_shl, n_shr, n_inc, n_mul, n_rem, z_lt, z_le, z_nlt, z_nle, Nat.not_lt_zero, Nat.le_zero_eq, Nat.zero_le, if_true, if_false, x1, eq_self]
  refine k_count (d := d - 1) hl wf (by omega) _ _ _ _ _ _ _ T3 fun I4 F4 R4 n4 a4 b4 z4 T4 => ?_
  obtain rfl : n4 = n3 := by omega
  rw [v_c2]
  have key := hQ I4 F4 R4 (z4.trans (z3.trans (z2.trans (z1)))) T4
  simp (disch := omega) only [e101_428, e101_430, e101_433, e101_434, e101_437, e101_438, true_or, m_psh_s, m_psh_n, m_kl_i, m_kl_f, m_kl_r, m_kl_n, m_kl_j, m_kl_l, m_kl_d, c_i, c_f, c_r, c_n, List.length_nil, List.length_cons, true_and, and_true, Nat.reduceAdd, Nat.reduceLeDiff, Nat.reduceSub, Nat.reduceEqDiff, Nat.reduceLT, ge_iff_le, gt_iff_lt, n_lit, m_in, m_nar0, m_nar1, and_self, not_false_eq_true, not_true_eq_false, ne_eq, reduceIte, ite_self, Nat.reduceMul, Nat.reduceDiv, Nat.reduceMod, Nat.reducePow, Nat.zero_add, Nat.add_zero, Nat.one_mul, Nat.mul_one, n_in, n_min, n_clamp, n_eq_t, n_eq_f, n_eq, n_le_t, n_le_f, n_le, n_lt_t, n_lt_f, n_lt, n_sub0, n_sublt, n_suble, n_negsub, m_up_hit, m_up_miss, m_row_hit, m_row_miss, n_eqm, n_meq, n_meqm, n_ltm, n_lem, n_mlt, n_mle, n_sub, n_div, n_and1, n_shl, n_shr, n_inc, n_mul, n_rem, z_lt, z_le, z_nlt, z_nle, Nat.not_lt_zero, Nat.le_zero_eq, Nat.zero_le, if_true, if_false, x1, eq_self]
  exact key
theorem l_night (hl : HL lay) (G : GD e st) (he : e ≤ 48) (hd : 6 ≤ d) (hs : List St) : ∃ hs1 : List St, K1 lay d 101 [m_j, m_j, m_j, m_j, m_j, m_j, m_j, m_j, m_j, m_j, m_j, m_j, m_j, m_j] st hs 0 (some (.int (nI 1))) st hs1 := by
  obtain ⟨l2, hl2⟩ := q_rec2 hs st (up1 st.1 0 (q_m1 st.1), st.2.1, st.2.2)
  refine ⟨l2, ?_⟩
  intro st' hs' I F R n Q T hQ
  obtain ⟨el, hl5⟩ := hl2 (YS_len T.2.1)
  obtain ⟨S2, sp2, dn, hn, p1, p2, p3, p4, p5, p6, p7⟩ := night_p G (by omega)
  have G1 := (CH_set (x := nI 0) (y := nI (q_m1 st.1)) G).1
  rw [v_set0] at G1
  have G2 := (CH_night G1).1
  dsimp only at G2
  rw [hn] at G2
  have wf := G.1
  have wf2 : Wf S2 sp2 st.2.2 := G2.1
  have x1 := TW_1 T
  have s0 := wf.2.1.1
  have d1 := wf.2.2.2.1.1
  have ht := q_tws_le wf.1 wf.2.1.2.2 wf.2.2.2.1 (st.1 69) (Nat.le_refl _)
  have dn1 : dn ≤ 1 := by rw [p1]; split <;> omega
  have er : q_rc (nI dn) (q_rec hs st) (up1 st.1 0 (q_m1 st.1), st.2.1, st.2.2) = (l2 ++ [st]) ++ [(up1 st.1 0 (q_m1 st.1), st.2.1, st.2.2)] := by
    unfold q_rc
    rw [if_neg (n_nlt _ (by omega)), el]
  refine ni_a hl G (by omega) (by omega) T fun I1 F1 R1 z1 T1 => ?_
  refine ni_b hl G (by omega) hd hn T1 fun I2 F2 R2 z2 T2 => ?_
  rw [er] at T2
  -- the last check of the night, and what comes behind it
  have lst : ∀ (I : mI) (F : mF) (R : mR), I 0 = I2 0 → TW lay (S2, sp2, st.2.2) ((l2 ++ [st]) ++ [(up1 st.1 0 (q_m1 st.1), st.2.1, st.2.2)]) st' hs' I F R n → Ev lay d 101 302 [.ref 1, .int (q_loI (q_bs st.1 st.2.1)), .int (q_hiI (q_bs st.1 st.2.1)), .int (nI (q_tws st.1 (st.1 69))), .int (nI (st.1 0)), .int (nI (st.1 121)), .int (nI (st.1 68)), .int (nI 1), .int (nI (st.1 69)), .int (nI (st.1 0)), .int (q_one st.1 (q_bs st.1 st.2.1)), .int (q_two st.1 (q_bs st.1 st.2.1)), .int (nI dn), m_j, m_j] [] I F R n Q := by
    intro I3 F3 R3 z3 T3
    simp (disch := omega) only [e101_302, e101_302N, e101_303, e101_304, true_or, m_psh_s, m_psh_n, m_kl_i, m_kl_f, m_kl_r, m_kl_n, m_kl_j, m_kl_l, m_kl_d, c_i, c_f, c_r, c_n, List.length_nil, List.length_cons, true_and, and_true, Nat.reduceAdd, Nat.reduceLeDiff, Nat.reduceSub, Nat.reduceEqDiff, Nat.reduceLT, ge_iff_le, gt_iff_lt, n_lit, m_in, m_nar0, m_nar1, and_self, not_false_eq_true, not_true_eq_false, ne_eq, reduceIte, ite_self, Nat.reduceMul, Nat.reduceDiv, Nat.reduceMod, Nat.reducePow, Nat.zero_add, Nat.add_zero, Nat.one_mul, Nat.mul_one, n_in, n_min, n_clamp, n_eq_t, n_eq_f, n_eq, n_le_t, n_le_f, n_le, n_lt_t, n_lt_f, n_lt, n_sub0, n_sublt, n_suble, n_negsub, m_up_hit, m_up_miss, m_row_hit, m_row_miss, n_eqm, n_meq, n_meqm, n_ltm, n_lem, n_mlt, n_mle, n_sub, n_div, n_and1, n_shl, n_shr, n_inc, n_mul, n_rem, z_lt, z_le, z_nlt, z_nle, Nat.not_lt_zero, Nat.le_zero_eq, Nat.zero_le, if_true, if_false, x1]
    refine k_count (d := d - 1) hl wf2 (by omega) _ _ _ _ _ _ _ T3 fun I4 F4 R4 n4 a4 b4 z4 T4 => ?_
    obtain rfl : n4 = n := by omega
    rw [v_c2]
    dsimp only
    rw [p3]
    simp (disch := omega) only [e101_307, e101_310, e101_311, e101_314, e101_315, e101_317, e101_318, e101_320, e101_321, true_or, m_psh_s, m_psh_n, m_kl_i, m_kl_f, m_kl_r, m_kl_n, m_kl_j, m_kl_l, m_kl_d, c_i, c_f, c_r, c_n, List.length_nil, List.length_cons, true_and, and_true, Nat.reduceAdd, Nat.reduceLeDiff, Nat.reduceSub, Nat.reduceEqDiff, Nat.reduceLT, ge_iff_le, gt_iff_lt, n_lit, m_in, m_nar0, m_nar1, and_self, not_false_eq_true, not_true_eq_false, ne_eq, reduceIte, ite_self, Nat.reduceMul, Nat.reduceDiv, Nat.reduceMod, Nat.reducePow, Nat.zero_add, Nat.add_zero, Nat.one_mul, Nat.mul_one, n_in, n_min, n_clamp, n_eq_t, n_eq_f, n_eq, n_le_t, n_le_f, n_le, n_lt_t, n_lt_f, n_lt, n_sub0, n_sublt, n_suble, n_negsub, m_up_hit, m_up_miss, m_row_hit, m_row_miss, n_eqm, n_meq, n_meqm, n_ltm, n_lem, n_mlt, n_mle, n_sub, n_div, n_and1, n_shl, n_shr, n_inc, n_mul, n_rem, z_lt, z_le, z_nlt, z_nle, Nat.not_lt_zero, Nat.le_zero_eq, Nat.zero_le, if_true, if_false, x1, eq_self]
    refine ni_d (st2 := (S2, sp2, st.2.2)) hl wf2 (by omega) p4 (st.1 69) 0 I4 F4 R4 (Nat.zero_add _) T4 fun I5 F5 R5 z5 T5 => ?_
    have nxt : Ev lay d 101 374 [.ref 1, .int (q_loI (q_bs st.1 st.2.1)), .int (q_hiI (q_bs st.1 st.2.1)), .int (nI (q_tws st.1 (st.1 69))), .int (nI (st.1 0)), .int (nI (st.1 121)), .int (nI (st.1 68)), .int (nI 1), .int (nI (st.1 69)), .int (nI (st.1 0)), .int (q_one st.1 (q_bs st.1 st.2.1)), .int (q_two st.1 (q_bs st.1 st.2.1)), .int (nI dn), .int (nI (q_tnw S2 (st.1 69))), .int (nI (st.1 69))] [] I5 F5 R5 n4 Q := by
      simp (disch := omega) only [e101_374, e101_374N, e101_375, e101_376, e101_378, e101_379, true_or, m_psh_s, m_psh_n, m_kl_i, m_kl_f, m_kl_r, m_kl_n, m_kl_j, m_kl_l, m_kl_d, c_i, c_f, c_r, c_n, List.length_nil, List.length_cons, true_and, and_true, Nat.reduceAdd, Nat.reduceLeDiff, Nat.reduceSub, Nat.reduceEqDiff, Nat.reduceLT, ge_iff_le, gt_iff_lt, n_lit, m_in, m_nar0, m_nar1, and_self, not_false_eq_true, not_true_eq_false, ne_eq, reduceIte, ite_self, Nat.reduceMul, Nat.reduceDiv, Nat.reduceMod, Nat.reducePow, Nat.zero_add, Nat.add_zero, Nat.one_mul, Nat.mul_one, n_in, n_min, n_clamp, n_eq_t, n_eq_f, n_eq, n_le_t, n_le_f, n_le, n_lt_t, n_lt_f, n_lt, n_sub0, n_sublt, n_suble, n_negsub, m_up_hit, m_up_miss, m_row_hit, m_row_miss, n_eqm, n_meq, n_meqm, n_ltm, n_lem, n_mlt, n_mle, n_sub, n_div, n_and1, n_shl, n_shr, n_inc, n_mul, n_rem, z_lt, z_le, z_nlt, z_nle, Nat.not_lt_zero, Nat.le_zero_eq, Nat.zero_le, if_true, if_false, x1, eq_self]
      refine k_basket (d := d - 1) hl wf2 (by omega) _ _ _ _ _ _ _ T5 fun I6 F6 R6 n6 a6 b6 z6 T6 => ?_
      obtain rfl : n6 = n4 := by omega
      rw [v_b1N (Nat.le_of_eq p4) (by omega)]
      have key := ni_f (Q := Q) (v1 := .int (q_loI (q_bs st.1 st.2.1))) (v2 := .int (q_hiI (q_bs st.1 st.2.1))) (v3 := .int (nI (q_tws st.1 (st.1 69)))) (v5 := .int (nI (st.1 121))) (v6 := .int (nI (st.1 68))) (v9 := .int (nI (st.1 0))) (v10 := .int (q_one st.1 (q_bs st.1 st.2.1))) (v11 := .int (q_two st.1 (q_bs st.1 st.2.1))) (v12 := .int (nI dn)) (v13 := .int (nI (q_tnw S2 (st.1 69)))) (v14 := .int (nI (st.1 69))) hl G hl5 hd T6 fun I' F' R' z T' => hQ I' F' R' n6 (Nat.le_refl _) (Nat.le_refl _) (z.trans (z6.trans (z5.trans (z4.trans (z3.trans (z2.trans z1)))))) T'
      simp (disch := omega) only [e101_382, e101_383, e101_386, e101_387, e101_390, e101_391, true_or, m_psh_s, m_psh_n, m_kl_i, m_kl_f, m_kl_r, m_kl_n, m_kl_j, m_kl_l, m_kl_d, c_i, c_f, c_r, c_n, List.length_nil, List.length_cons, true_and, and_true, Nat.reduceAdd, Nat.reduceLeDiff, Nat.reduceSub, Nat.reduceEqDiff, Nat.reduceLT, ge_iff_le, gt_iff_lt, n_lit, m_in, m_nar0, m_nar1, and_self, not_false_eq_true, not_true_eq_false, ne_eq, reduceIte, ite_self, Nat.reduceMul, Nat.reduceDiv, Nat.reduceMod, Nat.reducePow, Nat.zero_add, Nat.add_zero, Nat.one_mul, Nat.mul_one, n_in, n_min, n_clamp, n_eq_t, n_eq_f, n_eq, n_le_t, n_le_f, n_le, n_lt_t, n_lt_f, n_lt, n_sub0, n_sublt, n_suble, n_negsub, m_up_hit, m_up_miss, m_row_hit, m_row_miss, n_eqm, n_meq, n_meqm, n_ltm, n_lem, n_mlt, n_mle, n_sub, n_div, n_and1, n_shl, n_shr, n_inc, n_mul, n_rem, z_lt, z_le, z_nlt, z_nle, Nat.not_lt_zero, Nat.le_zero_eq, Nat.zero_le, if_true, if_false, x1, eq_self]
      exact key
    by_cases c : dn = 0
    · have e5 := p5 c
      rw [c, e5] at nxt ⊢
      simp (disch := omega) only [e101_349, e101_351, e101_354, e101_356, e101_359, e101_361, e101_362, e101_365, true_or, m_psh_s, m_psh_n, m_kl_i, m_kl_f, m_kl_r, m_kl_n, m_kl_j, m_kl_l, m_kl_d, c_i, c_f, c_r, c_n, List.length_nil, List.length_cons, true_and, and_true, Nat.reduceAdd, Nat.reduceLeDiff, Nat.reduceSub, Nat.reduceEqDiff, Nat.reduceLT, ge_iff_le, gt_iff_lt, n_lit, m_in, m_nar0, m_nar1, and_self, not_false_eq_true, not_true_eq_false, ne_eq, reduceIte, ite_self, Nat.reduceMul, Nat.reduceDiv, Nat.reduceMod, Nat.reducePow, Nat.zero_add, Nat.add_zero, Nat.one_mul, Nat.mul_one, n_in, n_min, n_clamp, n_eq_t, n_eq_f, n_eq, n_le_t, n_le_f, n_le, n_lt_t, n_lt_f, n_lt, n_sub0, n_sublt, n_suble, n_negsub, m_up_hit, m_up_miss, m_row_hit, m_row_miss, n_eqm, n_meq, n_meqm, n_ltm, n_lem, n_mlt, n_mle, n_sub, n_div, n_and1, n_shl, n_shr, n_inc, n_mul, n_rem, z_lt, z_le, z_nlt, z_nle, Nat.not_lt_zero, Nat.le_zero_eq, Nat.zero_le, if_true, if_false, x1, eq_self]
      exact nxt
    · have c1 : dn = 1 := by omega
      rw [c1] at nxt ⊢
      simp (disch := omega) only [e101_349, e101_351, e101_354, e101_356, e101_368, e101_370, e101_371, true_or, m_psh_s, m_psh_n, m_kl_i, m_kl_f, m_kl_r, m_kl_n, m_kl_j, m_kl_l, m_kl_d, c_i, c_f, c_r, c_n, List.length_nil, List.length_cons, true_and, and_true, Nat.reduceAdd, Nat.reduceLeDiff, Nat.reduceSub, Nat.reduceEqDiff, Nat.reduceLT, ge_iff_le, gt_iff_lt, n_lit, m_in, m_nar0, m_nar1, and_self, not_false_eq_true, not_true_eq_false, ne_eq, reduceIte, ite_self, Nat.reduceMul, Nat.reduceDiv, Nat.reduceMod, Nat.reducePow, Nat.zero_add, Nat.add_zero, Nat.one_mul, Nat.mul_one, n_in, n_min, n_clamp, n_eq_t, n_eq_f, n_eq, n_le_t, n_le_f, n_le, n_lt_t, n_lt_f, n_lt, n_sub0, n_sublt, n_suble, n_negsub, m_up_hit, m_up_miss, m_row_hit, m_row_miss, n_eqm, n_meq, n_meqm, n_ltm, n_lem, n_mlt, n_mle, n_sub, n_div, n_and1, n_shl, n_shr, n_inc, n_mul, n_rem, z_lt, z_le, z_nlt, z_nle, Nat.not_lt_zero, Nat.le_zero_eq, Nat.zero_le, if_true, if_false, x1, eq_self]
      exact nxt
  -- how many were done
  have cnt : ∀ (b : Nat), b = dn → Ev lay d 101 258 [.ref 1, .int (q_loI (q_bs st.1 st.2.1)), .int (q_hiI (q_bs st.1 st.2.1)), .int (nI (q_tws st.1 (st.1 69))), .int (nI (st.1 0)), .int (nI (st.1 121)), .int (nI (st.1 68)), .int (nI 1), .int (nI (st.1 69)), .int (nI (st.1 0)), .int (q_one st.1 (q_bs st.1 st.2.1)), .int (q_two st.1 (q_bs st.1 st.2.1)), .int (nI dn), m_j, m_j] [.int (nI b), .int (nI dn)] I2 F2 R2 n Q := by
    intro b hb
    subst hb
    simp (disch := omega) only [e101_258, e101_261, e101_261N, e101_262, e101_264, true_or, m_psh_s, m_psh_n, m_kl_i, m_kl_f, m_kl_r, m_kl_n, m_kl_j, m_kl_l, m_kl_d, c_i, c_f, c_r, c_n, List.length_nil, List.length_cons, true_and, and_true, Nat.reduceAdd, Nat.reduceLeDiff, Nat.reduceSub, Nat.reduceEqDiff, Nat.reduceLT, ge_iff_le, gt_iff_lt, n_lit, m_in, m_nar0, m_nar1, and_self, not_false_eq_true, not_true_eq_false, ne_eq, reduceIte, ite_self, Nat.reduceMul, Nat.reduceDiv, Nat.reduceMod, Nat.reducePow, Nat.zero_add, Nat.add_zero, Nat.one_mul, Nat.mul_one, n_in, n_min, n_clamp, n_eq_t, n_eq_f, n_eq, n_le_t, n_le_f, n_le, n_lt_t, n_lt_f, n_lt, n_sub0, n_sublt, n_suble, n_negsub, m_up_hit, m_up_miss, m_row_hit, m_row_miss, n_eqm, n_meq, n_meqm, n_ltm, n_lem, n_mlt, n_mle, n_sub, n_div, n_and1, n_shl, n_shr, n_inc, n_mul, n_rem, z_lt, z_le, z_nlt, z_nle, Nat.not_lt_zero, Nat.le_zero_eq, Nat.zero_le, if_true, if_false, x1, eq_self]
    refine k_count (d := d - 1) hl wf2 (by omega) _ _ _ _ _ _ _ T2 fun I3 F3 R3 n3 a3 b3 z3 T3 => ?_
    obtain rfl : n3 = n := by omega
    rw [v_c6]
    dsimp only
    rw [p2]
    by_cases c : b = 0
    · have key := lst I3 F3 R3 z3 T3
      rw [c] at key ⊢
      simp (disch := omega) only [e101_267, e101_269, e101_271, e101_272, e101_275, e101_277, true_or, m_psh_s, m_psh_n, m_kl_i, m_kl_f, m_kl_r, m_kl_n, m_kl_j, m_kl_l, m_kl_d, c_i, c_f, c_r, c_n, List.length_nil, List.length_cons, true_and, and_true, Nat.reduceAdd, Nat.reduceLeDiff, Nat.reduceSub, Nat.reduceEqDiff, Nat.reduceLT, ge_iff_le, gt_iff_lt, n_lit, m_in, m_nar0, m_nar1, and_self, not_false_eq_true, not_true_eq_false, ne_eq, reduceIte, ite_self, Nat.reduceMul, Nat.reduceDiv, Nat.reduceMod, Nat.reducePow, Nat.zero_add, Nat.add_zero, Nat.one_mul, Nat.mul_one, n_in, n_min, n_clamp, n_eq_t, n_eq_f, n_eq, n_le_t, n_le_f, n_le, n_lt_t, n_lt_f, n_lt, n_sub0, n_sublt, n_suble, n_negsub, m_up_hit, m_up_miss, m_row_hit, m_row_miss, n_eqm, n_meq, n_meqm, n_ltm, n_lem, n_mlt, n_mle, n_sub, n_div, n_and1, n_shl, n_shr, n_inc, n_mul, n_rem, z_lt, z_le, z_nlt, z_nle, Nat.not_lt_zero, Nat.le_zero_eq, Nat.zero_le, if_true, if_false, x1, eq_self]
      exact key
    · have c1 : b = 1 := by omega
      rcases ob_bs (q_bs st.1 st.2.1) with ho | ⟨p, ho⟩
      · rw [if_pos (Or.inr ho)] at p1
        exact absurd p1 c
      · obtain ⟨g1, g2⟩ := p7 p ho c1
        have hlt := q_bp_lt ho
        have s30 : p / 30 < 30 := by omega
        have o30 : p % 30 < 30 := Nat.mod_lt _ (by decide)
        have e1 : q_loI (some p) = nI (p / 30) := rfl
        have e2 : q_hiI (some p) = nI (p % 30) := rfl
        have e3 : q_one st.1 (some p) = q_oI (q_gi st.1 (p / 30)) := rfl
        have e4 : q_two st.1 (some p) = q_oI (q_gi st.1 (p % 30)) := rfl
        rw [ho, e1, e2, e3, e4, c1] at lst
        rw [ho, e1, e2, e3, e4, c1]
        simp (disch := omega) only [e101_267, e101_269, e101_271, e101_272, e101_275, e101_277, e101_280, e101_280N, e101_281, e101_282, e101_283, true_or, m_psh_s, m_psh_n, m_kl_i, m_kl_f, m_kl_r, m_kl_n, m_kl_j, m_kl_l, m_kl_d, c_i, c_f, c_r, c_n, List.length_nil, List.length_cons, true_and, and_true, Nat.reduceAdd, Nat.reduceLeDiff, Nat.reduceSub, Nat.reduceEqDiff, Nat.reduceLT, ge_iff_le, gt_iff_lt, n_lit, m_in, m_nar0, m_nar1, and_self, not_false_eq_true, not_true_eq_false, ne_eq, reduceIte, ite_self, Nat.reduceMul, Nat.reduceDiv, Nat.reduceMod, Nat.reducePow, Nat.zero_add, Nat.add_zero, Nat.one_mul, Nat.mul_one, n_in, n_min, n_clamp, n_eq_t, n_eq_f, n_eq, n_le_t, n_le_f, n_le, n_lt_t, n_lt_f, n_lt, n_sub0, n_sublt, n_suble, n_negsub, m_up_hit, m_up_miss, m_row_hit, m_row_miss, n_eqm, n_meq, n_meqm, n_ltm, n_lem, n_mlt, n_mle, n_sub, n_div, n_and1, n_shl, n_shr, n_inc, n_mul, n_rem, z_lt, z_le, z_nlt, z_nle, Nat.not_lt_zero, Nat.le_zero_eq, Nat.zero_le, if_true, if_false, x1, eq_self]
        refine k_ofSlot (d := d - 1) hl wf2 (by omega) _ _ _ _ _ _ _ T3 fun I4 F4 R4 n4 a4 b4 z4 T4 => ?_
        obtain rfl : n4 = n3 := by omega
        rw [v_ofS0 o30, g1]
        simp (disch := omega) only [e101_286, e101_288, e101_291, e101_291N, e101_292, e101_293, e101_294, true_or, m_psh_s, m_psh_n, m_kl_i, m_kl_f, m_kl_r, m_kl_n, m_kl_j, m_kl_l, m_kl_d, c_i, c_f, c_r, c_n, List.length_nil, List.length_cons, true_and, and_true, Nat.reduceAdd, Nat.reduceLeDiff, Nat.reduceSub, Nat.reduceEqDiff, Nat.reduceLT, ge_iff_le, gt_iff_lt, n_lit, m_in, m_nar0, m_nar1, and_self, not_false_eq_true, not_true_eq_false, ne_eq, reduceIte, ite_self, Nat.reduceMul, Nat.reduceDiv, Nat.reduceMod, Nat.reducePow, Nat.zero_add, Nat.add_zero, Nat.one_mul, Nat.mul_one, n_in, n_min, n_clamp, n_eq_t, n_eq_f, n_eq, n_le_t, n_le_f, n_le, n_lt_t, n_lt_f, n_lt, n_sub0, n_sublt, n_suble, n_negsub, m_up_hit, m_up_miss, m_row_hit, m_row_miss, n_eqm, n_meq, n_meqm, n_ltm, n_lem, n_mlt, n_mle, n_sub, n_div, n_and1, n_shl, n_shr, n_inc, n_mul, n_rem, z_lt, z_le, z_nlt, z_nle, Nat.not_lt_zero, Nat.le_zero_eq, Nat.zero_le, if_true, if_false, x1, eq_self]
        refine k_ofSlot (d := d - 1) hl wf2 (by omega) _ _ _ _ _ _ _ T4 fun I5 F5 R5 n5 a5 b5 z5 T5 => ?_
        obtain rfl : n5 = n4 := by omega
        rw [v_ofS0 s30, g2]
        have key := lst I5 F5 R5 (z5.trans (z4.trans z3)) T5
        simp (disch := omega) only [e101_297, e101_299, true_or, m_psh_s, m_psh_n, m_kl_i, m_kl_f, m_kl_r, m_kl_n, m_kl_j, m_kl_l, m_kl_d, c_i, c_f, c_r, c_n, List.length_nil, List.length_cons, true_and, and_true, Nat.reduceAdd, Nat.reduceLeDiff, Nat.reduceSub, Nat.reduceEqDiff, Nat.reduceLT, ge_iff_le, gt_iff_lt, n_lit, m_in, m_nar0, m_nar1, and_self, not_false_eq_true, not_true_eq_false, ne_eq, reduceIte, ite_self, Nat.reduceMul, Nat.reduceDiv, Nat.reduceMod, Nat.reducePow, Nat.zero_add, Nat.add_zero, Nat.one_mul, Nat.mul_one, n_in, n_min, n_clamp, n_eq_t, n_eq_f, n_eq, n_le_t, n_le_f, n_le, n_lt_t, n_lt_f, n_lt, n_sub0, n_sublt, n_suble, n_negsub, m_up_hit, m_up_miss, m_row_hit, m_row_miss, n_eqm, n_meq, n_meqm, n_ltm, n_lem, n_mlt, n_mle, n_sub, n_div, n_and1, n_shl, n_shr, n_inc, n_mul, n_rem, z_lt, z_le, z_nlt, z_nle, Nat.not_lt_zero, Nat.le_zero_eq, Nat.zero_le, if_true, if_false, x1, eq_self]
        exact key
  by_cases c : st.1 0 = 0
  · rw [if_pos (Or.inl c)] at p1
    have key := cnt 0 p1.symm
    rw [c] at key ⊢
    simp (disch := omega) only [e101_230, e101_232, e101_235, e101_237, e101_239, e101_242, e101_244, e101_246, e101_257, true_or, m_psh_s, m_psh_n, m_kl_i, m_kl_f, m_kl_r, m_kl_n, m_kl_j, m_kl_l, m_kl_d, c_i, c_f, c_r, c_n, List.length_nil, List.length_cons, true_and, and_true, Nat.reduceAdd, Nat.reduceLeDiff, Nat.reduceSub, Nat.reduceEqDiff, Nat.reduceLT, ge_iff_le, gt_iff_lt, n_lit, m_in, m_nar0, m_nar1, and_self, not_false_eq_true, not_true_eq_false, ne_eq, reduceIte, ite_self, Nat.reduceMul, Nat.reduceDiv, Nat.reduceMod, Nat.reducePow, Nat.zero_add, Nat.add_zero, Nat.one_mul, Nat.mul_one, n_in, n_min, n_clamp, n_eq_t, n_eq_f, n_eq, n_le_t, n_le_f, n_le, n_lt_t, n_lt_f, n_lt, n_sub0, n_sublt, n_suble, n_negsub, m_up_hit, m_up_miss, m_row_hit, m_row_miss, n_eqm, n_meq, n_meqm, n_ltm, n_lem, n_mlt, n_mle, n_sub, n_div, n_and1, n_shl, n_shr, n_inc, n_mul, n_rem, z_lt, z_le, z_nlt, z_nle, Nat.not_lt_zero, Nat.le_zero_eq, Nat.zero_le, if_true, if_false, x1, eq_self]
    exact key
  · rcases ob_bs (q_bs st.1 st.2.1) with ho | ⟨p, ho⟩
    · rw [if_pos (Or.inr ho)] at p1
      have key := cnt 0 p1.symm
      have e1 : q_loI none = -nI 6 := rfl
      rw [ho, e1] at key ⊢
      simp (disch := omega) only [e101_230, e101_232, e101_235, e101_237, e101_239, e101_242, e101_244, e101_246, e101_249, e101_250, e101_257, true_or, m_psh_s, m_psh_n, m_kl_i, m_kl_f, m_kl_r, m_kl_n, m_kl_j, m_kl_l, m_kl_d, c_i, c_f, c_r, c_n, List.length_nil, List.length_cons, true_and, and_true, Nat.reduceAdd, Nat.reduceLeDiff, Nat.reduceSub, Nat.reduceEqDiff, Nat.reduceLT, ge_iff_le, gt_iff_lt, n_lit, m_in, m_nar0, m_nar1, and_self, not_false_eq_true, not_true_eq_false, ne_eq, reduceIte, ite_self, Nat.reduceMul, Nat.reduceDiv, Nat.reduceMod, Nat.reducePow, Nat.zero_add, Nat.add_zero, Nat.one_mul, Nat.mul_one, n_in, n_min, n_clamp, n_eq_t, n_eq_f, n_eq, n_le_t, n_le_f, n_le, n_lt_t, n_lt_f, n_lt, n_sub0, n_sublt, n_suble, n_negsub, m_up_hit, m_up_miss, m_row_hit, m_row_miss, n_eqm, n_meq, n_meqm, n_ltm, n_lem, n_mlt, n_mle, n_sub, n_div, n_and1, n_shl, n_shr, n_inc, n_mul, n_rem, z_lt, z_le, z_nlt, z_nle, Nat.not_lt_zero, Nat.le_zero_eq, Nat.zero_le, if_true, if_false, x1, eq_self]
      exact key
    · rw [if_neg (by rintro (h | h); exact c h; rw [ho] at h; cases h)] at p1
      have hlt := q_bp_lt ho
      have key := cnt 1 p1.symm
      have e1 : q_loI (some p) = nI (p / 30) := rfl
      rw [ho, e1] at key ⊢
      simp (disch := omega) only [e101_230, e101_232, e101_235, e101_237, e101_239, e101_242, e101_244, e101_246, e101_249, e101_250, e101_253, e101_254, true_or, m_psh_s, m_psh_n, m_kl_i, m_kl_f, m_kl_r, m_kl_n, m_kl_j, m_kl_l, m_kl_d, c_i, c_f, c_r, c_n, List.length_nil, List.length_cons, true_and, and_true, Nat.reduceAdd, Nat.reduceLeDiff, Nat.reduceSub, Nat.reduceEqDiff, Nat.reduceLT, ge_iff_le, gt_iff_lt, n_lit, m_in, m_nar0, m_nar1, and_self, not_false_eq_true, not_true_eq_false, ne_eq, reduceIte, ite_self, Nat.reduceMul, Nat.reduceDiv, Nat.reduceMod, Nat.reducePow, Nat.zero_add, Nat.add_zero, Nat.one_mul, Nat.mul_one, n_in, n_min, n_clamp, n_eq_t, n_eq_f, n_eq, n_le_t, n_le_f, n_le, n_lt_t, n_lt_f, n_lt, n_sub0, n_sublt, n_suble, n_negsub, m_up_hit, m_up_miss, m_row_hit, m_row_miss, n_eqm, n_meq, n_meqm, n_ltm, n_lem, n_mlt, n_mle, n_sub, n_div, n_and1, n_shl, n_shr, n_inc, n_mul, n_rem, z_lt, z_le, z_nlt, z_nle, Nat.not_lt_zero, Nat.le_zero_eq, Nat.zero_le, if_true, if_false, x1, eq_self]
      exact key
end NIGHTO
