section SUMSB
variable {lay : mL} {d e n n' k : Nat} {I I' : mI} {F F' : mF} {R R' : mR} {Q : mP} {st st' : St} {hs hs' : List St}
def q_f (sp : Nat → UInt32) (k : Nat) : Int32 := if k = 0 then -nI 6 else nI (q_fst sp (k - 1))
theorem su_2t {k f c : Nat} {v8 v9 : Value} {t : Int32} (hl : HL lay) (G : GD e st) (he : e ≤ 50) (hd : 3 ≤ d) (hk : k < st.1 3) (T : TW lay st hs st' hs' I F R n) (hQ : ∀ I' F' R', I' 0 = I 0 → TW lay st hs st' hs' I' F' R' n → Ev lay d 98 164 [.ref 1, .int t, .int (nI 0), .int (nI 0), .int (nI f), .int (nI c), .int (nI 1), .int (nI (k + 1)), v8, v9] [] I' F' R' n Q) : Ev lay d 98 217 [.ref 1, .int t, .int (nI 0), .int (nI 0), .int (nI f), .int (nI c), .int (nI 1), .int (nI k), v8, v9] [] I F R n Q := by
  have wf := G.1
  have x1 := TW_1 T
  have w3 := wf.1.1
  have a1 := G.2.1.1 k (by omega)
  have p1 := (wf.2.2.2.2.2.2.1 k (by omega)).1
  have d1 := wf.2.2.2.1.1
  have hi50 := G.2.2.1
  have fo := Wf_f wf k hk
  unfold fOK at fo
  simp (disch := omega) only [e98_217, e98_219, e98_222, e98_222N, e98_223, e98_225, e98_226, true_or, m_psh_s, m_psh_n, m_kl_i, m_kl_f, m_kl_r, m_kl_n, m_kl_j, m_kl_l, m_kl_d, c_i, c_f, c_r, c_n, List.length_nil, List.length_cons, true_and, and_true, Nat.reduceAdd, Nat.reduceLeDiff, Nat.reduceSub, Nat.reduceEqDiff, Nat.reduceLT, ge_iff_le, gt_iff_lt, n_lit, m_in, m_nar0, m_nar1, and_self, not_false_eq_true, not_true_eq_false, ne_eq, reduceIte, ite_self, Nat.reduceMul, Nat.reduceDiv, Nat.reduceMod, Nat.reducePow, Nat.zero_add, Nat.add_zero, Nat.one_mul, Nat.mul_one, n_in, n_min, n_clamp, n_eq_t, n_eq_f, n_eq, n_le_t, n_le_f, n_le, n_lt_t, n_lt_f, n_lt, n_sub0, n_sublt, n_suble, n_negsub, m_up_hit, m_up_miss, m_row_hit, m_row_miss, n_eqm, n_meq, n_meqm, n_ltm, n_lem, n_mlt, n_mle, n_sub, n_div, n_and1, n_shl, n_shr, n_inc, n_mul, n_rem, z_lt, z_le, z_nlt, z_nle, Nat.not_lt_zero, Nat.le_zero_eq, Nat.zero_le, if_true, if_false, x1]
  refine k_of (d := d - 1) hl wf (by omega) _ _ _ _ _ _ _ T fun I1 F1 R1 n1 a1 b1 z1 T1 => ?_
  obtain rfl : n1 = n := by omega
  rw [v_of2 hk w3]
  simp (disch := omega) only [e98_229, e98_229N, e98_230, e98_232, e98_233, true_or, m_psh_s, m_psh_n, m_kl_i, m_kl_f, m_kl_r, m_kl_n, m_kl_j, m_kl_l, m_kl_d, c_i, c_f, c_r, c_n, List.length_nil, List.length_cons, true_and, and_true, Nat.reduceAdd, Nat.reduceLeDiff, Nat.reduceSub, Nat.reduceEqDiff, Nat.reduceLT, ge_iff_le, gt_iff_lt, n_lit, m_in, m_nar0, m_nar1, and_self, not_false_eq_true, not_true_eq_false, ne_eq, reduceIte, ite_self, Nat.reduceMul, Nat.reduceDiv, Nat.reduceMod, Nat.reducePow, Nat.zero_add, Nat.add_zero, Nat.one_mul, Nat.mul_one, n_in, n_min, n_clamp, n_eq_t, n_eq_f, n_eq, n_le_t, n_le_f, n_le, n_lt_t, n_lt_f, n_lt, n_sub0, n_sublt, n_suble, n_negsub, m_up_hit, m_up_miss, m_row_hit, m_row_miss, n_eqm, n_meq, n_meqm, n_ltm, n_lem, n_mlt, n_mle, n_sub, n_div, n_and1, n_shl, n_shr, n_inc, n_mul, n_rem, z_lt, z_le, z_nlt, z_nle, Nat.not_lt_zero, Nat.le_zero_eq, Nat.zero_le, if_true, if_false, x1]
  refine k_of (d := d - 1) hl wf (by omega) _ _ _ _ _ _ _ T1 fun I2 F2 R2 n2 a2 b2 z2 T2 => ?_
  obtain rfl : n2 = n1 := by omega
  rw [v_of3 hk w3]
  simp (disch := omega) only [e98_236, e98_239, e98_239N, e98_240, e98_242, e98_243, true_or, m_psh_s, m_psh_n, m_kl_i, m_kl_f, m_kl_r, m_kl_n, m_kl_j, m_kl_l, m_kl_d, c_i, c_f, c_r, c_n, List.length_nil, List.length_cons, true_and, and_true, Nat.reduceAdd, Nat.reduceLeDiff, Nat.reduceSub, Nat.reduceEqDiff, Nat.reduceLT, ge_iff_le, gt_iff_lt, n_lit, m_in, m_nar0, m_nar1, and_self, not_false_eq_true, not_true_eq_false, ne_eq, reduceIte, ite_self, Nat.reduceMul, Nat.reduceDiv, Nat.reduceMod, Nat.reducePow, Nat.zero_add, Nat.add_zero, Nat.one_mul, Nat.mul_one, n_in, n_min, n_clamp, n_eq_t, n_eq_f, n_eq, n_le_t, n_le_f, n_le, n_lt_t, n_lt_f, n_lt, n_sub0, n_sublt, n_suble, n_negsub, m_up_hit, m_up_miss, m_row_hit, m_row_miss, n_eqm, n_meq, n_meqm, n_ltm, n_lem, n_mlt, n_mle, n_sub, n_div, n_and1, n_shl, n_shr, n_inc, n_mul, n_rem, z_lt, z_le, z_nlt, z_nle, Nat.not_lt_zero, Nat.le_zero_eq, Nat.zero_le, if_true, if_false, x1]
  refine k_of (d := d - 1) hl wf (by omega) _ _ _ _ _ _ _ T2 fun I3 F3 R3 n3 a3 b3 z3 T3 => ?_
  obtain rfl : n3 = n2 := by omega
  rw [v_of2 hk w3]
  simp (disch := omega) only [e98_246, e98_246N, e98_247, e98_248, true_or, m_psh_s, m_psh_n, m_kl_i, m_kl_f, m_kl_r, m_kl_n, m_kl_j, m_kl_l, m_kl_d, c_i, c_f, c_r, c_n, List.length_nil, List.length_cons, true_and, and_true, Nat.reduceAdd, Nat.reduceLeDiff, Nat.reduceSub, Nat.reduceEqDiff, Nat.reduceLT, ge_iff_le, gt_iff_lt, n_lit, m_in, m_nar0, m_nar1, and_self, not_false_eq_true, not_true_eq_false, ne_eq, reduceIte, ite_self, Nat.reduceMul, Nat.reduceDiv, Nat.reduceMod, Nat.reducePow, Nat.zero_add, Nat.add_zero, Nat.one_mul, Nat.mul_one, n_in, n_min, n_clamp, n_eq_t, n_eq_f, n_eq, n_le_t, n_le_f, n_le, n_lt_t, n_lt_f, n_lt, n_sub0, n_sublt, n_suble, n_negsub, m_up_hit, m_up_miss, m_row_hit, m_row_miss, n_eqm, n_meq, n_meqm, n_ltm, n_lem, n_mlt, n_mle, n_sub, n_div, n_and1, n_shl, n_shr, n_inc, n_mul, n_rem, z_lt, z_le, z_nlt, z_nle, Nat.not_lt_zero, Nat.le_zero_eq, Nat.zero_le, if_true, if_false, x1]
  refine k_count (d := d - 1) hl wf (by omega) _ _ _ _ _ _ _ T3 fun I4 F4 R4 n4 a4 b4 z4 T4 => ?_
  obtain rfl : n4 = n3 := by omega
  rw [v_c2]
  simp (disch := omega) only [e98_251, e98_254, e98_254N, e98_255, e98_257, e98_258, true_or, m_psh_s, m_psh_n, m_kl_i, m_kl_f, m_kl_r, m_kl_n, m_kl_j, m_kl_l, m_kl_d, c_i, c_f, c_r, c_n, List.length_nil, List.length_cons, true_and, and_true, Nat.reduceAdd, Nat.reduceLeDiff, Nat.reduceSub, Nat.reduceEqDiff, Nat.reduceLT, ge_iff_le, gt_iff_lt, n_lit, m_in, m_nar0, m_nar1, and_self, not_false_eq_true, not_true_eq_false, ne_eq, reduceIte, ite_self, Nat.reduceMul, Nat.reduceDiv, Nat.reduceMod, Nat.reducePow, Nat.zero_add, Nat.add_zero, Nat.one_mul, Nat.mul_one, n_in, n_min, n_clamp, n_eq_t, n_eq_f, n_eq, n_le_t, n_le_f, n_le, n_lt_t, n_lt_f, n_lt, n_sub0, n_sublt, n_suble, n_negsub, m_up_hit, m_up_miss, m_row_hit, m_row_miss, n_eqm, n_meq, n_meqm, n_ltm, n_lem, n_mlt, n_mle, n_sub, n_div, n_and1, n_shl, n_shr, n_inc, n_mul, n_rem, z_lt, z_le, z_nlt, z_nle, Nat.not_lt_zero, Nat.le_zero_eq, Nat.zero_le, if_true, if_false, x1]
  refine k_of (d := d - 1) hl wf (by omega) _ _ _ _ _ _ _ T4 fun I5 F5 R5 n5 a5 b5 z5 T5 => ?_
  obtain rfl : n5 = n4 := by omega
  rw [v_of1 hk w3]
  have key := hQ I5 F5 R5 (z5.trans (z4.trans (z3.trans (z2.trans (z1))))) T5
  simp (disch := omega) only [e98_261, e98_264, e98_265, e98_268, e98_269, e98_271, e98_274, true_or, m_psh_s, m_psh_n, m_kl_i, m_kl_f, m_kl_r, m_kl_n, m_kl_j, m_kl_l, m_kl_d, c_i, c_f, c_r, c_n, List.length_nil, List.length_cons, true_and, and_true, Nat.reduceAdd, Nat.reduceLeDiff, Nat.reduceSub, Nat.reduceEqDiff, Nat.reduceLT, ge_iff_le, gt_iff_lt, n_lit, m_in, m_nar0, m_nar1, and_self, not_false_eq_true, not_true_eq_false, ne_eq, reduceIte, ite_self, Nat.reduceMul, Nat.reduceDiv, Nat.reduceMod, Nat.reducePow, Nat.zero_add, Nat.add_zero, Nat.one_mul, Nat.mul_one, n_in, n_min, n_clamp, n_eq_t, n_eq_f, n_eq, n_le_t, n_le_f, n_le, n_lt_t, n_lt_f, n_lt, n_sub0, n_sublt, n_suble, n_negsub, m_up_hit, m_up_miss, m_row_hit, m_row_miss, n_eqm, n_meq, n_meqm, n_ltm, n_lem, n_mlt, n_mle, n_sub, n_div, n_and1, n_shl, n_shr, n_inc, n_mul, n_rem, z_lt, z_le, z_nlt, z_nle, Nat.not_lt_zero, Nat.le_zero_eq, Nat.zero_le, if_true, if_false, x1]
  exact key
theorem su_2 (hl : HL lay) (G : GD e st) (he : e ≤ 50) (hd : 3 ≤ d) {c : Nat} {v8 v9 : Value} (j : Nat) : ∀ (k : Nat) (I : mI) (F : mF) (R : mR), k + j = st.1 3 → TW lay st hs st' hs' I F R n → (∀ I' F' R', I' 0 = I 0 → TW lay st hs st' hs' I' F' R' n → Ev lay d 98 277 [.ref 1, .int (nI (q_sg st.1 (st.1 3))), .int (nI 0), .int (nI 0), .int (q_f st.2.1 (st.1 3)), .int (nI c), .int (nI 1), .int (nI (st.1 3)), v8, v9] [] I' F' R' n Q) → Ev lay d 98 164 [.ref 1, .int (nI (q_sg st.1 k)), .int (nI 0), .int (nI 0), .int (q_f st.2.1 k), .int (nI c), .int (nI 1), .int (nI k), v8, v9] [] I F R n Q := by
  have wf := G.1
  have w3 := wf.1.1
  induction j with
  | zero =>
    intro k I F R hk T hQ
    have hk2 : k = st.1 3 := by omega
    subst hk2
    have x1 := TW_1 T
    rw [e98_164]
    simp (disch := omega) only [e98_166, e98_166N, e98_167, e98_168, true_or, m_psh_s, m_psh_n, m_kl_i, m_kl_f, m_kl_r, m_kl_n, m_kl_j, m_kl_l, m_kl_d, c_i, c_f, c_r, c_n, List.length_nil, List.length_cons, true_and, and_true, Nat.reduceAdd, Nat.reduceLeDiff, Nat.reduceSub, Nat.reduceEqDiff, Nat.reduceLT, ge_iff_le, gt_iff_lt, n_lit, m_in, m_nar0, m_nar1, and_self, not_false_eq_true, not_true_eq_false, ne_eq, reduceIte, ite_self, Nat.reduceMul, Nat.reduceDiv, Nat.reduceMod, Nat.reducePow, Nat.zero_add, Nat.add_zero, Nat.one_mul, Nat.mul_one, n_in, n_min, n_clamp, n_eq_t, n_eq_f, n_eq, n_le_t, n_le_f, n_le, n_lt_t, n_lt_f, n_lt, n_sub0, n_sublt, n_suble, n_negsub, m_up_hit, m_up_miss, m_row_hit, m_row_miss, n_eqm, n_meq, n_meqm, n_ltm, n_lem, n_mlt, n_mle, n_sub, n_div, n_and1, n_shl, n_shr, n_inc, n_mul, n_rem, z_lt, z_le, z_nlt, z_nle, Nat.not_lt_zero, Nat.le_zero_eq, Nat.zero_le, if_true, if_false, x1]
    refine k_count (d := d - 1) hl wf (by omega) _ _ _ _ _ _ _ T fun I1 F1 R1 n1 a1 b1 z1 T1 => ?_
    obtain rfl : n1 = n := by omega
    rw [v_c1]
    have key := hQ I1 F1 R1 (z1) T1
    simp (disch := omega) only [e98_171, true_or, m_psh_s, m_psh_n, m_kl_i, m_kl_f, m_kl_r, m_kl_n, m_kl_j, m_kl_l, m_kl_d, c_i, c_f, c_r, c_n, List.length_nil, List.length_cons, true_and, and_true, Nat.reduceAdd, Nat.reduceLeDiff, Nat.reduceSub, Nat.reduceEqDiff, Nat.reduceLT, ge_iff_le, gt_iff_lt, n_lit, m_in, m_nar0, m_nar1, and_self, not_false_eq_true, not_true_eq_false, ne_eq, reduceIte, ite_self, Nat.reduceMul, Nat.reduceDiv, Nat.reduceMod, Nat.reducePow, Nat.zero_add, Nat.add_zero, Nat.one_mul, Nat.mul_one, n_in, n_min, n_clamp, n_eq_t, n_eq_f, n_eq, n_le_t, n_le_f, n_le, n_lt_t, n_lt_f, n_lt, n_sub0, n_sublt, n_suble, n_negsub, m_up_hit, m_up_miss, m_row_hit, m_row_miss, n_eqm, n_meq, n_meqm, n_ltm, n_lem, n_mlt, n_mle, n_sub, n_div, n_and1, n_shl, n_shr, n_inc, n_mul, n_rem, z_lt, z_le, z_nlt, z_nle, Nat.not_lt_zero, Nat.le_zero_eq, Nat.zero_le, if_true, if_false, x1]
    exact key
  | succ j ih =>
    intro k I F R hk T hQ
    have x1 := TW_1 T
    have hk3 : k < st.1 3 := by omega
    have nxt := fun I F R => ih (k + 1) I F R (by omega)
    rw [q_sg] at nxt
    rw [e98_164]
    simp (disch := omega) only [e98_166, e98_166N, e98_167, e98_168, true_or, m_psh_s, m_psh_n, m_kl_i, m_kl_f, m_kl_r, m_kl_n, m_kl_j, m_kl_l, m_kl_d, c_i, c_f, c_r, c_n, List.length_nil, List.length_cons, true_and, and_true, Nat.reduceAdd, Nat.reduceLeDiff, Nat.reduceSub, Nat.reduceEqDiff, Nat.reduceLT, ge_iff_le, gt_iff_lt, n_lit, m_in, m_nar0, m_nar1, and_self, not_false_eq_true, not_true_eq_false, ne_eq, reduceIte, ite_self, Nat.reduceMul, Nat.reduceDiv, Nat.reduceMod, Nat.reducePow, Nat.zero_add, Nat.add_zero, Nat.one_mul, Nat.mul_one, n_in, n_min, n_clamp, n_eq_t, n_eq_f, n_eq, n_le_t, n_le_f, n_le, n_lt_t, n_lt_f, n_lt, n_sub0, n_sublt, n_suble, n_negsub, m_up_hit, m_up_miss, m_row_hit, m_row_miss, n_eqm, n_meq, n_meqm, n_ltm, n_lem, n_mlt, n_mle, n_sub, n_div, n_and1, n_shl, n_shr, n_inc, n_mul, n_rem, z_lt, z_le, z_nlt, z_nle, Nat.not_lt_zero, Nat.le_zero_eq, Nat.zero_le, if_true, if_false, x1]
    refine k_count (d := d - 1) hl wf (by omega) _ _ _ _ _ _ _ T fun I1 F1 R1 n1 a1 b1 z1 T1 => ?_
    obtain rfl : n1 = n := by omega
    rw [v_c1]
    simp (disch := omega) only [e98_171, e98_174, e98_175, e98_175N, e98_176, e98_178, e98_179, true_or, m_psh_s, m_psh_n, m_kl_i, m_kl_f, m_kl_r, m_kl_n, m_kl_j, m_kl_l, m_kl_d, c_i, c_f, c_r, c_n, List.length_nil, List.length_cons, true_and, and_true, Nat.reduceAdd, Nat.reduceLeDiff, Nat.reduceSub, Nat.reduceEqDiff, Nat.reduceLT, ge_iff_le, gt_iff_lt, n_lit, m_in, m_nar0, m_nar1, and_self, not_false_eq_true, not_true_eq_false, ne_eq, reduceIte, ite_self, Nat.reduceMul, Nat.reduceDiv, Nat.reduceMod, Nat.reducePow, Nat.zero_add, Nat.add_zero, Nat.one_mul, Nat.mul_one, n_in, n_min, n_clamp, n_eq_t, n_eq_f, n_eq, n_le_t, n_le_f, n_le, n_lt_t, n_lt_f, n_lt, n_sub0, n_sublt, n_suble, n_negsub, m_up_hit, m_up_miss, m_row_hit, m_row_miss, n_eqm, n_meq, n_meqm, n_ltm, n_lem, n_mlt, n_mle, n_sub, n_div, n_and1, n_shl, n_shr, n_inc, n_mul, n_rem, z_lt, z_le, z_nlt, z_nle, Nat.not_lt_zero, Nat.le_zero_eq, Nat.zero_le, if_true, if_false, x1]
    refine k_of (d := d - 1) hl wf (by omega) _ _ _ _ _ _ _ T1 fun I2 F2 R2 n2 a2 b2 z2 T2 => ?_
    obtain rfl : n2 = n1 := by omega
    rw [v_of2 hk3 w3]
    have fin : ∀ (f : Nat) (I : mI) (F : mF) (R : mR), q_f st.2.1 (k + 1) = nI f → I 0 = I2 0 → TW lay st hs st' hs' I F R n2 → Ev lay d 98 217 [.ref 1, .int (nI (q_sg st.1 k + st.1 (5 + 4 * k))), .int (nI 0), .int (nI 0), .int (nI f), .int (nI c), .int (nI 1), .int (nI k), v8, v9] [] I F R n2 Q := by
      intro f I3 F3 R3 hf z3 T3
      refine su_2t hl G he hd hk3 T3 fun I4 F4 R4 z4 T4 => ?_
      rw [← hf]
      exact nxt I4 F4 R4 T4 fun I' F' R' z T' => hQ I' F' R' (z.trans (z4.trans (z3.trans (z2.trans (z1))))) T'
    by_cases c0 : k = 0
    · subst c0
      have e0 : q_f st.2.1 0 = -nI 6 := rfl
      have key := fin 0 I2 F2 R2 rfl rfl T2
      rw [e0]
      simp (disch := omega) only [e98_182, e98_183, e98_184, e98_186, e98_188, e98_208, e98_210, e98_213, e98_215, true_or, m_psh_s, m_psh_n, m_kl_i, m_kl_f, m_kl_r, m_kl_n, m_kl_j, m_kl_l, m_kl_d, c_i, c_f, c_r, c_n, List.length_nil, List.length_cons, true_and, and_true, Nat.reduceAdd, Nat.reduceLeDiff, Nat.reduceSub, Nat.reduceEqDiff, Nat.reduceLT, ge_iff_le, gt_iff_lt, n_lit, m_in, m_nar0, m_nar1, and_self, not_false_eq_true, not_true_eq_false, ne_eq, reduceIte, ite_self, Nat.reduceMul, Nat.reduceDiv, Nat.reduceMod, Nat.reducePow, Nat.zero_add, Nat.add_zero, Nat.one_mul, Nat.mul_one, n_in, n_min, n_clamp, n_eq_t, n_eq_f, n_eq, n_le_t, n_le_f, n_le, n_lt_t, n_lt_f, n_lt, n_sub0, n_sublt, n_suble, n_negsub, m_up_hit, m_up_miss, m_row_hit, m_row_miss, n_eqm, n_meq, n_meqm, n_ltm, n_lem, n_mlt, n_mle, n_sub, n_div, n_and1, n_shl, n_shr, n_inc, n_mul, n_rem, z_lt, z_le, z_nlt, z_nle, Nat.not_lt_zero, Nat.le_zero_eq, Nat.zero_le, if_true, if_false, x1]
      exact key
    · have e0 : q_f st.2.1 k = nI (q_fst st.2.1 (k - 1)) := if_neg c0
      have hf := q_fst_le st.2.1 (k - 1)
      have fl := Wf_f wf _ (show q_fst st.2.1 (k - 1) < st.1 3 by omega)
      have fk := Wf_f wf k hk3
      have en : q_f st.2.1 (k + 1) = nI (if q_le (st.2.1 k) (st.2.1 (q_fst st.2.1 (k - 1))) then q_fst st.2.1 (k - 1) else k) := by
        obtain ⟨m, rfl⟩ : ∃ m, k = m + 1 := ⟨k - 1, by omega⟩
        rfl
      rw [e0]
      simp (disch := omega) only [e98_182, e98_183, e98_184, e98_186, e98_188, e98_191, e98_191N, e98_192, e98_194, e98_195, true_or, m_psh_s, m_psh_n, m_kl_i, m_kl_f, m_kl_r, m_kl_n, m_kl_j, m_kl_l, m_kl_d, c_i, c_f, c_r, c_n, List.length_nil, List.length_cons, true_and, and_true, Nat.reduceAdd, Nat.reduceLeDiff, Nat.reduceSub, Nat.reduceEqDiff, Nat.reduceLT, ge_iff_le, gt_iff_lt, n_lit, m_in, m_nar0, m_nar1, and_self, not_false_eq_true, not_true_eq_false, ne_eq, reduceIte, ite_self, Nat.reduceMul, Nat.reduceDiv, Nat.reduceMod, Nat.reducePow, Nat.zero_add, Nat.add_zero, Nat.one_mul, Nat.mul_one, n_in, n_min, n_clamp, n_eq_t, n_eq_f, n_eq, n_le_t, n_le_f, n_le, n_lt_t, n_lt_f, n_lt, n_sub0, n_sublt, n_suble, n_negsub, m_up_hit, m_up_miss, m_row_hit, m_row_miss, n_eqm, n_meq, n_meqm, n_ltm, n_lem, n_mlt, n_mle, n_sub, n_div, n_and1, n_shl, n_shr, n_inc, n_mul, n_rem, z_lt, z_le, z_nlt, z_nle, Nat.not_lt_zero, Nat.le_zero_eq, Nat.zero_le, if_true, if_false, x1]
      refine k_of (d := d - 1) hl wf (by omega) _ _ _ _ _ _ _ T2 fun I3 F3 R3 n3 a3 b3 z3 T3 => ?_
      obtain rfl : n3 = n2 := by omega
      rw [v_of1 hk3 w3]
      simp (disch := omega) only [e98_198, e98_198N, e98_199, e98_201, e98_202, true_or, m_psh_s, m_psh_n, m_kl_i, m_kl_f, m_kl_r, m_kl_n, m_kl_j, m_kl_l, m_kl_d, c_i, c_f, c_r, c_n, List.length_nil, List.length_cons, true_and, and_true, Nat.reduceAdd, Nat.reduceLeDiff, Nat.reduceSub, Nat.reduceEqDiff, Nat.reduceLT, ge_iff_le, gt_iff_lt, n_lit, m_in, m_nar0, m_nar1, and_self, not_false_eq_true, not_true_eq_false, ne_eq, reduceIte, ite_self, Nat.reduceMul, Nat.reduceDiv, Nat.reduceMod, Nat.reducePow, Nat.zero_add, Nat.add_zero, Nat.one_mul, Nat.mul_one, n_in, n_min, n_clamp, n_eq_t, n_eq_f, n_eq, n_le_t, n_le_f, n_le, n_lt_t, n_lt_f, n_lt, n_sub0, n_sublt, n_suble, n_negsub, m_up_hit, m_up_miss, m_row_hit, m_row_miss, n_eqm, n_meq, n_meqm, n_ltm, n_lem, n_mlt, n_mle, n_sub, n_div, n_and1, n_shl, n_shr, n_inc, n_mul, n_rem, z_lt, z_le, z_nlt, z_nle, Nat.not_lt_zero, Nat.le_zero_eq, Nat.zero_le, if_true, if_false, x1]
      refine k_of (d := d - 1) hl wf (by omega) _ _ _ _ _ _ _ T3 fun I4 F4 R4 n4 a4 b4 z4 T4 => ?_
      obtain rfl : n4 = n3 := by omega
      rw [v_of1 (by omega) w3]
      have hle := q_le_n fk fl
      unfold fOK at fl fk
      by_cases c1 : q_le (st.2.1 k) (st.2.1 (q_fst st.2.1 (k - 1)))
      · rw [if_pos c1] at en
        have c2 := hle.mp c1
        have key := fin _ I4 F4 R4 en (z4.trans z3) T4
        simp (disch := omega) only [e98_205, e98_208, e98_210, e98_213, e98_215, true_or, m_psh_s, m_psh_n, m_kl_i, m_kl_f, m_kl_r, m_kl_n, m_kl_j, m_kl_l, m_kl_d, c_i, c_f, c_r, c_n, List.length_nil, List.length_cons, true_and, and_true, Nat.reduceAdd, Nat.reduceLeDiff, Nat.reduceSub, Nat.reduceEqDiff, Nat.reduceLT, ge_iff_le, gt_iff_lt, n_lit, m_in, m_nar0, m_nar1, and_self, not_false_eq_true, not_true_eq_false, ne_eq, reduceIte, ite_self, Nat.reduceMul, Nat.reduceDiv, Nat.reduceMod, Nat.reducePow, Nat.zero_add, Nat.add_zero, Nat.one_mul, Nat.mul_one, n_in, n_min, n_clamp, n_eq_t, n_eq_f, n_eq, n_le_t, n_le_f, n_le, n_lt_t, n_lt_f, n_lt, n_sub0, n_sublt, n_suble, n_negsub, m_up_hit, m_up_miss, m_row_hit, m_row_miss, n_eqm, n_meq, n_meqm, n_ltm, n_lem, n_mlt, n_mle, n_sub, n_div, n_and1, n_shl, n_shr, n_inc, n_mul, n_rem, z_lt, z_le, z_nlt, z_nle, Nat.not_lt_zero, Nat.le_zero_eq, Nat.zero_le, if_true, if_false, x1]
        exact key
      · rw [if_neg c1] at en
        have c2 : (st.2.1 (q_fst st.2.1 (k - 1))).toNat < (st.2.1 k).toNat := Nat.lt_of_not_le fun h => c1 (hle.mpr h)
        have key := fin _ I4 F4 R4 en (z4.trans z3) T4
        simp (disch := omega) only [e98_205, e98_208, e98_210, e98_213, e98_215, true_or, m_psh_s, m_psh_n, m_kl_i, m_kl_f, m_kl_r, m_kl_n, m_kl_j, m_kl_l, m_kl_d, c_i, c_f, c_r, c_n, List.length_nil, List.length_cons, true_and, and_true, Nat.reduceAdd, Nat.reduceLeDiff, Nat.reduceSub, Nat.reduceEqDiff, Nat.reduceLT, ge_iff_le, gt_iff_lt, n_lit, m_in, m_nar0, m_nar1, and_self, not_false_eq_true, not_true_eq_false, ne_eq, reduceIte, ite_self, Nat.reduceMul, Nat.reduceDiv, Nat.reduceMod, Nat.reducePow, Nat.zero_add, Nat.add_zero, Nat.one_mul, Nat.mul_one, n_in, n_min, n_clamp, n_eq_t, n_eq_f, n_eq, n_le_t, n_le_f, n_le, n_lt_t, n_lt_f, n_lt, n_sub0, n_sublt, n_suble, n_negsub, m_up_hit, m_up_miss, m_row_hit, m_row_miss, n_eqm, n_meq, n_meqm, n_ltm, n_lem, n_mlt, n_mle, n_sub, n_div, n_and1, n_shl, n_shr, n_inc, n_mul, n_rem, z_lt, z_le, z_nlt, z_nle, Nat.not_lt_zero, Nat.le_zero_eq, Nat.zero_le, if_true, if_false, x1]
        exact key
/-- the bits of a basket, taken from what was picked -/
theorem su_3i {A b w f c r : Nat} (hb : b < 65536) (hA : q_on b 16 ≤ A) (hA2 : A < 1000) (j : Nat) : ∀ (k : Nat), k + j = 16 → Ev lay d 98 380 [.ref 1, .int (nI (A - q_on b 16)), .int (nI w), .int (nI 0), .int (q_f st.2.1 f), .int (nI c), .int (nI 1), .int (nI r), .int (nI b), .int (nI 16)] [] I F R n Q → Ev lay d 98 357 [.ref 1, .int (nI (A - q_on b k)), .int (nI w), .int (nI 0), .int (q_f st.2.1 f), .int (nI c), .int (nI 1), .int (nI r), .int (nI b), .int (nI k)] [] I F R n Q := by
  induction j with
  | zero =>
    intro k hk key
    have hk2 : k = 16 := by omega
    subst hk2
    rw [e98_357]
    simp (disch := omega) only [e98_359, e98_361, true_or, m_psh_s, m_psh_n, m_kl_i, m_kl_f, m_kl_r, m_kl_n, m_kl_j, m_kl_l, m_kl_d, c_i, c_f, c_r, c_n, List.length_nil, List.length_cons, true_and, and_true, Nat.reduceAdd, Nat.reduceLeDiff, Nat.reduceSub, Nat.reduceEqDiff, Nat.reduceLT, ge_iff_le, gt_iff_lt, n_lit, m_in, m_nar0, m_nar1, and_self, not_false_eq_true, not_true_eq_false, ne_eq, reduceIte, ite_self, Nat.reduceMul, Nat.reduceDiv, Nat.reduceMod, Nat.reducePow, Nat.zero_add, Nat.add_zero, Nat.one_mul, Nat.mul_one, n_in, n_min, n_clamp, n_eq_t, n_eq_f, n_eq, n_le_t, n_le_f, n_le, n_lt_t, n_lt_f, n_lt, n_sub0, n_sublt, n_suble, n_negsub, m_up_hit, m_up_miss, m_row_hit, m_row_miss, n_eqm, n_meq, n_meqm, n_ltm, n_lem, n_mlt, n_mle, n_sub, n_div, n_and1, n_shl, n_shr, n_inc, n_mul, n_rem, z_lt, z_le, z_nlt, z_nle, Nat.not_lt_zero, Nat.le_zero_eq, Nat.zero_le, if_true, if_false]
    exact key
  | succ j ih =>
    intro k hk key
    have key := ih (k + 1) (by omega) key
    have hm := q_on_mono (b := b) (show k + 1 ≤ 16 by omega)
    rw [q_on_s] at key hm
    rw [e98_357]
    simp (disch := omega) only [e98_359, e98_361, e98_364, e98_365, e98_367, e98_369, e98_370, e98_371, e98_372, e98_373, e98_374, e98_377, true_or, m_psh_s, m_psh_n, m_kl_i, m_kl_f, m_kl_r, m_kl_n, m_kl_j, m_kl_l, m_kl_d, c_i, c_f, c_r, c_n, List.length_nil, List.length_cons, true_and, and_true, Nat.reduceAdd, Nat.reduceLeDiff, Nat.reduceSub, Nat.reduceEqDiff, Nat.reduceLT, ge_iff_le, gt_iff_lt, n_lit, m_in, m_nar0, m_nar1, and_self, not_false_eq_true, not_true_eq_false, ne_eq, reduceIte, ite_self, Nat.reduceMul, Nat.reduceDiv, Nat.reduceMod, Nat.reducePow, Nat.zero_add, Nat.add_zero, Nat.one_mul, Nat.mul_one, n_in, n_min, n_clamp, n_eq_t, n_eq_f, n_eq, n_le_t, n_le_f, n_le, n_lt_t, n_lt_f, n_lt, n_sub0, n_sublt, n_suble, n_negsub, m_up_hit, m_up_miss, m_row_hit, m_row_miss, n_eqm, n_meq, n_meqm, n_ltm, n_lem, n_mlt, n_mle, n_sub, n_div, n_and1, n_shl, n_shr, n_inc, n_mul, n_rem, z_lt, z_le, z_nlt, z_nle, Nat.not_lt_zero, Nat.le_zero_eq, Nat.zero_le, if_true, if_false]
    rw [show A - q_on b k - b / 2 ^ k % 2 = A - (q_on b k + b / 2 ^ k % 2) by omega]
    exact key
theorem su_3 (hl : HL lay) (G : GD e st) (he : e ≤ 50) (hd : 3 ≤ d) {f c : Nat} (j : Nat) : ∀ (k : Nat) (v8 v9 : Value) (I : mI) (F : mF) (R : mR), k + j = st.1 69 → TW lay st hs st' hs' I F R n → (∀ I' F' R' v8 v9, I' 0 = I 0 → TW lay st hs st' hs' I' F' R' n → Ev lay d 98 386 [.ref 1, .int (nI 0), .int (nI (q_tog st.1 72 (st.1 69))), .int (nI 0), .int (q_f st.2.1 f), .int (nI c), .int (nI 1), .int (nI (st.1 69)), v8, v9] [] I' F' R' n Q) → Ev lay d 98 280 [.ref 1, .int (nI (q_sb st.1 (st.1 69) - q_sb st.1 k)), .int (nI (q_tog st.1 72 k)), .int (nI 0), .int (q_f st.2.1 f), .int (nI c), .int (nI 1), .int (nI k), v8, v9] [] I F R n Q := by
  have wf := G.1
  have w3 := wf.1.1
  have d1 := wf.2.2.2.1.1
  have hi50 := G.2.2.1
  induction j with
  | zero =>
    intro k v8 v9 I F R hk T hQ
    have hk2 : k = st.1 69 := by omega
    subst hk2
    have x1 := TW_1 T
    rw [e98_280, Nat.sub_self]
    simp (disch := omega) only [e98_282, e98_282N, e98_283, e98_284, true_or, m_psh_s, m_psh_n, m_kl_i, m_kl_f, m_kl_r, m_kl_n, m_kl_j, m_kl_l, m_kl_d, c_i, c_f, c_r, c_n, List.length_nil, List.length_cons, true_and, and_true, Nat.reduceAdd, Nat.reduceLeDiff, Nat.reduceSub, Nat.reduceEqDiff, Nat.reduceLT, ge_iff_le, gt_iff_lt, n_lit, m_in, m_nar0, m_nar1, and_self, not_false_eq_true, not_true_eq_false, ne_eq, reduceIte, ite_self, Nat.reduceMul, Nat.reduceDiv, Nat.reduceMod, Nat.reducePow, Nat.zero_add, Nat.add_zero, Nat.one_mul, Nat.mul_one, n_in, n_min, n_clamp, n_eq_t, n_eq_f, n_eq, n_le_t, n_le_f, n_le, n_lt_t, n_lt_f, n_lt, n_sub0, n_sublt, n_suble, n_negsub, m_up_hit, m_up_miss, m_row_hit, m_row_miss, n_eqm, n_meq, n_meqm, n_ltm, n_lem, n_mlt, n_mle, n_sub, n_div, n_and1, n_shl, n_shr, n_inc, n_mul, n_rem, z_lt, z_le, z_nlt, z_nle, Nat.not_lt_zero, Nat.le_zero_eq, Nat.zero_le, if_true, if_false, x1]
    refine k_count (d := d - 1) hl wf (by omega) _ _ _ _ _ _ _ T fun I1 F1 R1 n1 a1 b1 z1 T1 => ?_
    obtain rfl : n1 = n := by omega
    rw [v_c2]
    have key := hQ I1 F1 R1 v8 v9 (z1) T1
    simp (disch := omega) only [e98_287, true_or, m_psh_s, m_psh_n, m_kl_i, m_kl_f, m_kl_r, m_kl_n, m_kl_j, m_kl_l, m_kl_d, c_i, c_f, c_r, c_n, List.length_nil, List.length_cons, true_and, and_true, Nat.reduceAdd, Nat.reduceLeDiff, Nat.reduceSub, Nat.reduceEqDiff, Nat.reduceLT, ge_iff_le, gt_iff_lt, n_lit, m_in, m_nar0, m_nar1, and_self, not_false_eq_true, not_true_eq_false, ne_eq, reduceIte, ite_self, Nat.reduceMul, Nat.reduceDiv, Nat.reduceMod, Nat.reducePow, Nat.zero_add, Nat.add_zero, Nat.one_mul, Nat.mul_one, n_in, n_min, n_clamp, n_eq_t, n_eq_f, n_eq, n_le_t, n_le_f, n_le, n_lt_t, n_lt_f, n_lt, n_sub0, n_sublt, n_suble, n_negsub, m_up_hit, m_up_miss, m_row_hit, m_row_miss, n_eqm, n_meq, n_meqm, n_ltm, n_lem, n_mlt, n_mle, n_sub, n_div, n_and1, n_shl, n_shr, n_inc, n_mul, n_rem, z_lt, z_le, z_nlt, z_nle, Nat.not_lt_zero, Nat.le_zero_eq, Nat.zero_le, if_true, if_false, x1]
    exact key
  | succ j ih =>
    intro k v8 v9 I F R hk T hQ
    have x1 := TW_1 T
    have hk3 : k < st.1 69 := by omega
    have hb := wf.2.2.2.1.2 k hk3
    have hb16 := hb.1
    have bo1 := q_on_pos hb.1 (wf.2.2.2.2.2.2.2.2.2.2.1 k hk3)
    have b0 := wf.2.2.2.2.2.2.2.2.2.2.1 k hk3
    have hq := q_cnt_pos (G.2.1.2.2.1 k hk3)
    have hq2 := q_cnt_le (st.1 (71 + 2 * k)) st.2.2
    have hlen := q_len_le wf.1 wf.2.1.2.2 hb
    have nxt := fun v8 v9 I F R => ih (k + 1) v8 v9 I F R (by omega)
    have m1 := q_sb_mono (S := st.1) (show k + 1 ≤ st.1 69 by omega)
    have m2 := q_sb_le (S := st.1) (st.1 69)
    rw [q_sb] at m1
    rw [q_tog_s, q_sb] at nxt
    rw [e98_280]
    simp (disch := omega) only [e98_282, e98_282N, e98_283, e98_284, true_or, m_psh_s, m_psh_n, m_kl_i, m_kl_f, m_kl_r, m_kl_n, m_kl_j, m_kl_l, m_kl_d, c_i, c_f, c_r, c_n, List.length_nil, List.length_cons, true_and, and_true, Nat.reduceAdd, Nat.reduceLeDiff, Nat.reduceSub, Nat.reduceEqDiff, Nat.reduceLT, ge_iff_le, gt_iff_lt, n_lit, m_in, m_nar0, m_nar1, and_self, not_false_eq_true, not_true_eq_false, ne_eq, reduceIte, ite_self, Nat.reduceMul, Nat.reduceDiv, Nat.reduceMod, Nat.reducePow, Nat.zero_add, Nat.add_zero, Nat.one_mul, Nat.mul_one, n_in, n_min, n_clamp, n_eq_t, n_eq_f, n_eq, n_le_t, n_le_f, n_le, n_lt_t, n_lt_f, n_lt, n_sub0, n_sublt, n_suble, n_negsub, m_up_hit, m_up_miss, m_row_hit, m_row_miss, n_eqm, n_meq, n_meqm, n_ltm, n_lem, n_mlt, n_mle, n_sub, n_div, n_and1, n_shl, n_shr, n_inc, n_mul, n_rem, z_lt, z_le, z_nlt, z_nle, Nat.not_lt_zero, Nat.le_zero_eq, Nat.zero_le, if_true, if_false, x1]
    refine k_count (d := d - 1) hl wf (by omega) _ _ _ _ _ _ _ T fun I1 F1 R1 n1 a1 b1 z1 T1 => ?_
    obtain rfl : n1 = n := by omega
    rw [v_c2]
    simp (disch := omega) only [e98_287, e98_290, e98_290N, e98_291, e98_292, e98_294, e98_295, true_or, m_psh_s, m_psh_n, m_kl_i, m_kl_f, m_kl_r, m_kl_n, m_kl_j, m_kl_l, m_kl_d, c_i, c_f, c_r, c_n, List.length_nil, List.length_cons, true_and, and_true, Nat.reduceAdd, Nat.reduceLeDiff, Nat.reduceSub, Nat.reduceEqDiff, Nat.reduceLT, ge_iff_le, gt_iff_lt, n_lit, m_in, m_nar0, m_nar1, and_self, not_false_eq_true, not_true_eq_false, ne_eq, reduceIte, ite_self, Nat.reduceMul, Nat.reduceDiv, Nat.reduceMod, Nat.reducePow, Nat.zero_add, Nat.add_zero, Nat.one_mul, Nat.mul_one, n_in, n_min, n_clamp, n_eq_t, n_eq_f, n_eq, n_le_t, n_le_f, n_le, n_lt_t, n_lt_f, n_lt, n_sub0, n_sublt, n_suble, n_negsub, m_up_hit, m_up_miss, m_row_hit, m_row_miss, n_eqm, n_meq, n_meqm, n_ltm, n_lem, n_mlt, n_mle, n_sub, n_div, n_and1, n_shl, n_shr, n_inc, n_mul, n_rem, z_lt, z_le, z_nlt, z_nle, Nat.not_lt_zero, Nat.le_zero_eq, Nat.zero_le, if_true, if_false, x1]
    refine k_basket (d := d - 1) hl wf (by omega) _ _ _ _ _ _ _ T1 fun I2 F2 R2 n2 a2 b2 z2 T2 => ?_
    obtain rfl : n2 = n1 := by omega
    rw [v_b00 hk3 d1]
    simp (disch := omega) only [e98_298, e98_300, e98_301, e98_301N, e98_302, e98_303, e98_305, e98_306, true_or, m_psh_s, m_psh_n, m_kl_i, m_kl_f, m_kl_r, m_kl_n, m_kl_j, m_kl_l, m_kl_d, c_i, c_f, c_r, c_n, List.length_nil, List.length_cons, true_and, and_true, Nat.reduceAdd, Nat.reduceLeDiff, Nat.reduceSub, Nat.reduceEqDiff, Nat.reduceLT, ge_iff_le, gt_iff_lt, n_lit, m_in, m_nar0, m_nar1, and_self, not_false_eq_true, not_true_eq_false, ne_eq, reduceIte, ite_self, Nat.reduceMul, Nat.reduceDiv, Nat.reduceMod, Nat.reducePow, Nat.zero_add, Nat.add_zero, Nat.one_mul, Nat.mul_one, n_in, n_min, n_clamp, n_eq_t, n_eq_f, n_eq, n_le_t, n_le_f, n_le, n_lt_t, n_lt_f, n_lt, n_sub0, n_sublt, n_suble, n_negsub, m_up_hit, m_up_miss, m_row_hit, m_row_miss, n_eqm, n_meq, n_meqm, n_ltm, n_lem, n_mlt, n_mle, n_sub, n_div, n_and1, n_shl, n_shr, n_inc, n_mul, n_rem, z_lt, z_le, z_nlt, z_nle, Nat.not_lt_zero, Nat.le_zero_eq, Nat.zero_le, if_true, if_false, x1]
    refine k_basket (d := d - 1) hl wf (by omega) _ _ _ _ _ _ _ T2 fun I3 F3 R3 n3 a3 b3 z3 T3 => ?_
    obtain rfl : n3 = n2 := by omega
    rw [v_b01 hk3 d1]
    simp (disch := omega) only [e98_309, e98_310, e98_311, e98_313, e98_316, e98_318, e98_321, e98_321N, e98_322, e98_324, true_or, m_psh_s, m_psh_n, m_kl_i, m_kl_f, m_kl_r, m_kl_n, m_kl_j, m_kl_l, m_kl_d, c_i, c_f, c_r, c_n, List.length_nil, List.length_cons, true_and, and_true, Nat.reduceAdd, Nat.reduceLeDiff, Nat.reduceSub, Nat.reduceEqDiff, Nat.reduceLT, ge_iff_le, gt_iff_lt, n_lit, m_in, m_nar0, m_nar1, and_self, not_false_eq_true, not_true_eq_false, ne_eq, reduceIte, ite_self, Nat.reduceMul, Nat.reduceDiv, Nat.reduceMod, Nat.reducePow, Nat.zero_add, Nat.add_zero, Nat.one_mul, Nat.mul_one, n_in, n_min, n_clamp, n_eq_t, n_eq_f, n_eq, n_le_t, n_le_f, n_le, n_lt_t, n_lt_f, n_lt, n_sub0, n_sublt, n_suble, n_negsub, m_up_hit, m_up_miss, m_row_hit, m_row_miss, n_eqm, n_meq, n_meqm, n_ltm, n_lem, n_mlt, n_mle, n_sub, n_div, n_and1, n_shl, n_shr, n_inc, n_mul, n_rem, z_lt, z_le, z_nlt, z_nle, Nat.not_lt_zero, Nat.le_zero_eq, Nat.zero_le, if_true, if_false, x1]
    refine k_often (d := d - 1) hl wf (by omega) _ _ _ _ _ _ _ T3 fun I4 F4 R4 n4 a4 b4 z4 T4 => ?_
    obtain rfl : n4 = n3 := by omega
    rw [v_oft w3 hb bo1]
    simp (disch := omega) only [e98_327, e98_330, e98_330N, e98_331, e98_332, e98_334, e98_335, true_or, m_psh_s, m_psh_n, m_kl_i, m_kl_f, m_kl_r, m_kl_n, m_kl_j, m_kl_l, m_kl_d, c_i, c_f, c_r, c_n, List.length_nil, List.length_cons, true_and, and_true, Nat.reduceAdd, Nat.reduceLeDiff, Nat.reduceSub, Nat.reduceEqDiff, Nat.reduceLT, ge_iff_le, gt_iff_lt, n_lit, m_in, m_nar0, m_nar1, and_self, not_false_eq_true, not_true_eq_false, ne_eq, reduceIte, ite_self, Nat.reduceMul, Nat.reduceDiv, Nat.reduceMod, Nat.reducePow, Nat.zero_add, Nat.add_zero, Nat.one_mul, Nat.mul_one, n_in, n_min, n_clamp, n_eq_t, n_eq_f, n_eq, n_le_t, n_le_f, n_le, n_lt_t, n_lt_f, n_lt, n_sub0, n_sublt, n_suble, n_negsub, m_up_hit, m_up_miss, m_row_hit, m_row_miss, n_eqm, n_meq, n_meqm, n_ltm, n_lem, n_mlt, n_mle, n_sub, n_div, n_and1, n_shl, n_shr, n_inc, n_mul, n_rem, z_lt, z_le, z_nlt, z_nle, Nat.not_lt_zero, Nat.le_zero_eq, Nat.zero_le, if_true, if_false, x1]
    refine k_basket (d := d - 1) hl wf (by omega) _ _ _ _ _ _ _ T4 fun I5 F5 R5 n5 a5 b5 z5 T5 => ?_
    obtain rfl : n5 = n4 := by omega
    rw [v_b02 hk3 d1]
    simp (disch := omega) only [e98_338, e98_338N, e98_339, e98_341, true_or, m_psh_s, m_psh_n, m_kl_i, m_kl_f, m_kl_r, m_kl_n, m_kl_j, m_kl_l, m_kl_d, c_i, c_f, c_r, c_n, List.length_nil, List.length_cons, true_and, and_true, Nat.reduceAdd, Nat.reduceLeDiff, Nat.reduceSub, Nat.reduceEqDiff, Nat.reduceLT, ge_iff_le, gt_iff_lt, n_lit, m_in, m_nar0, m_nar1, and_self, not_false_eq_true, not_true_eq_false, ne_eq, reduceIte, ite_self, Nat.reduceMul, Nat.reduceDiv, Nat.reduceMod, Nat.reducePow, Nat.zero_add, Nat.add_zero, Nat.one_mul, Nat.mul_one, n_in, n_min, n_clamp, n_eq_t, n_eq_f, n_eq, n_le_t, n_le_f, n_le, n_lt_t, n_lt_f, n_lt, n_sub0, n_sublt, n_suble, n_negsub, m_up_hit, m_up_miss, m_row_hit, m_row_miss, n_eqm, n_meq, n_meqm, n_ltm, n_lem, n_mlt, n_mle, n_sub, n_div, n_and1, n_shl, n_shr, n_inc, n_mul, n_rem, z_lt, z_le, z_nlt, z_nle, Nat.not_lt_zero, Nat.le_zero_eq, Nat.zero_le, if_true, if_false, x1]
    refine k_walk (d := d - 1) hl wf (by omega) _ _ _ _ _ _ _ T5 fun I6 F6 R6 n6 a6 b6 z6 T6 => ?_
    obtain rfl : n6 = n5 := by omega
    rw [v_wlk w3 hb bo1]
    simp (disch := omega) only [e98_344, e98_347, e98_348, e98_351, e98_352, e98_354, e98_355, true_or, m_psh_s, m_psh_n, m_kl_i, m_kl_f, m_kl_r, m_kl_n, m_kl_j, m_kl_l, m_kl_d, c_i, c_f, c_r, c_n, List.length_nil, List.length_cons, true_and, and_true, Nat.reduceAdd, Nat.reduceLeDiff, Nat.reduceSub, Nat.reduceEqDiff, Nat.reduceLT, ge_iff_le, gt_iff_lt, n_lit, m_in, m_nar0, m_nar1, and_self, not_false_eq_true, not_true_eq_false, ne_eq, reduceIte, ite_self, Nat.reduceMul, Nat.reduceDiv, Nat.reduceMod, Nat.reducePow, Nat.zero_add, Nat.add_zero, Nat.one_mul, Nat.mul_one, n_in, n_min, n_clamp, n_eq_t, n_eq_f, n_eq, n_le_t, n_le_f, n_le, n_lt_t, n_lt_f, n_lt, n_sub0, n_sublt, n_suble, n_negsub, m_up_hit, m_up_miss, m_row_hit, m_row_miss, n_eqm, n_meq, n_meqm, n_ltm, n_lem, n_mlt, n_mle, n_sub, n_div, n_and1, n_shl, n_shr, n_inc, n_mul, n_rem, z_lt, z_le, z_nlt, z_nle, Nat.not_lt_zero, Nat.le_zero_eq, Nat.zero_le, if_true, if_false, x1, eq_self]
    have key := su_3i (lay := lay) (d := d) (st := st) (I := I6) (F := F6) (R := R6) (n := n6) (Q := Q) (A := q_sb st.1 (st.1 69) - q_sb st.1 k) (w := q_tog st.1 72 k + st.1 (72 + 2 * k)) (f := f) (c := c) (r := k) hb.1 (by omega) (by omega) 16 0 rfl (by
      have key := nxt (.int (nI (st.1 (71 + 2 * k)))) (.int (nI 16)) I6 F6 R6 T6 fun I' F' R' v8 v9 z T' => hQ I' F' R' v8 v9 (z.trans (z6.trans (z5.trans (z4.trans (z3.trans (z2.trans (z1))))))) T'
      rw [show q_sb st.1 (st.1 69) - q_sb st.1 k - q_on (st.1 (71 + 2 * k)) 16 = q_sb st.1 (st.1 69) - (q_sb st.1 k + q_on (st.1 (71 + 2 * k)) 16) by omega]
      simp (disch := omega) only [e98_380, e98_383, true_or, m_psh_s, m_psh_n, m_kl_i, m_kl_f, m_kl_r, m_kl_n, m_kl_j, m_kl_l, m_kl_d, c_i, c_f, c_r, c_n, List.length_nil, List.length_cons, true_and, and_true, Nat.reduceAdd, Nat.reduceLeDiff, Nat.reduceSub, Nat.reduceEqDiff, Nat.reduceLT, ge_iff_le, gt_iff_lt, n_lit, m_in, m_nar0, m_nar1, and_self, not_false_eq_true, not_true_eq_false, ne_eq, reduceIte, ite_self, Nat.reduceMul, Nat.reduceDiv, Nat.reduceMod, Nat.reducePow, Nat.zero_add, Nat.add_zero, Nat.one_mul, Nat.mul_one, n_in, n_min, n_clamp, n_eq_t, n_eq_f, n_eq, n_le_t, n_le_f, n_le, n_lt_t, n_lt_f, n_lt, n_sub0, n_sublt, n_suble, n_negsub, m_up_hit, m_up_miss, m_row_hit, m_row_miss, n_eqm, n_meq, n_meqm, n_ltm, n_lem, n_mlt, n_mle, n_sub, n_div, n_and1, n_shl, n_shr, n_inc, n_mul, n_rem, z_lt, z_le, z_nlt, z_nle, Nat.not_lt_zero, Nat.le_zero_eq, Nat.zero_le, if_true, if_false]
      exact key)
    exact key
end SUMSB
