-- areWalksSo
section WALKM
variable {lay : mL} {d e n n' k : Nat} {I I' : mI} {F F' : mF} {R R' : mR} {Q : mP} {st st' st2 : St} {hs hs' hs2 : List St}
theorem n_sh1 : ∀ k, k < 17 → nI 1 <<< (nI k &&& nI 31) = nI (2 ^ k) := by decide +kernel
theorem q_all_le {c : Nat} {pos : Nat → Nat} {b : Nat} (hc : c ≤ 9) (hp : ∀ g, g < 16 → b / 2 ^ g % 2 = 1 → pos g < 30) (k : Nat) (hk : k ≤ 16) : q_all c pos b k ≤ 120 * k := by
  induction k with
  | zero => exact Nat.le_refl _
  | succ k ih =>
    have ih := ih (by omega)
    rw [q_all]
    split
    · rename_i h
      have := q_dsk_le hc (hp k (by omega) h)
      omega
    · omega
theorem q_far_le {c : Nat} {pos : Nat → Nat} {b : Nat} (hc : c ≤ 9) (hp : ∀ g, g < 16 → b / 2 ^ g % 2 = 1 → pos g < 30) (k : Nat) (hk : k ≤ 16) : q_far c pos b k ≤ 60 := by
  induction k with
  | zero => exact Nat.zero_le _
  | succ k ih =>
    rw [q_far]
    split
    · rename_i h
      exact q_dsk_le hc (hp k (by omega) h.1)
    · exact ih (by omega)
theorem wa_1 {b W : Nat} {x : Int32} (hl : HL lay) (wf : Wf st.1 st.2.1 st.2.2) (hb : bOK st.1 b) (hd : 3 ≤ d) (j : Nat) : ∀ (k : Nat) (I : mI) (F : mF) (R : mR), k + j = st.1 3 → TW lay st hs st' hs' I F R n → (∀ I' F' R', I' 0 = I 0 → TW lay st hs st' hs' I' F' R' n → Ev lay d 99 174 [.ref 1, .int x, .int (nI (st.1 3)), .int (nI b), .int (nI W), .int (nI (q_far (st.1 2) (q_pos st.1) b (st.1 3))), .int (nI (q_all (st.1 2) (q_pos st.1) b (st.1 3))), .int (nI (st.1 3)), m_j] [] I' F' R' n Q) → Ev lay d 99 98 [.ref 1, .int x, .int (nI (st.1 3)), .int (nI b), .int (nI W), .int (nI (q_far (st.1 2) (q_pos st.1) b k)), .int (nI (q_all (st.1 2) (q_pos st.1) b k)), .int (nI k), m_j] [] I F R n Q := by
  have w3 := wf.1.1
  have hc9 := wf.2.1.2.2
  have hb16 := hb.1
  have hp : ∀ g, g < 16 → b / 2 ^ g % 2 = 1 → q_pos st.1 g < 30 := fun g hg h => wf.1.2.1 g (hb.2.2 g hg h)
  induction j with
  | zero =>
    intro k I F R hk T hQ
    have hk2 : k = st.1 3 := by omega
    subst hk2
    have key := hQ I F R rfl T
    rw [e99_98]
    simp (disch := omega) only [e99_100, e99_101, true_or, m_psh_s, m_psh_n, m_kl_i, m_kl_f, m_kl_r, m_kl_n, m_kl_j, m_kl_l, m_kl_d, c_i, c_f, c_r, c_n, List.length_nil, List.length_cons, true_and, and_true, Nat.reduceAdd, Nat.reduceLeDiff, Nat.reduceSub, Nat.reduceEqDiff, Nat.reduceLT, ge_iff_le, gt_iff_lt, n_lit, m_in, m_nar0, m_nar1, and_self, not_false_eq_true, not_true_eq_false, ne_eq, reduceIte, ite_self, Nat.reduceMul, Nat.reduceDiv, Nat.reduceMod, Nat.reducePow, Nat.zero_add, Nat.add_zero, Nat.one_mul, Nat.mul_one, n_in, n_min, n_clamp, n_eq_t, n_eq_f, n_eq, n_le_t, n_le_f, n_le, n_lt_t, n_lt_f, n_lt, n_sub0, n_sublt, n_suble, n_negsub, m_up_hit, m_up_miss, m_row_hit, m_row_miss, n_eqm, n_meq, n_meqm, n_ltm, n_lem, n_mlt, n_mle, n_sub, n_div, n_and1, n_shl, n_shr, n_inc, n_mul, n_rem, z_lt, z_le, z_nlt, z_nle, Nat.not_lt_zero, Nat.le_zero_eq, Nat.zero_le, if_true, if_false]
    exact key
  | succ j ih =>
    intro k I F R hk T hQ
    have x1 := TW_1 T
    have hk3 : k < st.1 3 := by omega
    have nxt := fun I F R => ih (k + 1) I F R (by omega)
    have b1 := q_all_le hc9 hp k (by omega)
    have b2 := q_far_le hc9 hp k (by omega)
    rw [e99_98]
    rcases Nat.mod_two_eq_zero_or_one (b / 2 ^ k) with hbit | hbit
    · rw [q_far, q_all, if_neg (by omega), if_neg (by omega)] at nxt
      have key := nxt I F R T hQ
      simp (disch := omega) only [e99_100, e99_101, e99_104, e99_105, e99_107, e99_108, e99_109, e99_110, e99_111, e99_136, e99_138, e99_140, e99_142, e99_143, e99_145, e99_146, e99_147, e99_148, e99_149, e99_164, e99_165, e99_166, e99_168, e99_171, true_or, m_psh_s, m_psh_n, m_kl_i, m_kl_f, m_kl_r, m_kl_n, m_kl_j, m_kl_l, m_kl_d, c_i, c_f, c_r, c_n, List.length_nil, List.length_cons, true_and, and_true, Nat.reduceAdd, Nat.reduceLeDiff, Nat.reduceSub, Nat.reduceEqDiff, Nat.reduceLT, ge_iff_le, gt_iff_lt, n_lit, m_in, m_nar0, m_nar1, and_self, not_false_eq_true, not_true_eq_false, ne_eq, reduceIte, ite_self, Nat.reduceMul, Nat.reduceDiv, Nat.reduceMod, Nat.reducePow, Nat.zero_add, Nat.add_zero, Nat.one_mul, Nat.mul_one, n_in, n_min, n_clamp, n_eq_t, n_eq_f, n_eq, n_le_t, n_le_f, n_le, n_lt_t, n_lt_f, n_lt, n_sub0, n_sublt, n_suble, n_negsub, m_up_hit, m_up_miss, m_row_hit, m_row_miss, n_eqm, n_meq, n_meqm, n_ltm, n_lem, n_mlt, n_mle, n_sub, n_div, n_and1, n_shl, n_shr, n_inc, n_mul, n_rem, z_lt, z_le, z_nlt, z_nle, Nat.not_lt_zero, Nat.le_zero_eq, Nat.zero_le, if_true, if_false, x1, hbit]
      exact key
    · have hdk := q_dsk_le hc9 (hp k (by omega) hbit)
      have ed : q_dsk (st.1 2) (st.1 (4 + 4 * k)) = q_dsk (st.1 2) (q_pos st.1 k) := rfl
      have fin : ∀ (f : Nat) (I' : mI) (F' : mF) (R' : mR), f = q_far (st.1 2) (q_pos st.1) b (k + 1) → I' 0 = I 0 → TW lay st hs st' hs' I' F' R' n → Ev lay d 99 138 [.ref 1, .int x, .int (nI (st.1 3)), .int (nI b), .int (nI W), .int (nI (q_far (st.1 2) (q_pos st.1) b k)), .int (nI (q_all (st.1 2) (q_pos st.1) b k)), .int (nI k), m_j] [.int (nI f)] I' F' R' n Q := by
        intro f I2 F2 R2 hf z2 T2
        have key := fun I F R => nxt I F R
        rw [← hf, q_all, if_pos hbit] at key
        simp (disch := omega) only [e99_138, e99_140, e99_142, e99_143, e99_145, e99_146, e99_147, e99_148, e99_149, e99_152, e99_153, e99_153N, e99_154, e99_156, e99_157, true_or, m_psh_s, m_psh_n, m_kl_i, m_kl_f, m_kl_r, m_kl_n, m_kl_j, m_kl_l, m_kl_d, c_i, c_f, c_r, c_n, List.length_nil, List.length_cons, true_and, and_true, Nat.reduceAdd, Nat.reduceLeDiff, Nat.reduceSub, Nat.reduceEqDiff, Nat.reduceLT, ge_iff_le, gt_iff_lt, n_lit, m_in, m_nar0, m_nar1, and_self, not_false_eq_true, not_true_eq_false, ne_eq, reduceIte, ite_self, Nat.reduceMul, Nat.reduceDiv, Nat.reduceMod, Nat.reducePow, Nat.zero_add, Nat.add_zero, Nat.one_mul, Nat.mul_one, n_in, n_min, n_clamp, n_eq_t, n_eq_f, n_eq, n_le_t, n_le_f, n_le, n_lt_t, n_lt_f, n_lt, n_sub0, n_sublt, n_suble, n_negsub, m_up_hit, m_up_miss, m_row_hit, m_row_miss, n_eqm, n_meq, n_meqm, n_ltm, n_lem, n_mlt, n_mle, n_sub, n_div, n_and1, n_shl, n_shr, n_inc, n_mul, n_rem, z_lt, z_le, z_nlt, z_nle, Nat.not_lt_zero, Nat.le_zero_eq, Nat.zero_le, if_true, if_false, x1, hbit]
        refine k_of (d := d - 1) hl wf (by omega) _ _ _ _ _ _ _ T2 fun I3 F3 R3 n3 a3 b3 z3 T3 => ?_
        obtain rfl : n3 = n := by omega
        rw [v_of4 hk3 w3, ed]
        have key := key I3 F3 R3 T3 fun I' F' R' z T' => hQ I' F' R' (z.trans (z3.trans z2)) T'
        simp (disch := omega) only [e99_160, e99_161, e99_164, e99_165, e99_166, e99_168, e99_171, true_or, m_psh_s, m_psh_n, m_kl_i, m_kl_f, m_kl_r, m_kl_n, m_kl_j, m_kl_l, m_kl_d, c_i, c_f, c_r, c_n, List.length_nil, List.length_cons, true_and, and_true, Nat.reduceAdd, Nat.reduceLeDiff, Nat.reduceSub, Nat.reduceEqDiff, Nat.reduceLT, ge_iff_le, gt_iff_lt, n_lit, m_in, m_nar0, m_nar1, and_self, not_false_eq_true, not_true_eq_false, ne_eq, reduceIte, ite_self, Nat.reduceMul, Nat.reduceDiv, Nat.reduceMod, Nat.reducePow, Nat.zero_add, Nat.add_zero, Nat.one_mul, Nat.mul_one, n_in, n_min, n_clamp, n_eq_t, n_eq_f, n_eq, n_le_t, n_le_f, n_le, n_lt_t, n_lt_f, n_lt, n_sub0, n_sublt, n_suble, n_negsub, m_up_hit, m_up_miss, m_row_hit, m_row_miss, n_eqm, n_meq, n_meqm, n_ltm, n_lem, n_mlt, n_mle, n_sub, n_div, n_and1, n_shl, n_shr, n_inc, n_mul, n_rem, z_lt, z_le, z_nlt, z_nle, Nat.not_lt_zero, Nat.le_zero_eq, Nat.zero_le, if_true, if_false, x1, hbit]
        exact key
      simp (disch := omega) only [e99_100, e99_101, e99_104, e99_105, e99_107, e99_108, e99_109, e99_110, e99_111, e99_114, e99_114N, e99_115, e99_117, e99_118, true_or, m_psh_s, m_psh_n, m_kl_i, m_kl_f, m_kl_r, m_kl_n, m_kl_j, m_kl_l, m_kl_d, c_i, c_f, c_r, c_n, List.length_nil, List.length_cons, true_and, and_true, Nat.reduceAdd, Nat.reduceLeDiff, Nat.reduceSub, Nat.reduceEqDiff, Nat.reduceLT, ge_iff_le, gt_iff_lt, n_lit, m_in, m_nar0, m_nar1, and_self, not_false_eq_true, not_true_eq_false, ne_eq, reduceIte, ite_self, Nat.reduceMul, Nat.reduceDiv, Nat.reduceMod, Nat.reducePow, Nat.zero_add, Nat.add_zero, Nat.one_mul, Nat.mul_one, n_in, n_min, n_clamp, n_eq_t, n_eq_f, n_eq, n_le_t, n_le_f, n_le, n_lt_t, n_lt_f, n_lt, n_sub0, n_sublt, n_suble, n_negsub, m_up_hit, m_up_miss, m_row_hit, m_row_miss, n_eqm, n_meq, n_meqm, n_ltm, n_lem, n_mlt, n_mle, n_sub, n_div, n_and1, n_shl, n_shr, n_inc, n_mul, n_rem, z_lt, z_le, z_nlt, z_nle, Nat.not_lt_zero, Nat.le_zero_eq, Nat.zero_le, if_true, if_false, x1, hbit]
      refine k_of (d := d - 1) hl wf (by omega) _ _ _ _ _ _ _ T fun I1 F1 R1 n1 a1 b1 z1 T1 => ?_
      obtain rfl : n1 = n := by omega
      rw [v_of4 hk3 w3, ed]
      by_cases c : q_far (st.1 2) (q_pos st.1) b k < q_dsk (st.1 2) (q_pos st.1 k)
      · have ef : q_far (st.1 2) (q_pos st.1) b (k + 1) = q_dsk (st.1 2) (q_pos st.1 k) := by rw [q_far, if_pos ⟨hbit, c⟩]
        simp (disch := omega) only [e99_121, e99_123, e99_126, e99_126N, e99_127, e99_129, e99_130, true_or, m_psh_s, m_psh_n, m_kl_i, m_kl_f, m_kl_r, m_kl_n, m_kl_j, m_kl_l, m_kl_d, c_i, c_f, c_r, c_n, List.length_nil, List.length_cons, true_and, and_true, Nat.reduceAdd, Nat.reduceLeDiff, Nat.reduceSub, Nat.reduceEqDiff, Nat.reduceLT, ge_iff_le, gt_iff_lt, n_lit, m_in, m_nar0, m_nar1, and_self, not_false_eq_true, not_true_eq_false, ne_eq, reduceIte, ite_self, Nat.reduceMul, Nat.reduceDiv, Nat.reduceMod, Nat.reducePow, Nat.zero_add, Nat.add_zero, Nat.one_mul, Nat.mul_one, n_in, n_min, n_clamp, n_eq_t, n_eq_f, n_eq, n_le_t, n_le_f, n_le, n_lt_t, n_lt_f, n_lt, n_sub0, n_sublt, n_suble, n_negsub, m_up_hit, m_up_miss, m_row_hit, m_row_miss, n_eqm, n_meq, n_meqm, n_ltm, n_lem, n_mlt, n_mle, n_sub, n_div, n_and1, n_shl, n_shr, n_inc, n_mul, n_rem, z_lt, z_le, z_nlt, z_nle, Nat.not_lt_zero, Nat.le_zero_eq, Nat.zero_le, if_true, if_false, x1]
        refine k_of (d := d - 1) hl wf (by omega) _ _ _ _ _ _ _ T1 fun I2 F2 R2 n2 a2 b2 z2 T2 => ?_
        obtain rfl : n2 = n1 := by omega
        rw [v_of4 hk3 w3, ed]
        have key := fin _ I2 F2 R2 ef.symm (z2.trans (z1)) T2
        simp (disch := omega) only [e99_133, true_or, m_psh_s, m_psh_n, m_kl_i, m_kl_f, m_kl_r, m_kl_n, m_kl_j, m_kl_l, m_kl_d, c_i, c_f, c_r, c_n, List.length_nil, List.length_cons, true_and, and_true, Nat.reduceAdd, Nat.reduceLeDiff, Nat.reduceSub, Nat.reduceEqDiff, Nat.reduceLT, ge_iff_le, gt_iff_lt, n_lit, m_in, m_nar0, m_nar1, and_self, not_false_eq_true, not_true_eq_false, ne_eq, reduceIte, ite_self, Nat.reduceMul, Nat.reduceDiv, Nat.reduceMod, Nat.reducePow, Nat.zero_add, Nat.add_zero, Nat.one_mul, Nat.mul_one, n_in, n_min, n_clamp, n_eq_t, n_eq_f, n_eq, n_le_t, n_le_f, n_le, n_lt_t, n_lt_f, n_lt, n_sub0, n_sublt, n_suble, n_negsub, m_up_hit, m_up_miss, m_row_hit, m_row_miss, n_eqm, n_meq, n_meqm, n_ltm, n_lem, n_mlt, n_mle, n_sub, n_div, n_and1, n_shl, n_shr, n_inc, n_mul, n_rem, z_lt, z_le, z_nlt, z_nle, Nat.not_lt_zero, Nat.le_zero_eq, Nat.zero_le, if_true, if_false, x1]
        exact key
      · have ef : q_far (st.1 2) (q_pos st.1) b (k + 1) = q_far (st.1 2) (q_pos st.1) b k := by rw [q_far, if_neg (fun h => c h.2)]
        have key := fin _ I1 F1 R1 ef.symm (z1) T1
        simp (disch := omega) only [e99_121, e99_123, e99_136, true_or, m_psh_s, m_psh_n, m_kl_i, m_kl_f, m_kl_r, m_kl_n, m_kl_j, m_kl_l, m_kl_d, c_i, c_f, c_r, c_n, List.length_nil, List.length_cons, true_and, and_true, Nat.reduceAdd, Nat.reduceLeDiff, Nat.reduceSub, Nat.reduceEqDiff, Nat.reduceLT, ge_iff_le, gt_iff_lt, n_lit, m_in, m_nar0, m_nar1, and_self, not_false_eq_true, not_true_eq_false, ne_eq, reduceIte, ite_self, Nat.reduceMul, Nat.reduceDiv, Nat.reduceMod, Nat.reducePow, Nat.zero_add, Nat.add_zero, Nat.one_mul, Nat.mul_one, n_in, n_min, n_clamp, n_eq_t, n_eq_f, n_eq, n_le_t, n_le_f, n_le, n_lt_t, n_lt_f, n_lt, n_sub0, n_sublt, n_suble, n_negsub, m_up_hit, m_up_miss, m_row_hit, m_row_miss, n_eqm, n_meq, n_meqm, n_ltm, n_lem, n_mlt, n_mle, n_sub, n_div, n_and1, n_shl, n_shr, n_inc, n_mul, n_rem, z_lt, z_le, z_nlt, z_nle, Nat.not_lt_zero, Nat.le_zero_eq, Nat.zero_le, if_true, if_false, x1]
        exact key
theorem wa_2 {b g : Nat} {x w6 : Int32} {v4 v5 : Value} (hl : HL lay) (wf : Wf st.1 st.2.1 st.2.2) (hb : bOK st.1 b) (h1 : 1 ≤ q_on b 16) (eg : q_vi (st.1 2) (q_pos st.1) 0 b 0 = g) (g3 : g < st.1 3) (hmin : ∀ j, j < 16 → b / 2 ^ j % 2 = 1 → q_dsk (st.1 2) (q_pos st.1 g) ≤ q_dsk (st.1 2) (q_pos st.1 j)) (hd : 3 ≤ d) (j : Nat) : ∀ (k : Nat) (I : mI) (F : mF) (R : mR), k + j = st.1 3 → TW lay st hs st' hs' I F R n → (∀ I' F' R', I' 0 = I 0 → TW lay st hs st' hs' I' F' R' n → Ev lay d 99 293 [.ref 1, .int x, .int (nI (st.1 3)), .int (nI b), v4, v5, .int w6, .int (nI 1), .int (nI (st.1 3))] [] I' F' R' n Q) → Ev lay d 99 239 [.ref 1, .int x, .int (nI (st.1 3)), .int (nI b), v4, v5, .int w6, .int (nI 1), .int (nI k)] [] I F R n Q := by
  have w3 := wf.1.1
  have hc9 := wf.2.1.2.2
  have hb16 := hb.1
  have hp : ∀ g, g < 16 → b / 2 ^ g % 2 = 1 → q_pos st.1 g < 30 := fun g hg h => wf.1.2.1 g (hb.2.2 g hg h)
  induction j with
  | zero =>
    intro k I F R hk T hQ
    have hk2 : k = st.1 3 := by omega
    subst hk2
    have key := hQ I F R rfl T
    rw [e99_239]
    simp (disch := omega) only [e99_241, e99_242, true_or, m_psh_s, m_psh_n, m_kl_i, m_kl_f, m_kl_r, m_kl_n, m_kl_j, m_kl_l, m_kl_d, c_i, c_f, c_r, c_n, List.length_nil, List.length_cons, true_and, and_true, Nat.reduceAdd, Nat.reduceLeDiff, Nat.reduceSub, Nat.reduceEqDiff, Nat.reduceLT, ge_iff_le, gt_iff_lt, n_lit, m_in, m_nar0, m_nar1, and_self, not_false_eq_true, not_true_eq_false, ne_eq, reduceIte, ite_self, Nat.reduceMul, Nat.reduceDiv, Nat.reduceMod, Nat.reducePow, Nat.zero_add, Nat.add_zero, Nat.one_mul, Nat.mul_one, n_in, n_min, n_clamp, n_eq_t, n_eq_f, n_eq, n_le_t, n_le_f, n_le, n_lt_t, n_lt_f, n_lt, n_sub0, n_sublt, n_suble, n_negsub, m_up_hit, m_up_miss, m_row_hit, m_row_miss, n_eqm, n_meq, n_meqm, n_ltm, n_lem, n_mlt, n_mle, n_sub, n_div, n_and1, n_shl, n_shr, n_inc, n_mul, n_rem, z_lt, z_le, z_nlt, z_nle, Nat.not_lt_zero, Nat.le_zero_eq, Nat.zero_le, if_true, if_false]
    exact key
  | succ j ih =>
    intro k I F R hk T hQ
    have x1 := TW_1 T
    have hk3 : k < st.1 3 := by omega
    have nxt := fun I F R => ih (k + 1) I F R (by omega)
    rw [e99_239]
    rcases Nat.mod_two_eq_zero_or_one (b / 2 ^ k) with hbit | hbit
    · have key := nxt I F R T hQ
      simp (disch := omega) only [e99_241, e99_242, e99_245, e99_247, e99_250, e99_251, e99_253, e99_254, e99_255, e99_256, e99_280, e99_281, e99_284, e99_285, e99_287, e99_290, true_or, m_psh_s, m_psh_n, m_kl_i, m_kl_f, m_kl_r, m_kl_n, m_kl_j, m_kl_l, m_kl_d, c_i, c_f, c_r, c_n, List.length_nil, List.length_cons, true_and, and_true, Nat.reduceAdd, Nat.reduceLeDiff, Nat.reduceSub, Nat.reduceEqDiff, Nat.reduceLT, ge_iff_le, gt_iff_lt, n_lit, m_in, m_nar0, m_nar1, and_self, not_false_eq_true, not_true_eq_false, ne_eq, reduceIte, ite_self, Nat.reduceMul, Nat.reduceDiv, Nat.reduceMod, Nat.reducePow, Nat.zero_add, Nat.add_zero, Nat.one_mul, Nat.mul_one, n_in, n_min, n_clamp, n_eq_t, n_eq_f, n_eq, n_le_t, n_le_f, n_le, n_lt_t, n_lt_f, n_lt, n_sub0, n_sublt, n_suble, n_negsub, m_up_hit, m_up_miss, m_row_hit, m_row_miss, n_eqm, n_meq, n_meqm, n_ltm, n_lem, n_mlt, n_mle, n_sub, n_div, n_and1, n_shl, n_shr, n_inc, n_mul, n_rem, z_lt, z_le, z_nlt, z_nle, Nat.not_lt_zero, Nat.le_zero_eq, Nat.zero_le, if_true, if_false, x1, hbit]
      exact key
    · have hdk := q_dsk_le hc9 (hp k (by omega) hbit)
      have hmk := hmin k (by omega) hbit
      have ed : ∀ g, q_dsk (st.1 2) (st.1 (4 + 4 * g)) = q_dsk (st.1 2) (q_pos st.1 g) := fun _ => rfl
      simp (disch := omega) only [e99_241, e99_242, e99_245, e99_247, e99_250, e99_251, e99_253, e99_254, e99_255, e99_256, e99_259, e99_259N, e99_260, e99_262, e99_263, true_or, m_psh_s, m_psh_n, m_kl_i, m_kl_f, m_kl_r, m_kl_n, m_kl_j, m_kl_l, m_kl_d, c_i, c_f, c_r, c_n, List.length_nil, List.length_cons, true_and, and_true, Nat.reduceAdd, Nat.reduceLeDiff, Nat.reduceSub, Nat.reduceEqDiff, Nat.reduceLT, ge_iff_le, gt_iff_lt, n_lit, m_in, m_nar0, m_nar1, and_self, not_false_eq_true, not_true_eq_false, ne_eq, reduceIte, ite_self, Nat.reduceMul, Nat.reduceDiv, Nat.reduceMod, Nat.reducePow, Nat.zero_add, Nat.add_zero, Nat.one_mul, Nat.mul_one, n_in, n_min, n_clamp, n_eq_t, n_eq_f, n_eq, n_le_t, n_le_f, n_le, n_lt_t, n_lt_f, n_lt, n_sub0, n_sublt, n_suble, n_negsub, m_up_hit, m_up_miss, m_row_hit, m_row_miss, n_eqm, n_meq, n_meqm, n_ltm, n_lem, n_mlt, n_mle, n_sub, n_div, n_and1, n_shl, n_shr, n_inc, n_mul, n_rem, z_lt, z_le, z_nlt, z_nle, Nat.not_lt_zero, Nat.le_zero_eq, Nat.zero_le, if_true, if_false, x1, hbit]
      refine k_of (d := d - 1) hl wf (by omega) _ _ _ _ _ _ _ T fun I1 F1 R1 n1 a1 b1 z1 T1 => ?_
      obtain rfl : n1 = n := by omega
      rw [v_of4 hk3 w3, ed]
      simp (disch := omega) only [e99_266, e99_266N, e99_267, e99_267N, e99_268, e99_269, e99_270, true_or, m_psh_s, m_psh_n, m_kl_i, m_kl_f, m_kl_r, m_kl_n, m_kl_j, m_kl_l, m_kl_d, c_i, c_f, c_r, c_n, List.length_nil, List.length_cons, true_and, and_true, Nat.reduceAdd, Nat.reduceLeDiff, Nat.reduceSub, Nat.reduceEqDiff, Nat.reduceLT, ge_iff_le, gt_iff_lt, n_lit, m_in, m_nar0, m_nar1, and_self, not_false_eq_true, not_true_eq_false, ne_eq, reduceIte, ite_self, Nat.reduceMul, Nat.reduceDiv, Nat.reduceMod, Nat.reducePow, Nat.zero_add, Nat.add_zero, Nat.one_mul, Nat.mul_one, n_in, n_min, n_clamp, n_eq_t, n_eq_f, n_eq, n_le_t, n_le_f, n_le, n_lt_t, n_lt_f, n_lt, n_sub0, n_sublt, n_suble, n_negsub, m_up_hit, m_up_miss, m_row_hit, m_row_miss, n_eqm, n_meq, n_meqm, n_ltm, n_lem, n_mlt, n_mle, n_sub, n_div, n_and1, n_shl, n_shr, n_inc, n_mul, n_rem, z_lt, z_le, z_nlt, z_nle, Nat.not_lt_zero, Nat.le_zero_eq, Nat.zero_le, if_true, if_false, x1]
      refine k_stop (d := d - 1) hl wf (by omega) _ _ _ _ _ _ _ T1 fun I2 F2 R2 n2 a2 b2 z2 T2 => ?_
      obtain rfl : n2 = n1 := by omega
      rw [v_stp0 w3 hb h1, eg]
      simp (disch := omega) only [e99_273, e99_274, true_or, m_psh_s, m_psh_n, m_kl_i, m_kl_f, m_kl_r, m_kl_n, m_kl_j, m_kl_l, m_kl_d, c_i, c_f, c_r, c_n, List.length_nil, List.length_cons, true_and, and_true, Nat.reduceAdd, Nat.reduceLeDiff, Nat.reduceSub, Nat.reduceEqDiff, Nat.reduceLT, ge_iff_le, gt_iff_lt, n_lit, m_in, m_nar0, m_nar1, and_self, not_false_eq_true, not_true_eq_false, ne_eq, reduceIte, ite_self, Nat.reduceMul, Nat.reduceDiv, Nat.reduceMod, Nat.reducePow, Nat.zero_add, Nat.add_zero, Nat.one_mul, Nat.mul_one, n_in, n_min, n_clamp, n_eq_t, n_eq_f, n_eq, n_le_t, n_le_f, n_le, n_lt_t, n_lt_f, n_lt, n_sub0, n_sublt, n_suble, n_negsub, m_up_hit, m_up_miss, m_row_hit, m_row_miss, n_eqm, n_meq, n_meqm, n_ltm, n_lem, n_mlt, n_mle, n_sub, n_div, n_and1, n_shl, n_shr, n_inc, n_mul, n_rem, z_lt, z_le, z_nlt, z_nle, Nat.not_lt_zero, Nat.le_zero_eq, Nat.zero_le, if_true, if_false, x1]
      refine k_of (d := d - 1) hl wf (by omega) _ _ _ _ _ _ _ T2 fun I3 F3 R3 n3 a3 b3 z3 T3 => ?_
      obtain rfl : n3 = n2 := by omega
      rw [v_of4 g3 w3, ed]
      have key := nxt I3 F3 R3 T3 fun I' F' R' z T' => hQ I' F' R' (z.trans (z3.trans (z2.trans (z1)))) T'
      simp (disch := omega) only [e99_277, e99_280, e99_281, e99_284, e99_285, e99_287, e99_290, true_or, m_psh_s, m_psh_n, m_kl_i, m_kl_f, m_kl_r, m_kl_n, m_kl_j, m_kl_l, m_kl_d, c_i, c_f, c_r, c_n, List.length_nil, List.length_cons, true_and, and_true, Nat.reduceAdd, Nat.reduceLeDiff, Nat.reduceSub, Nat.reduceEqDiff, Nat.reduceLT, ge_iff_le, gt_iff_lt, n_lit, m_in, m_nar0, m_nar1, and_self, not_false_eq_true, not_true_eq_false, ne_eq, reduceIte, ite_self, Nat.reduceMul, Nat.reduceDiv, Nat.reduceMod, Nat.reducePow, Nat.zero_add, Nat.add_zero, Nat.one_mul, Nat.mul_one, n_in, n_min, n_clamp, n_eq_t, n_eq_f, n_eq, n_le_t, n_le_f, n_le, n_lt_t, n_lt_f, n_lt, n_sub0, n_sublt, n_suble, n_negsub, m_up_hit, m_up_miss, m_row_hit, m_row_miss, n_eqm, n_meq, n_meqm, n_ltm, n_lem, n_mlt, n_mle, n_sub, n_div, n_and1, n_shl, n_shr, n_inc, n_mul, n_rem, z_lt, z_le, z_nlt, z_nle, Nat.not_lt_zero, Nat.le_zero_eq, Nat.zero_le, if_true, if_false, x1]
      exact key
theorem l_walks (hl : HL lay) (wf : Wf st.1 st.2.1 st.2.2) (hd : 6 ≤ d) (x : Int32) : K1 lay d 99 [.int x, m_j, m_j, m_j, m_j, m_j, m_j, m_j] st hs 0 (some (.int (nI 1))) st hs := by
  intro st' hs' I F R n Q T hQ
  have w3 := wf.1.1
  have hc9 := wf.2.1.2.2
  have x1 := TW_1 T
  simp (disch := omega) only [e99_0, e99_0N, e99_1, e99_2, true_or, m_psh_s, m_psh_n, m_kl_i, m_kl_f, m_kl_r, m_kl_n, m_kl_j, m_kl_l, m_kl_d, c_i, c_f, c_r, c_n, List.length_nil, List.length_cons, true_and, and_true, Nat.reduceAdd, Nat.reduceLeDiff, Nat.reduceSub, Nat.reduceEqDiff, Nat.reduceLT, ge_iff_le, gt_iff_lt, n_lit, m_in, m_nar0, m_nar1, and_self, not_false_eq_true, not_true_eq_false, ne_eq, reduceIte, ite_self, Nat.reduceMul, Nat.reduceDiv, Nat.reduceMod, Nat.reducePow, Nat.zero_add, Nat.add_zero, Nat.one_mul, Nat.mul_one, n_in, n_min, n_clamp, n_eq_t, n_eq_f, n_eq, n_le_t, n_le_f, n_le, n_lt_t, n_lt_f, n_lt, n_sub0, n_sublt, n_suble, n_negsub, m_up_hit, m_up_miss, m_row_hit, m_row_miss, n_eqm, n_meq, n_meqm, n_ltm, n_lem, n_mlt, n_mle, n_sub, n_div, n_and1, n_shl, n_shr, n_inc, n_mul, n_rem, z_lt, z_le, z_nlt, z_nle, Nat.not_lt_zero, Nat.le_zero_eq, Nat.zero_le, if_true, if_false, x1]
  refine k_count (d := d - 1) hl wf (by omega) _ _ _ _ _ _ _ T fun I1 F1 R1 n1 a1 b1 z1 T1 => ?_
  obtain rfl : n1 = n := by omega
  rw [v_c1]
  by_cases c0 : st.1 3 = 0
  · rw [c0]
    simp (disch := omega) only [e99_5, e99_6, e99_7, e99_10, e99_10N, e99_11, e99_12, true_or, m_psh_s, m_psh_n, m_kl_i, m_kl_f, m_kl_r, m_kl_n, m_kl_j, m_kl_l, m_kl_d, c_i, c_f, c_r, c_n, List.length_nil, List.length_cons, true_and, and_true, Nat.reduceAdd, Nat.reduceLeDiff, Nat.reduceSub, Nat.reduceEqDiff, Nat.reduceLT, ge_iff_le, gt_iff_lt, n_lit, m_in, m_nar0, m_nar1, and_self, not_false_eq_true, not_true_eq_false, ne_eq, reduceIte, ite_self, Nat.reduceMul, Nat.reduceDiv, Nat.reduceMod, Nat.reducePow, Nat.zero_add, Nat.add_zero, Nat.one_mul, Nat.mul_one, n_in, n_min, n_clamp, n_eq_t, n_eq_f, n_eq, n_le_t, n_le_f, n_le, n_lt_t, n_lt_f, n_lt, n_sub0, n_sublt, n_suble, n_negsub, m_up_hit, m_up_miss, m_row_hit, m_row_miss, n_eqm, n_meq, n_meqm, n_ltm, n_lem, n_mlt, n_mle, n_sub, n_div, n_and1, n_shl, n_shr, n_inc, n_mul, n_rem, z_lt, z_le, z_nlt, z_nle, Nat.not_lt_zero, Nat.le_zero_eq, Nat.zero_le, if_true, if_false, x1]
    refine k_walk (d := d - 1) hl wf (by omega) _ _ _ _ _ _ _ T1 fun I2 F2 R2 n2 a2 b2 z2 T2 => ?_
    obtain rfl : n2 = n1 := by omega
    have ew : q_wlk st.1 (nI 1) = -nI 1 := by
      have : q_err st.1 (nI 1) = -nI 1 := by
        unfold q_err
        rw [if_pos (Or.inr (by rw [c0, q_N_n (by omega)]; decide))]
      unfold q_wlk
      rw [this, if_neg (by decide)]
    rw [ew]
    have key := hQ I2 F2 R2 n2 (by omega) (by omega) (z2.trans (z1)) T2
    simp (disch := omega) only [e99_15, e99_16, e99_19, e99_20, e99_23, e99_24, true_or, m_psh_s, m_psh_n, m_kl_i, m_kl_f, m_kl_r, m_kl_n, m_kl_j, m_kl_l, m_kl_d, c_i, c_f, c_r, c_n, List.length_nil, List.length_cons, true_and, and_true, Nat.reduceAdd, Nat.reduceLeDiff, Nat.reduceSub, Nat.reduceEqDiff, Nat.reduceLT, ge_iff_le, gt_iff_lt, n_lit, m_in, m_nar0, m_nar1, and_self, not_false_eq_true, not_true_eq_false, ne_eq, reduceIte, ite_self, Nat.reduceMul, Nat.reduceDiv, Nat.reduceMod, Nat.reducePow, Nat.zero_add, Nat.add_zero, Nat.one_mul, Nat.mul_one, n_in, n_min, n_clamp, n_eq_t, n_eq_f, n_eq, n_le_t, n_le_f, n_le, n_lt_t, n_lt_f, n_lt, n_sub0, n_sublt, n_suble, n_negsub, m_up_hit, m_up_miss, m_row_hit, m_row_miss, n_eqm, n_meq, n_meqm, n_ltm, n_lem, n_mlt, n_mle, n_sub, n_div, n_and1, n_shl, n_shr, n_inc, n_mul, n_rem, z_lt, z_le, z_nlt, z_nle, Nat.not_lt_zero, Nat.le_zero_eq, Nat.zero_le, if_true, if_false, x1, eq_self]
    exact key
  · have kl := fun (I : mI) (F : mF) (R : mR) (n d : Nat) (Q : mP) (v : Int32) (k : Nat) (h1 : 1 ≤ k) (h2 : k < 2147483648) => l_low (lay := lay) (d := d) (I := I) (F := F) (R := R) (n := n) (Q := Q) (v := v) h1 h2
    have m0 : 1 ≤ st.1 3 := by omega
    obtain ⟨g1_, e1⟩ : ∃ a, q_low x (st.1 3) = a := ⟨_, rfl⟩
    obtain ⟨g2_, e2⟩ : ∃ a, q_low (x >>> (nI 3 &&& nI 31)) (st.1 3) = a := ⟨_, rfl⟩
    obtain ⟨g3_, e3⟩ : ∃ a, q_low (x >>> (nI 6 &&& nI 31)) (st.1 3) = a := ⟨_, rfl⟩
    obtain ⟨g4_, e4⟩ : ∃ a, q_low (x >>> (nI 8 &&& nI 31)) (st.1 3) = a := ⟨_, rfl⟩
    obtain ⟨g5_, e5⟩ : ∃ a, q_low (x >>> (nI 10 &&& nI 31)) (st.1 3) = a := ⟨_, rfl⟩
    have h1 : g1_ < st.1 3 := e1 ▸ q_low_lt m0
    have h2 : g2_ < st.1 3 := e2 ▸ q_low_lt m0
    have h3 : g3_ < st.1 3 := e3 ▸ q_low_lt m0
    have h4 : g4_ < st.1 3 := e4 ▸ q_low_lt m0
    have h5 : g5_ < st.1 3 := e5 ▸ q_low_lt m0
    obtain ⟨hb, hb1, hlt⟩ := bOK_5 w3 h1 h2 h3 h4 h5
    have es : nI (2 ^ st.1 3) - nI 1 = nI (2 ^ st.1 3 - 1) := n_sub Nat.one_le_two_pow
    have eB : ((((2 ^ g1_ ||| 2 ^ g2_) ||| 2 ^ g3_) ||| 2 ^ g4_) ||| 2 ^ g5_) &&& (2 ^ st.1 3 - 1) = ((((2 ^ g1_ ||| 2 ^ g2_) ||| 2 ^ g3_) ||| 2 ^ g4_) ||| 2 ^ g5_) := by
      rw [Nat.and_two_pow_sub_one_eq_mod, Nat.mod_eq_of_lt hlt]
    have sh : ∀ k, k < 17 → nI 1 <<< (nI k &&& nI 31) = nI (2 ^ k) := n_sh1
    have eE : ((((nI (2 ^ g1_) ||| nI (2 ^ g2_)) ||| nI (2 ^ g3_)) ||| nI (2 ^ g4_)) ||| nI (2 ^ g5_)) &&& (nI (2 ^ st.1 3) - nI 1) = nI ((((2 ^ g1_ ||| 2 ^ g2_) ||| 2 ^ g3_) ||| 2 ^ g4_) ||| 2 ^ g5_) := by
      rw [es, n_or, n_or, n_or, n_or, n_and, eB]
    simp (disch := omega) only [e99_5, e99_6, e99_7, e99_10, e99_10N, e99_11, e99_12, e99_15, e99_16, e99_19, e99_20, e99_23, e99_24, e99_25, e99_26, e99_27, e99_28, e99_31, e99_32, e99_33, e99_34, e99_35, e99_36, e99_37, e99_40, e99_41, e99_42, e99_43, e99_44, e99_46, e99_47, e99_48, e99_51, e99_52, e99_53, e99_54, e99_55, e99_57, e99_58, e99_59, e99_62, e99_63, e99_64, e99_65, e99_66, e99_68, e99_69, e99_70, e99_73, e99_74, e99_75, e99_76, e99_77, e99_78, e99_79, e99_80, e99_81, e99_82, e99_82N, e99_83, e99_84, true_or, m_psh_s, m_psh_n, m_kl_i, m_kl_f, m_kl_r, m_kl_n, m_kl_j, m_kl_l, m_kl_d, c_i, c_f, c_r, c_n, List.length_nil, List.length_cons, true_and, and_true, Nat.reduceAdd, Nat.reduceLeDiff, Nat.reduceSub, Nat.reduceEqDiff, Nat.reduceLT, ge_iff_le, gt_iff_lt, n_lit, m_in, m_nar0, m_nar1, and_self, not_false_eq_true, not_true_eq_false, ne_eq, reduceIte, ite_self, Nat.reduceMul, Nat.reduceDiv, Nat.reduceMod, Nat.reducePow, Nat.zero_add, Nat.add_zero, Nat.one_mul, Nat.mul_one, z_le, if_true, if_false, n_eq_f, n_inc, x1, kl, e1, e2, e3, e4, e5, sh, eE]
    generalize hB : ((((2 ^ g1_ ||| 2 ^ g2_) ||| 2 ^ g3_) ||| 2 ^ g4_) ||| 2 ^ g5_) = b at hb hb1
    have hb16 := hb.1
    have hlen := q_len_le wf.1 hc9 hb
    have hge := len_ge wf.1 hb hb1
    have hall := all_ge wf.1 hb hb1
    have hfar := far_le wf.1 hb (st.1 3) w3
    have htop := all_top (c := st.1 2) (pos := q_pos st.1) (b := b) (m := st.1 3) hb.2.2 (16 - st.1 3) (by omega)
    rw [show st.1 3 + (16 - st.1 3) = 16 by omega] at htop
    rw [htop] at hall
    have hp : ∀ g, g < 16 → b / 2 ^ g % 2 = 1 → q_pos st.1 g < 30 := fun g hg h => wf.1.2.1 g (hb.2.2 g hg h)
    have ball := q_all_le hc9 hp (st.1 3) w3
    have bfar := q_far_le hc9 hp (st.1 3) w3
    obtain ⟨g, eg, g16, gb, g3, hmin⟩ := stop_0 hb hb1
    refine k_walk (d := d - 1) hl wf (by omega) _ _ _ _ _ _ _ T1 fun I2 F2 R2 n2 a2 b2 z2 T2 => ?_
    obtain rfl : n2 = n1 := by omega
    rw [v_wlk w3 hb hb1]
    simp (disch := omega) only [e99_87, e99_89, e99_90, e99_92, e99_93, e99_95, e99_96, true_or, m_psh_s, m_psh_n, m_kl_i, m_kl_f, m_kl_r, m_kl_n, m_kl_j, m_kl_l, m_kl_d, c_i, c_f, c_r, c_n, List.length_nil, List.length_cons, true_and, and_true, Nat.reduceAdd, Nat.reduceLeDiff, Nat.reduceSub, Nat.reduceEqDiff, Nat.reduceLT, ge_iff_le, gt_iff_lt, n_lit, m_in, m_nar0, m_nar1, and_self, not_false_eq_true, not_true_eq_false, ne_eq, reduceIte, ite_self, Nat.reduceMul, Nat.reduceDiv, Nat.reduceMod, Nat.reducePow, Nat.zero_add, Nat.add_zero, Nat.one_mul, Nat.mul_one, n_in, n_min, n_clamp, n_eq_t, n_eq_f, n_eq, n_le_t, n_le_f, n_le, n_lt_t, n_lt_f, n_lt, n_sub0, n_sublt, n_suble, n_negsub, m_up_hit, m_up_miss, m_row_hit, m_row_miss, n_eqm, n_meq, n_meqm, n_ltm, n_lem, n_mlt, n_mle, n_sub, n_div, n_and1, n_shl, n_shr, n_inc, n_mul, n_rem, z_lt, z_le, z_nlt, z_nle, Nat.not_lt_zero, Nat.le_zero_eq, Nat.zero_le, if_true, if_false, x1]
    refine wa_1 hl wf hb (by omega) (st.1 3) 0 I2 F2 R2 (Nat.zero_add _) T2 fun I3 F3 R3 z3 T3 => ?_
    simp (disch := omega) only [e99_174, e99_174N, e99_175, e99_176, true_or, m_psh_s, m_psh_n, m_kl_i, m_kl_f, m_kl_r, m_kl_n, m_kl_j, m_kl_l, m_kl_d, c_i, c_f, c_r, c_n, List.length_nil, List.length_cons, true_and, and_true, Nat.reduceAdd, Nat.reduceLeDiff, Nat.reduceSub, Nat.reduceEqDiff, Nat.reduceLT, ge_iff_le, gt_iff_lt, n_lit, m_in, m_nar0, m_nar1, and_self, not_false_eq_true, not_true_eq_false, ne_eq, reduceIte, ite_self, Nat.reduceMul, Nat.reduceDiv, Nat.reduceMod, Nat.reducePow, Nat.zero_add, Nat.add_zero, Nat.one_mul, Nat.mul_one, n_in, n_min, n_clamp, n_eq_t, n_eq_f, n_eq, n_le_t, n_le_f, n_le, n_lt_t, n_lt_f, n_lt, n_sub0, n_sublt, n_suble, n_negsub, m_up_hit, m_up_miss, m_row_hit, m_row_miss, n_eqm, n_meq, n_meqm, n_ltm, n_lem, n_mlt, n_mle, n_sub, n_div, n_and1, n_shl, n_shr, n_inc, n_mul, n_rem, z_lt, z_le, z_nlt, z_nle, Nat.not_lt_zero, Nat.le_zero_eq, Nat.zero_le, if_true, if_false, x1]
    refine k_shortest (d := d - 1) hl wf (by omega) _ _ _ _ _ _ _ T3 fun I4 F4 R4 n4 a4' b4 z4 T4 => ?_
    obtain rfl : n4 = n2 := by omega
    rw [v_sht w3 hb hb1]
    simp (disch := omega) only [e99_179, e99_181, e99_184, e99_184N, e99_185, e99_186, true_or, m_psh_s, m_psh_n, m_kl_i, m_kl_f, m_kl_r, m_kl_n, m_kl_j, m_kl_l, m_kl_d, c_i, c_f, c_r, c_n, List.length_nil, List.length_cons, true_and, and_true, Nat.reduceAdd, Nat.reduceLeDiff, Nat.reduceSub, Nat.reduceEqDiff, Nat.reduceLT, ge_iff_le, gt_iff_lt, n_lit, m_in, m_nar0, m_nar1, and_self, not_false_eq_true, not_true_eq_false, ne_eq, reduceIte, ite_self, Nat.reduceMul, Nat.reduceDiv, Nat.reduceMod, Nat.reducePow, Nat.zero_add, Nat.add_zero, Nat.one_mul, Nat.mul_one, n_in, n_min, n_clamp, n_eq_t, n_eq_f, n_eq, n_le_t, n_le_f, n_le, n_lt_t, n_lt_f, n_lt, n_sub0, n_sublt, n_suble, n_negsub, m_up_hit, m_up_miss, m_row_hit, m_row_miss, n_eqm, n_meq, n_meqm, n_ltm, n_lem, n_mlt, n_mle, n_sub, n_div, n_and1, n_shl, n_shr, n_inc, n_mul, n_rem, z_lt, z_le, z_nlt, z_nle, Nat.not_lt_zero, Nat.le_zero_eq, Nat.zero_le, if_true, if_false, x1]
    refine k_shortest (d := d - 1) hl wf (by omega) _ _ _ _ _ _ _ T4 fun I5 F5 R5 n5 a5' b5 z5 T5 => ?_
    obtain rfl : n5 = n4 := by omega
    rw [v_sht w3 hb hb1]
    simp (disch := omega) only [e99_189, e99_190, e99_192, e99_193, e99_196, e99_196N, e99_197, e99_198, true_or, m_psh_s, m_psh_n, m_kl_i, m_kl_f, m_kl_r, m_kl_n, m_kl_j, m_kl_l, m_kl_d, c_i, c_f, c_r, c_n, List.length_nil, List.length_cons, true_and, and_true, Nat.reduceAdd, Nat.reduceLeDiff, Nat.reduceSub, Nat.reduceEqDiff, Nat.reduceLT, ge_iff_le, gt_iff_lt, n_lit, m_in, m_nar0, m_nar1, and_self, not_false_eq_true, not_true_eq_false, ne_eq, reduceIte, ite_self, Nat.reduceMul, Nat.reduceDiv, Nat.reduceMod, Nat.reducePow, Nat.zero_add, Nat.add_zero, Nat.one_mul, Nat.mul_one, n_in, n_min, n_clamp, n_eq_t, n_eq_f, n_eq, n_le_t, n_le_f, n_le, n_lt_t, n_lt_f, n_lt, n_sub0, n_sublt, n_suble, n_negsub, m_up_hit, m_up_miss, m_row_hit, m_row_miss, n_eqm, n_meq, n_meqm, n_ltm, n_lem, n_mlt, n_mle, n_sub, n_div, n_and1, n_shl, n_shr, n_inc, n_mul, n_rem, z_lt, z_le, z_nlt, z_nle, Nat.not_lt_zero, Nat.le_zero_eq, Nat.zero_le, if_true, if_false, x1]
    refine k_shortest (d := d - 1) hl wf (by omega) _ _ _ _ _ _ _ T5 fun I6 F6 R6 n6 a6' b6 z6 T6 => ?_
    obtain rfl : n6 = n5 := by omega
    rw [v_sht w3 hb hb1]
    simp (disch := omega) only [e99_201, e99_203, e99_206, e99_206N, e99_207, e99_208, e99_209, true_or, m_psh_s, m_psh_n, m_kl_i, m_kl_f, m_kl_r, m_kl_n, m_kl_j, m_kl_l, m_kl_d, c_i, c_f, c_r, c_n, List.length_nil, List.length_cons, true_and, and_true, Nat.reduceAdd, Nat.reduceLeDiff, Nat.reduceSub, Nat.reduceEqDiff, Nat.reduceLT, ge_iff_le, gt_iff_lt, n_lit, m_in, m_nar0, m_nar1, and_self, not_false_eq_true, not_true_eq_false, ne_eq, reduceIte, ite_self, Nat.reduceMul, Nat.reduceDiv, Nat.reduceMod, Nat.reducePow, Nat.zero_add, Nat.add_zero, Nat.one_mul, Nat.mul_one, n_in, n_min, n_clamp, n_eq_t, n_eq_f, n_eq, n_le_t, n_le_f, n_le, n_lt_t, n_lt_f, n_lt, n_sub0, n_sublt, n_suble, n_negsub, m_up_hit, m_up_miss, m_row_hit, m_row_miss, n_eqm, n_meq, n_meqm, n_ltm, n_lem, n_mlt, n_mle, n_sub, n_div, n_and1, n_shl, n_shr, n_inc, n_mul, n_rem, z_lt, z_le, z_nlt, z_nle, Nat.not_lt_zero, Nat.le_zero_eq, Nat.zero_le, if_true, if_false, x1]
    refine k_stop (d := d - 1) hl wf (by omega) _ _ _ _ _ _ _ T6 fun I7 F7 R7 n7 a7' b7 z7 T7 => ?_
    obtain rfl : n7 = n6 := by omega
    rw [v_stp0 w3 hb hb1, eg]
    simp (disch := omega) only [e99_212, e99_215, e99_216, e99_216N, e99_217, e99_218, e99_219, true_or, m_psh_s, m_psh_n, m_kl_i, m_kl_f, m_kl_r, m_kl_n, m_kl_j, m_kl_l, m_kl_d, c_i, c_f, c_r, c_n, List.length_nil, List.length_cons, true_and, and_true, Nat.reduceAdd, Nat.reduceLeDiff, Nat.reduceSub, Nat.reduceEqDiff, Nat.reduceLT, ge_iff_le, gt_iff_lt, n_lit, m_in, m_nar0, m_nar1, and_self, not_false_eq_true, not_true_eq_false, ne_eq, reduceIte, ite_self, Nat.reduceMul, Nat.reduceDiv, Nat.reduceMod, Nat.reducePow, Nat.zero_add, Nat.add_zero, Nat.one_mul, Nat.mul_one, n_in, n_min, n_clamp, n_eq_t, n_eq_f, n_eq, n_le_t, n_le_f, n_le, n_lt_t, n_lt_f, n_lt, n_sub0, n_sublt, n_suble, n_negsub, m_up_hit, m_up_miss, m_row_hit, m_row_miss, n_eqm, n_meq, n_meqm, n_ltm, n_lem, n_mlt, n_mle, n_sub, n_div, n_and1, n_shl, n_shr, n_inc, n_mul, n_rem, z_lt, z_le, z_nlt, z_nle, Nat.not_lt_zero, Nat.le_zero_eq, Nat.zero_le, if_true, if_false, x1]
    refine k_stop (d := d - 1) hl wf (by omega) _ _ _ _ _ _ _ T7 fun I8 F8 R8 n8 a8' b8 z8 T8 => ?_
    obtain rfl : n8 = n7 := by omega
    rw [v_stp0 w3 hb hb1, eg]
    simp (disch := omega) only [e99_222, e99_223, e99_224, e99_225, e99_226, e99_229, e99_230, e99_233, e99_234, e99_236, e99_237, true_or, m_psh_s, m_psh_n, m_kl_i, m_kl_f, m_kl_r, m_kl_n, m_kl_j, m_kl_l, m_kl_d, c_i, c_f, c_r, c_n, List.length_nil, List.length_cons, true_and, and_true, Nat.reduceAdd, Nat.reduceLeDiff, Nat.reduceSub, Nat.reduceEqDiff, Nat.reduceLT, ge_iff_le, gt_iff_lt, n_lit, m_in, m_nar0, m_nar1, and_self, not_false_eq_true, not_true_eq_false, ne_eq, reduceIte, ite_self, Nat.reduceMul, Nat.reduceDiv, Nat.reduceMod, Nat.reducePow, Nat.zero_add, Nat.add_zero, Nat.one_mul, Nat.mul_one, n_in, n_min, n_clamp, n_eq_t, n_eq_f, n_eq, n_le_t, n_le_f, n_le, n_lt_t, n_lt_f, n_lt, n_sub0, n_sublt, n_suble, n_negsub, m_up_hit, m_up_miss, m_row_hit, m_row_miss, n_eqm, n_meq, n_meqm, n_ltm, n_lem, n_mlt, n_mle, n_sub, n_div, n_and1, n_shl, n_shr, n_inc, n_mul, n_rem, z_lt, z_le, z_nlt, z_nle, Nat.not_lt_zero, Nat.le_zero_eq, Nat.zero_le, if_true, if_false, x1, gb, eq_self]
    refine wa_2 hl wf hb hb1 eg g3 hmin (by omega) (st.1 3) 0 I8 F8 R8 (Nat.zero_add _) T8 fun I9 F9 R9 z9 T9 => ?_
    obtain ⟨o1, o2⟩ := bOK_1 w3 h1
    have l1 := len_1 w3 h1
    have s1 := short_1 wf.1 h1
    have hd1 := q_dsk_le hc9 (wf.1.2.1 g1_ h1)
    have ed : q_dsk (st.1 2) (st.1 (4 + 4 * g1_)) = q_dsk (st.1 2) (q_pos st.1 g1_) := rfl
    simp (disch := omega) only [e99_293, e99_295, e99_298, e99_298N, e99_299, e99_300, e99_301, e99_302, e99_305, e99_306, true_or, m_psh_s, m_psh_n, m_kl_i, m_kl_f, m_kl_r, m_kl_n, m_kl_j, m_kl_l, m_kl_d, c_i, c_f, c_r, c_n, List.length_nil, List.length_cons, true_and, and_true, Nat.reduceAdd, Nat.reduceLeDiff, Nat.reduceSub, Nat.reduceEqDiff, Nat.reduceLT, ge_iff_le, gt_iff_lt, n_lit, m_in, m_nar0, m_nar1, and_self, not_false_eq_true, not_true_eq_false, ne_eq, reduceIte, ite_self, Nat.reduceMul, Nat.reduceDiv, Nat.reduceMod, Nat.reducePow, Nat.zero_add, Nat.add_zero, Nat.one_mul, Nat.mul_one, z_le, if_true, if_false, n_eq_f, x1, kl, e1, sh]
    refine k_walk (d := d - 1) hl wf (by omega) _ _ _ _ _ _ _ T9 fun I10 F10 R10 n10 a10' b10 z10 T10 => ?_
    obtain rfl : n10 = n8 := by omega
    rw [v_wlk w3 o1 (by omega), l1]
    simp (disch := omega) only [e99_309, e99_310, e99_310N, e99_311, e99_312, e99_313, e99_316, e99_317, true_or, m_psh_s, m_psh_n, m_kl_i, m_kl_f, m_kl_r, m_kl_n, m_kl_j, m_kl_l, m_kl_d, c_i, c_f, c_r, c_n, List.length_nil, List.length_cons, true_and, and_true, Nat.reduceAdd, Nat.reduceLeDiff, Nat.reduceSub, Nat.reduceEqDiff, Nat.reduceLT, ge_iff_le, gt_iff_lt, n_lit, m_in, m_nar0, m_nar1, and_self, not_false_eq_true, not_true_eq_false, ne_eq, reduceIte, ite_self, Nat.reduceMul, Nat.reduceDiv, Nat.reduceMod, Nat.reducePow, Nat.zero_add, Nat.add_zero, Nat.one_mul, Nat.mul_one, z_le, if_true, if_false, n_eq_f, x1, kl, e1, sh]
    refine k_of (d := d - 1) hl wf (by omega) _ _ _ _ _ _ _ T10 fun I11 F11 R11 n11 a11' b11 z11 T11 => ?_
    obtain rfl : n11 = n10 := by omega
    rw [v_of4 h1 w3, ed]
    simp (disch := omega) only [e99_320, e99_321, e99_324, e99_324N, e99_325, e99_326, e99_327, e99_328, e99_331, e99_332, true_or, m_psh_s, m_psh_n, m_kl_i, m_kl_f, m_kl_r, m_kl_n, m_kl_j, m_kl_l, m_kl_d, c_i, c_f, c_r, c_n, List.length_nil, List.length_cons, true_and, and_true, Nat.reduceAdd, Nat.reduceLeDiff, Nat.reduceSub, Nat.reduceEqDiff, Nat.reduceLT, ge_iff_le, gt_iff_lt, n_lit, m_in, m_nar0, m_nar1, and_self, not_false_eq_true, not_true_eq_false, ne_eq, reduceIte, ite_self, Nat.reduceMul, Nat.reduceDiv, Nat.reduceMod, Nat.reducePow, Nat.zero_add, Nat.add_zero, Nat.one_mul, Nat.mul_one, z_le, if_true, if_false, n_eq_f, n_mul, x1, kl, e1, sh, eq_self]
    refine k_shortest (d := d - 1) hl wf (by omega) _ _ _ _ _ _ _ T11 fun I12 F12 R12 n12 a12' b12 z12 T12 => ?_
    obtain rfl : n12 = n11 := by omega
    rw [v_sht w3 o1 (by omega), s1]
    simp (disch := omega) only [e99_335, e99_336, e99_336N, e99_337, e99_338, e99_339, e99_342, e99_343, true_or, m_psh_s, m_psh_n, m_kl_i, m_kl_f, m_kl_r, m_kl_n, m_kl_j, m_kl_l, m_kl_d, c_i, c_f, c_r, c_n, List.length_nil, List.length_cons, true_and, and_true, Nat.reduceAdd, Nat.reduceLeDiff, Nat.reduceSub, Nat.reduceEqDiff, Nat.reduceLT, ge_iff_le, gt_iff_lt, n_lit, m_in, m_nar0, m_nar1, and_self, not_false_eq_true, not_true_eq_false, ne_eq, reduceIte, ite_self, Nat.reduceMul, Nat.reduceDiv, Nat.reduceMod, Nat.reducePow, Nat.zero_add, Nat.add_zero, Nat.one_mul, Nat.mul_one, z_le, if_true, if_false, n_eq_f, x1, kl, e1, sh]
    refine k_of (d := d - 1) hl wf (by omega) _ _ _ _ _ _ _ T12 fun I13 F13 R13 n13 a13' b13 z13 T13 => ?_
    obtain rfl : n13 = n12 := by omega
    rw [v_of4 h1 w3, ed]
    have key := hQ I13 F13 R13 n13 (by omega) (by omega) (z13.trans (z12.trans (z11.trans (z10.trans (z9.trans (z8.trans (z7.trans (z6.trans (z5.trans (z4.trans (z3.trans (z2.trans (z1))))))))))))) T13
    simp (disch := omega) only [e99_346, e99_347, e99_350, e99_351, e99_354, e99_355, true_or, m_psh_s, m_psh_n, m_kl_i, m_kl_f, m_kl_r, m_kl_n, m_kl_j, m_kl_l, m_kl_d, c_i, c_f, c_r, c_n, List.length_nil, List.length_cons, true_and, and_true, Nat.reduceAdd, Nat.reduceLeDiff, Nat.reduceSub, Nat.reduceEqDiff, Nat.reduceLT, ge_iff_le, gt_iff_lt, n_lit, m_in, m_nar0, m_nar1, and_self, not_false_eq_true, not_true_eq_false, ne_eq, reduceIte, ite_self, Nat.reduceMul, Nat.reduceDiv, Nat.reduceMod, Nat.reducePow, Nat.zero_add, Nat.add_zero, Nat.one_mul, Nat.mul_one, z_le, if_true, if_false, n_eq_f, n_mul, x1, eq_self]
    exact key
end WALKM
