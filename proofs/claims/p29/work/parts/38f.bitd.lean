section BITD
variable {lay : mL} {d n : Nat} {I : mI} {F : mF} {R : mR} {Q : mP} {w : UInt64}
-- the reference's, of a double
theorem w_dn {T : Nat} (hT : T < 4503599627370496) (j : Nat) : ∀ E k, E + j = 1023 → 1 ≤ E → k + j ≤ 1022 → (Ev lay d 51 33 [.double w, m_j, .double (dl (E * 4503599627370496 + T)), m_j, .int (-nI k)] [] I F R n Q ↔ Q (some (.int (-nI (k + j)))) I F R n) := by
  induction j with
  | zero =>
    intro E k hE h1 hk
    rw [e51_33]
    simp (disch := omega) only [e51_34, e51_35, e51_36, e51_59, e51_61, true_or, m_psh_s, m_psh_n, m_kl_i, m_kl_f, m_kl_r, m_kl_n, m_kl_j, m_kl_l, m_kl_d, c_i, c_f, c_r, c_n, List.length_nil, List.length_cons, true_and, and_true, Nat.reduceAdd, Nat.reduceLeDiff, Nat.reduceSub, Nat.reduceEqDiff, Nat.reduceLT, ge_iff_le, gt_iff_lt, n_lit, m_in, m_nar0, m_nar1, and_self, not_false_eq_true, not_true_eq_false, ne_eq, reduceIte, ite_self, Nat.reduceMul, Nat.reduceDiv, Nat.reduceMod, Nat.reducePow, Nat.zero_add, Nat.add_zero, Nat.one_mul, Nat.mul_one, n_in, n_min, n_clamp, n_eq_t, n_eq_f, n_eq, n_le_t, n_le_f, n_le, n_lt_t, n_lt_f, n_lt, n_sub0, n_sublt, n_suble, n_negsub, m_up_hit, m_up_miss, m_row_hit, m_row_miss, n_eqm, n_meq, n_meqm, n_ltm, n_lem, n_mlt, n_mle, n_sub, n_div, n_and1, n_shl, n_shr, n_inc, n_mul, n_rem, z_lt, z_le, z_nlt, z_nle, Nat.not_lt_zero, Nat.le_zero_eq, Nat.zero_le, if_true, if_false, dl_c1, cv_ge_t]
  | succ j ih =>
    intro E k hE h1 hk
    have key := ih (E + 1) (k + 1) (by omega) (by omega) (by omega)
    have e : (E + 1) * 4503599627370496 + T = E * 4503599627370496 + T + 4503599627370496 := by omega
    rw [e, show k + 1 + j = k + (j + 1) by omega] at key
    have v := dl_vf (X := E * 4503599627370496 + T + 4503599627370496) (by omega)
    have q := dl_dbl (X := E * 4503599627370496 + T) (by omega) (by omega)
    rw [e51_33]
    simp (disch := omega) only [e51_34, e51_35, e51_36, e51_39, e51_41, e51_44, e51_47, e51_48, e51_51, e51_52, e51_53, e51_56, true_or, m_psh_s, m_psh_n, m_kl_i, m_kl_f, m_kl_r, m_kl_n, m_kl_j, m_kl_l, m_kl_d, c_i, c_f, c_r, c_n, List.length_nil, List.length_cons, true_and, and_true, Nat.reduceAdd, Nat.reduceLeDiff, Nat.reduceSub, Nat.reduceEqDiff, Nat.reduceLT, ge_iff_le, gt_iff_lt, n_lit, m_in, m_nar0, m_nar1, and_self, not_false_eq_true, not_true_eq_false, ne_eq, reduceIte, ite_self, Nat.reduceMul, Nat.reduceDiv, Nat.reduceMod, Nat.reducePow, Nat.zero_add, Nat.add_zero, Nat.one_mul, Nat.mul_one, n_in, n_min, n_clamp, n_eq_t, n_eq_f, n_eq, n_le_t, n_le_f, n_le, n_lt_t, n_lt_f, n_lt, n_sub0, n_sublt, n_suble, n_negsub, m_up_hit, m_up_miss, m_row_hit, m_row_miss, n_eqm, n_meq, n_meqm, n_ltm, n_lem, n_mlt, n_mle, n_sub, n_div, n_and1, n_shl, n_shr, n_inc, n_mul, n_rem, z_lt, z_le, z_nlt, z_nle, Nat.not_lt_zero, Nat.le_zero_eq, Nat.zero_le, if_true, if_false, n_mlem_f, n_mm1, dl_c1, cv_ge_f, q, v]
    exact key
theorem w_up {T : Nat} (hT : T < 4503599627370496) (j : Nat) : ∀ E k, E = 1023 + j → E ≤ 2046 → k + j ≤ 1023 → (Ev lay d 51 5 [.double w, m_j, .double (dl (E * 4503599627370496 + T)), m_j, .int (nI k)] [] I F R n Q ↔ Q (some (.int (nI (k + j)))) I F R n) := by
  induction j with
  | zero =>
    intro E k hE h1 hk
    rw [e51_5]
    simp (disch := omega) only [e51_6, e51_9, e51_10, e51_33, e51_34, e51_35, e51_36, e51_59, e51_61, true_or, m_psh_s, m_psh_n, m_kl_i, m_kl_f, m_kl_r, m_kl_n, m_kl_j, m_kl_l, m_kl_d, c_i, c_f, c_r, c_n, List.length_nil, List.length_cons, true_and, and_true, Nat.reduceAdd, Nat.reduceLeDiff, Nat.reduceSub, Nat.reduceEqDiff, Nat.reduceLT, ge_iff_le, gt_iff_lt, n_lit, m_in, m_nar0, m_nar1, and_self, not_false_eq_true, not_true_eq_false, ne_eq, reduceIte, ite_self, Nat.reduceMul, Nat.reduceDiv, Nat.reduceMod, Nat.reducePow, Nat.zero_add, Nat.add_zero, Nat.one_mul, Nat.mul_one, n_in, n_min, n_clamp, n_eq_t, n_eq_f, n_eq, n_le_t, n_le_f, n_le, n_lt_t, n_lt_f, n_lt, n_sub0, n_sublt, n_suble, n_negsub, m_up_hit, m_up_miss, m_row_hit, m_row_miss, n_eqm, n_meq, n_meqm, n_ltm, n_lem, n_mlt, n_mle, n_sub, n_div, n_and1, n_shl, n_shr, n_inc, n_mul, n_rem, z_lt, z_le, z_nlt, z_nle, Nat.not_lt_zero, Nat.le_zero_eq, Nat.zero_le, if_true, if_false, dl_c1, dl_c2, cv_ge_t, cv_lt_t]
  | succ j ih =>
    intro E k hE h1 hk
    have key := ih (E - 1) (k + 1) (by omega) (by omega) (by omega)
    have e : (E - 1) * 4503599627370496 + T = E * 4503599627370496 + T - 4503599627370496 := by omega
    rw [e, show k + 1 + j = k + (j + 1) by omega] at key
    have v := dl_vf (X := E * 4503599627370496 + T - 4503599627370496) (by omega)
    have q := dl_half (X := E * 4503599627370496 + T) (by omega) (by omega)
    rw [e51_5]
    simp (disch := omega) only [e51_6, e51_9, e51_10, e51_13, e51_15, e51_18, e51_21, e51_22, e51_25, e51_26, e51_27, e51_30, true_or, m_psh_s, m_psh_n, m_kl_i, m_kl_f, m_kl_r, m_kl_n, m_kl_j, m_kl_l, m_kl_d, c_i, c_f, c_r, c_n, List.length_nil, List.length_cons, true_and, and_true, Nat.reduceAdd, Nat.reduceLeDiff, Nat.reduceSub, Nat.reduceEqDiff, Nat.reduceLT, ge_iff_le, gt_iff_lt, n_lit, m_in, m_nar0, m_nar1, and_self, not_false_eq_true, not_true_eq_false, ne_eq, reduceIte, ite_self, Nat.reduceMul, Nat.reduceDiv, Nat.reduceMod, Nat.reducePow, Nat.zero_add, Nat.add_zero, Nat.one_mul, Nat.mul_one, n_in, n_min, n_clamp, n_eq_t, n_eq_f, n_eq, n_le_t, n_le_f, n_le, n_lt_t, n_lt_f, n_lt, n_sub0, n_sublt, n_suble, n_negsub, m_up_hit, m_up_miss, m_row_hit, m_row_miss, n_eqm, n_meq, n_meqm, n_ltm, n_lem, n_mlt, n_mle, n_sub, n_div, n_and1, n_shl, n_shr, n_inc, n_mul, n_rem, z_lt, z_le, z_nlt, z_nle, Nat.not_lt_zero, Nat.le_zero_eq, Nat.zero_le, if_true, if_false, dl_c2, cv_lt_f, q, v]
    exact key
/-- the exponent, from the biased one -/
def eI (E : Nat) : Int32 := if 1023 ≤ E then nI (E - 1023) else -nI (1023 - E)
theorem s_expo {E T : Nat} (hT : T < 4503599627370496) (h1 : 1 ≤ E) (h2 : E ≤ 2046) : Ev lay d 51 0 [.double (dl (E * 4503599627370496 + T)), m_j, m_j, m_j, m_j] [] I F R n Q ↔ Q (some (.int (eI E))) I F R n := by
  unfold eI
  simp (disch := omega) only [e51_0, e51_1, e51_2, e51_3, true_or, m_psh_s, m_psh_n, m_kl_i, m_kl_f, m_kl_r, m_kl_n, m_kl_j, m_kl_l, m_kl_d, c_i, c_f, c_r, c_n, List.length_nil, List.length_cons, true_and, and_true, Nat.reduceAdd, Nat.reduceLeDiff, Nat.reduceSub, Nat.reduceEqDiff, Nat.reduceLT, ge_iff_le, gt_iff_lt, n_lit, m_in, m_nar0, m_nar1, and_self, not_false_eq_true, not_true_eq_false, ne_eq, reduceIte, ite_self, Nat.reduceMul, Nat.reduceDiv, Nat.reduceMod, Nat.reducePow, Nat.zero_add, Nat.add_zero, Nat.one_mul, Nat.mul_one, n_in, n_min, n_clamp, n_eq_t, n_eq_f, n_eq, n_le_t, n_le_f, n_le, n_lt_t, n_lt_f, n_lt, n_sub0, n_sublt, n_suble, n_negsub, m_up_hit, m_up_miss, m_row_hit, m_row_miss, n_eqm, n_meq, n_meqm, n_ltm, n_lem, n_mlt, n_mle, n_sub, n_div, n_and1, n_shl, n_shr, n_inc, n_mul, n_rem, z_lt, z_le, z_nlt, z_nle, Nat.not_lt_zero, Nat.le_zero_eq, Nat.zero_le, if_true, if_false]
  by_cases c : 1023 ≤ E
  · rw [w_up hT (E - 1023) E 0 (by omega) h2 (by omega), if_pos c, Nat.zero_add]
  · have key := w_dn (lay := lay) (d := d) (I := I) (F := F) (R := R) (n := n) (Q := Q) (w := dl (E * 4503599627370496 + T)) hT (1023 - E) E 0 (by omega) h1 (by omega)
    rw [show -nI 0 = nI 0 by decide, Nat.zero_add] at key
    rw [e51_5, if_neg c]
    simp (disch := omega) only [e51_6, e51_9, e51_10, true_or, m_psh_s, m_psh_n, m_kl_i, m_kl_f, m_kl_r, m_kl_n, m_kl_j, m_kl_l, m_kl_d, c_i, c_f, c_r, c_n, List.length_nil, List.length_cons, true_and, and_true, Nat.reduceAdd, Nat.reduceLeDiff, Nat.reduceSub, Nat.reduceEqDiff, Nat.reduceLT, ge_iff_le, gt_iff_lt, n_lit, m_in, m_nar0, m_nar1, and_self, not_false_eq_true, not_true_eq_false, ne_eq, reduceIte, ite_self, Nat.reduceMul, Nat.reduceDiv, Nat.reduceMod, Nat.reducePow, Nat.zero_add, Nat.add_zero, Nat.one_mul, Nat.mul_one, n_in, n_min, n_clamp, n_eq_t, n_eq_f, n_eq, n_le_t, n_le_f, n_le, n_lt_t, n_lt_f, n_lt, n_sub0, n_sublt, n_suble, n_negsub, m_up_hit, m_up_miss, m_row_hit, m_row_miss, n_eqm, n_meq, n_meqm, n_ltm, n_lem, n_mlt, n_mle, n_sub, n_div, n_and1, n_shl, n_shr, n_inc, n_mul, n_rem, z_lt, z_le, z_nlt, z_nle, Nat.not_lt_zero, Nat.le_zero_eq, Nat.zero_le, if_true, if_false, dl_c2, cv_lt_t]
    exact key
theorem w_su {T m : Nat} (hT : T < 4503599627370496) (hm : m ≤ 1023) (j : Nat) : ∀ k, k + j = m → (Ev lay d 52 5 [.double w, m_j, .int (nI m), .double (dl ((1023 + j) * 4503599627370496 + T)), m_j, .int (nI k)] [] I F R n Q ↔ Q (some (.double (dl (4607182418800017408 + T)))) I F R n) := by
  induction j with
  | zero =>
    intro k hk
    have e : (1023 + 0) * 4503599627370496 + T = 4607182418800017408 + T := by omega
    rw [e, e52_5]
    simp (disch := omega) only [e52_7, e52_8, e52_23, e52_24, e52_26, e52_28, e52_29, e52_44, e52_45, true_or, m_psh_s, m_psh_n, m_kl_i, m_kl_f, m_kl_r, m_kl_n, m_kl_j, m_kl_l, m_kl_d, c_i, c_f, c_r, c_n, List.length_nil, List.length_cons, true_and, and_true, Nat.reduceAdd, Nat.reduceLeDiff, Nat.reduceSub, Nat.reduceEqDiff, Nat.reduceLT, ge_iff_le, gt_iff_lt, n_lit, m_in, m_nar0, m_nar1, and_self, not_false_eq_true, not_true_eq_false, ne_eq, reduceIte, ite_self, Nat.reduceMul, Nat.reduceDiv, Nat.reduceMod, Nat.reducePow, Nat.zero_add, Nat.add_zero, Nat.one_mul, Nat.mul_one, n_in, n_min, n_clamp, n_eq_t, n_eq_f, n_eq, n_le_t, n_le_f, n_le, n_lt_t, n_lt_f, n_lt, n_sub0, n_sublt, n_suble, n_negsub, m_up_hit, m_up_miss, m_row_hit, m_row_miss, n_eqm, n_meq, n_meqm, n_ltm, n_lem, n_mlt, n_mle, n_sub, n_div, n_and1, n_shl, n_shr, n_inc, n_mul, n_rem, z_lt, z_le, z_nlt, z_nle, Nat.not_lt_zero, Nat.le_zero_eq, Nat.zero_le, if_true, if_false]
  | succ j ih =>
    intro k hk
    have key := ih (k + 1) (by omega)
    have e : (1023 + j) * 4503599627370496 + T = (1023 + (j + 1)) * 4503599627370496 + T - 4503599627370496 := by omega
    rw [e] at key
    have v := dl_vf (X := (1023 + (j + 1)) * 4503599627370496 + T - 4503599627370496) (by omega)
    have q := dl_half (X := (1023 + (j + 1)) * 4503599627370496 + T) (by omega) (by omega)
    rw [e52_5]
    simp (disch := omega) only [e52_7, e52_8, e52_11, e52_12, e52_15, e52_16, e52_17, e52_20, true_or, m_psh_s, m_psh_n, m_kl_i, m_kl_f, m_kl_r, m_kl_n, m_kl_j, m_kl_l, m_kl_d, c_i, c_f, c_r, c_n, List.length_nil, List.length_cons, true_and, and_true, Nat.reduceAdd, Nat.reduceLeDiff, Nat.reduceSub, Nat.reduceEqDiff, Nat.reduceLT, ge_iff_le, gt_iff_lt, n_lit, m_in, m_nar0, m_nar1, and_self, not_false_eq_true, not_true_eq_false, ne_eq, reduceIte, ite_self, Nat.reduceMul, Nat.reduceDiv, Nat.reduceMod, Nat.reducePow, Nat.zero_add, Nat.add_zero, Nat.one_mul, Nat.mul_one, n_in, n_min, n_clamp, n_eq_t, n_eq_f, n_eq, n_le_t, n_le_f, n_le, n_lt_t, n_lt_f, n_lt, n_sub0, n_sublt, n_suble, n_negsub, m_up_hit, m_up_miss, m_row_hit, m_row_miss, n_eqm, n_meq, n_meqm, n_ltm, n_lem, n_mlt, n_mle, n_sub, n_div, n_and1, n_shl, n_shr, n_inc, n_mul, n_rem, z_lt, z_le, z_nlt, z_nle, Nat.not_lt_zero, Nat.le_zero_eq, Nat.zero_le, if_true, if_false, q, v]
    exact key
theorem w_sd {T m : Nat} (hT : T < 4503599627370496) (hm : m ≤ 1022) (j : Nat) : ∀ k, k + j = m → (Ev lay d 52 26 [.double w, m_j, .int (-nI m), .double (dl ((1023 - j) * 4503599627370496 + T)), m_j, .int (-nI k)] [] I F R n Q ↔ Q (some (.double (dl (4607182418800017408 + T)))) I F R n) := by
  induction j with
  | zero =>
    intro k hk
    have e : (1023 - 0) * 4503599627370496 + T = 4607182418800017408 + T := by omega
    rw [e, e52_26]
    simp (disch := omega) only [e52_28, e52_29, e52_44, e52_45, true_or, m_psh_s, m_psh_n, m_kl_i, m_kl_f, m_kl_r, m_kl_n, m_kl_j, m_kl_l, m_kl_d, c_i, c_f, c_r, c_n, List.length_nil, List.length_cons, true_and, and_true, Nat.reduceAdd, Nat.reduceLeDiff, Nat.reduceSub, Nat.reduceEqDiff, Nat.reduceLT, ge_iff_le, gt_iff_lt, n_lit, m_in, m_nar0, m_nar1, and_self, not_false_eq_true, not_true_eq_false, ne_eq, reduceIte, ite_self, Nat.reduceMul, Nat.reduceDiv, Nat.reduceMod, Nat.reducePow, Nat.zero_add, Nat.add_zero, Nat.one_mul, Nat.mul_one, n_in, n_min, n_clamp, n_eq_t, n_eq_f, n_eq, n_le_t, n_le_f, n_le, n_lt_t, n_lt_f, n_lt, n_sub0, n_sublt, n_suble, n_negsub, m_up_hit, m_up_miss, m_row_hit, m_row_miss, n_eqm, n_meq, n_meqm, n_ltm, n_lem, n_mlt, n_mle, n_sub, n_div, n_and1, n_shl, n_shr, n_inc, n_mul, n_rem, z_lt, z_le, z_nlt, z_nle, Nat.not_lt_zero, Nat.le_zero_eq, Nat.zero_le, if_true, if_false, n_mlem_t]
  | succ j ih =>
    intro k hk
    have key := ih (k + 1) (by omega)
    have e : (1023 - j) * 4503599627370496 + T = (1023 - (j + 1)) * 4503599627370496 + T + 4503599627370496 := by omega
    rw [e] at key
    have v := dl_vf (X := (1023 - (j + 1)) * 4503599627370496 + T + 4503599627370496) (by omega)
    have q := dl_dbl (X := (1023 - (j + 1)) * 4503599627370496 + T) (by omega) (by omega)
    rw [e52_26]
    simp (disch := omega) only [e52_28, e52_29, e52_32, e52_33, e52_36, e52_37, e52_38, e52_41, true_or, m_psh_s, m_psh_n, m_kl_i, m_kl_f, m_kl_r, m_kl_n, m_kl_j, m_kl_l, m_kl_d, c_i, c_f, c_r, c_n, List.length_nil, List.length_cons, true_and, and_true, Nat.reduceAdd, Nat.reduceLeDiff, Nat.reduceSub, Nat.reduceEqDiff, Nat.reduceLT, ge_iff_le, gt_iff_lt, n_lit, m_in, m_nar0, m_nar1, and_self, not_false_eq_true, not_true_eq_false, ne_eq, reduceIte, ite_self, Nat.reduceMul, Nat.reduceDiv, Nat.reduceMod, Nat.reducePow, Nat.zero_add, Nat.add_zero, Nat.one_mul, Nat.mul_one, n_in, n_min, n_clamp, n_eq_t, n_eq_f, n_eq, n_le_t, n_le_f, n_le, n_lt_t, n_lt_f, n_lt, n_sub0, n_sublt, n_suble, n_negsub, m_up_hit, m_up_miss, m_row_hit, m_row_miss, n_eqm, n_meq, n_meqm, n_ltm, n_lem, n_mlt, n_mle, n_sub, n_div, n_and1, n_shl, n_shr, n_inc, n_mul, n_rem, z_lt, z_le, z_nlt, z_nle, Nat.not_lt_zero, Nat.le_zero_eq, Nat.zero_le, if_true, if_false, n_mlem_f, n_mm1, q, v]
    exact key
theorem s_scal {E T : Nat} (hT : T < 4503599627370496) (h1 : 1 ≤ E) (h2 : E ≤ 2046) : Ev lay d 52 0 [.double (dl (E * 4503599627370496 + T)), m_j, .int (eI E), m_j, m_j, m_j] [] I F R n Q ↔ Q (some (.double (dl (4607182418800017408 + T)))) I F R n := by
  unfold eI
  by_cases c : 1023 ≤ E
  · rw [if_pos c]
    have key := w_su (lay := lay) (d := d) (I := I) (F := F) (R := R) (n := n) (Q := Q) (w := dl (E * 4503599627370496 + T)) hT (m := E - 1023) (by omega) (E - 1023) 0 (by omega)
    rw [show 1023 + (E - 1023) = E by omega] at key
    simp (disch := omega) only [e52_0, e52_1, e52_2, e52_3, true_or, m_psh_s, m_psh_n, m_kl_i, m_kl_f, m_kl_r, m_kl_n, m_kl_j, m_kl_l, m_kl_d, c_i, c_f, c_r, c_n, List.length_nil, List.length_cons, true_and, and_true, Nat.reduceAdd, Nat.reduceLeDiff, Nat.reduceSub, Nat.reduceEqDiff, Nat.reduceLT, ge_iff_le, gt_iff_lt, n_lit, m_in, m_nar0, m_nar1, and_self, not_false_eq_true, not_true_eq_false, ne_eq, reduceIte, ite_self, Nat.reduceMul, Nat.reduceDiv, Nat.reduceMod, Nat.reducePow, Nat.zero_add, Nat.add_zero, Nat.one_mul, Nat.mul_one, n_in, n_min, n_clamp, n_eq_t, n_eq_f, n_eq, n_le_t, n_le_f, n_le, n_lt_t, n_lt_f, n_lt, n_sub0, n_sublt, n_suble, n_negsub, m_up_hit, m_up_miss, m_row_hit, m_row_miss, n_eqm, n_meq, n_meqm, n_ltm, n_lem, n_mlt, n_mle, n_sub, n_div, n_and1, n_shl, n_shr, n_inc, n_mul, n_rem, z_lt, z_le, z_nlt, z_nle, Nat.not_lt_zero, Nat.le_zero_eq, Nat.zero_le, if_true, if_false]
    exact key
  · rw [if_neg c]
    have key := w_sd (lay := lay) (d := d) (I := I) (F := F) (R := R) (n := n) (Q := Q) (w := dl (E * 4503599627370496 + T)) hT (m := 1023 - E) (by omega) (1023 - E) 0 (by omega)
    rw [show 1023 - (1023 - E) = E by omega, show -nI 0 = nI 0 by decide] at key
    simp (disch := omega) only [e52_0, e52_1, e52_2, e52_3, e52_5, e52_7, e52_8, e52_23, e52_24, true_or, m_psh_s, m_psh_n, m_kl_i, m_kl_f, m_kl_r, m_kl_n, m_kl_j, m_kl_l, m_kl_d, c_i, c_f, c_r, c_n, List.length_nil, List.length_cons, true_and, and_true, Nat.reduceAdd, Nat.reduceLeDiff, Nat.reduceSub, Nat.reduceEqDiff, Nat.reduceLT, ge_iff_le, gt_iff_lt, n_lit, m_in, m_nar0, m_nar1, and_self, not_false_eq_true, not_true_eq_false, ne_eq, reduceIte, ite_self, Nat.reduceMul, Nat.reduceDiv, Nat.reduceMod, Nat.reducePow, Nat.zero_add, Nat.add_zero, Nat.one_mul, Nat.mul_one, n_in, n_min, n_clamp, n_eq_t, n_eq_f, n_eq, n_le_t, n_le_f, n_le, n_lt_t, n_lt_f, n_lt, n_sub0, n_sublt, n_suble, n_negsub, m_up_hit, m_up_miss, m_row_hit, m_row_miss, n_eqm, n_meq, n_meqm, n_ltm, n_lem, n_mlt, n_mle, n_sub, n_div, n_and1, n_shl, n_shr, n_inc, n_mul, n_rem, z_lt, z_le, z_nlt, z_nle, Nat.not_lt_zero, Nat.le_zero_eq, Nat.zero_le, if_true, if_false]
    exact key
theorem d_scW {T : Nat} (hT : T < 4503599627370496) : fW FP.Core.b64 (4607182418800017408 + T) * 2 ^ 52 = (4503599627370496 + T) * 2 ^ 1074 := by
  have h := dl_at (E := 1023) (by decide) hT
  rw [show 1023 - 1 = 1022 from rfl] at h
  rw [show 4607182418800017408 = 1023 * 4503599627370496 from rfl, h, Nat.mul_assoc, ← Nat.pow_add]
theorem eI_add {E m : Nat} (h : 1023 ≤ E + m) (hE : E < 4096) (hm : m < 4096) : eI E + nI m = nI (E + m - 1023) := by
  unfold eI
  split
  · rw [nI_add, show E - 1023 + m = E + m - 1023 by omega]
  · rw [Int32.add_comm, ← Int32.sub_eq_add_neg, n_sub (by omega), show m - (1023 - E) = E + m - 1023 by omega]
theorem s_ofDouble' {x : UInt64} (hx : x.toNat = 0 ∨ (4503599627370496 ≤ x.toNat ∧ x.toNat < 9218868437227405312)) (hd : 1 ≤ d) : Ev lay d 62 0 [.double x, m_j, m_j, m_j, m_j] [] I F R n Q ↔ Q (some (.long (lN x.toNat))) I F R n := by
  have ex := dl_of x
  generalize x.toNat = X at hx ex
  subst ex
  rcases hx with rfl | ⟨h1, h2⟩
  · simp (disch := omega) only [e62_0, e62_1, e62_2, e62_3, e62_6, e62_7, true_or, m_psh_s, m_psh_n, m_kl_i, m_kl_f, m_kl_r, m_kl_n, m_kl_j, m_kl_l, m_kl_d, c_i, c_f, c_r, c_n, List.length_nil, List.length_cons, true_and, and_true, Nat.reduceAdd, Nat.reduceLeDiff, Nat.reduceSub, Nat.reduceEqDiff, Nat.reduceLT, ge_iff_le, gt_iff_lt, n_lit, m_in, m_nar0, m_nar1, and_self, not_false_eq_true, not_true_eq_false, ne_eq, reduceIte, ite_self, Nat.reduceMul, Nat.reduceDiv, Nat.reduceMod, Nat.reducePow, Nat.zero_add, Nat.add_zero, Nat.one_mul, Nat.mul_one, n_in, n_min, n_clamp, n_eq_t, n_eq_f, n_eq, n_le_t, n_le_f, n_le, n_lt_t, n_lt_f, n_lt, n_sub0, n_sublt, n_suble, n_negsub, m_up_hit, m_up_miss, m_row_hit, m_row_miss, n_eqm, n_meq, n_meqm, n_ltm, n_lem, n_mlt, n_mle, n_sub, n_div, n_and1, n_shl, n_shr, n_inc, n_mul, n_rem, z_lt, z_le, z_nlt, z_nle, Nat.not_lt_zero, Nat.le_zero_eq, Nat.zero_le, if_true, if_false, lx_lit, dl_c0, cv_gt_f]
  · obtain ⟨E, T, rfl, hT⟩ := ET X (m := 4503599627370496) (by decide)
    have k1 : ∀ (d) (Q : mP), _ := fun d Q => s_expo (lay := lay) (d := d) (I := I) (F := F) (R := R) (n := n) (Q := Q) (E := E) hT (by omega) (by omega)
    have k2 : ∀ (d) (Q : mP), _ := fun d Q => s_scal (lay := lay) (d := d) (I := I) (F := F) (R := R) (n := n) (Q := Q) (E := E) hT (by omega) (by omega)
    obtain ⟨W, w1, w2, w3, -⟩ := dl_scale (X := 4607182418800017408 + T) (by omega) (T := 4503599627370496 + T) (by omega) (d_scW hT)
    have v2 := dl_vf w1
    have w4 : FP.d2l (dl W) = lN (4503599627370496 + T) := w3
    have e1 := eI_add (E := E) (m := 1023) (by omega) (by omega) (by decide)
    rw [Nat.add_sub_cancel] at e1
    have e2 := l_of (a := E) (by omega)
    have e3 := l_shl (a := E) (k := 52) (by decide) (Nat.lt_of_le_of_lt (Nat.le_trans (Nat.le_add_right _ T) (Nat.le_of_lt h2)) (by decide))
    have e4 := l_sub (a := 4503599627370496 + T) (b := 4503599627370496) (by omega)
    rw [Nat.add_sub_cancel_left] at e4
    have e5 : lN (E * 2 ^ 52) + lN T = lN (E * 4503599627370496 + T) := l_add _ _
    simp (disch := omega) only [e62_0, e62_1, e62_2, e62_3, e62_8, e62_9, e62_12, e62_13, e62_14, e62_15, e62_18, e62_21, e62_22, e62_23, e62_24, e62_25, e62_28, e62_29, e62_30, e62_32, e62_33, e62_34, e62_37, e62_38, e62_39, true_or, m_psh_s, m_psh_n, m_kl_i, m_kl_f, m_kl_r, m_kl_n, m_kl_j, m_kl_l, m_kl_d, c_i, c_f, c_r, c_n, List.length_nil, List.length_cons, true_and, and_true, Nat.reduceAdd, Nat.reduceLeDiff, Nat.reduceSub, Nat.reduceEqDiff, Nat.reduceLT, ge_iff_le, gt_iff_lt, n_lit, m_in, m_nar0, m_nar1, and_self, not_false_eq_true, not_true_eq_false, ne_eq, reduceIte, ite_self, Nat.reduceMul, Nat.reduceDiv, Nat.reduceMod, Nat.reducePow, Nat.zero_add, Nat.add_zero, Nat.one_mul, Nat.mul_one, n_in, n_min, n_clamp, n_eq_t, n_eq_f, n_eq, n_le_t, n_le_f, n_le, n_lt_t, n_lt_f, n_lt, n_sub0, n_sublt, n_suble, n_negsub, m_up_hit, m_up_miss, m_row_hit, m_row_miss, n_eqm, n_meq, n_meqm, n_ltm, n_lem, n_mlt, n_mle, n_sub, n_div, n_and1, n_shl, n_shr, n_inc, n_mul, n_rem, z_lt, z_le, z_nlt, z_nle, Nat.not_lt_zero, Nat.le_zero_eq, Nat.zero_le, if_true, if_false, lx_lit, dl_c0, cv_gt_t, k1, k2, w2, w4, v2]
    rw [e1, e2]
    rw [e3, e4, e5]
end BITD
