section BITM
variable {lay : mL} {d n : Nat} {I : mI} {F : mF} {R : mR} {Q : mP} {w : UInt32}
-- the reference's, of a float
theorem y_fin {E T : Nat} (hT : T < 8388608) : Ev lay d 134 48 [.float w, .float (fl (1065353216 + T)), .int (nI E)] [] I F R n Q ↔ Q (some (.int (nI (E * 8388608 + T)))) I F R n := by
  obtain ⟨Z, z1, z2, z3⟩ := fl_less hT
  obtain ⟨W, w1, w2, w3, -⟩ := fl_scale z1 (T := T) (by omega) z3
  have v1 := fl_vf z1
  have v2 := fl_vf w1
  simp (disch := omega) only [e134_48, e134_49, e134_50, e134_51, e134_62, e134_63, e134_65, e134_66, e134_67, e134_68, e134_69, e134_71, e134_72, e134_73, e134_74, true_or, m_psh_s, m_psh_n, m_kl_i, m_kl_f, m_kl_r, m_kl_n, m_kl_j, m_kl_l, m_kl_d, c_i, c_f, c_r, c_n, List.length_nil, List.length_cons, true_and, and_true, Nat.reduceAdd, Nat.reduceLeDiff, Nat.reduceSub, Nat.reduceEqDiff, Nat.reduceLT, ge_iff_le, gt_iff_lt, n_lit, m_in, m_nar0, m_nar1, and_self, not_false_eq_true, not_true_eq_false, ne_eq, reduceIte, ite_self, Nat.reduceMul, Nat.reduceDiv, Nat.reduceMod, Nat.reducePow, Nat.zero_add, Nat.add_zero, Nat.one_mul, Nat.mul_one, n_in, n_min, n_clamp, n_eq_t, n_eq_f, n_eq, n_le_t, n_le_f, n_le, n_lt_t, n_lt_f, n_lt, n_sub0, n_sublt, n_suble, n_negsub, m_up_hit, m_up_miss, m_row_hit, m_row_miss, n_eqm, n_meq, n_meqm, n_ltm, n_lem, n_mlt, n_mle, n_sub, n_div, n_and1, n_shl, n_shr, n_inc, n_mul, n_rem, z_lt, z_le, z_nlt, z_nle, Nat.not_lt_zero, Nat.le_zero_eq, Nat.zero_le, if_true, if_false, fl_c1, cv_ge_t, z2, w2, w3, v1, v2]
theorem y_dn {T : Nat} (hT : T < 8388608) (j : Nat) : ∀ E P, E + j = 127 → 1 ≤ E → j + 1 ≤ P → P < 2147483648 → (Ev lay d 134 21 [.float w, .float (fl (E * 8388608 + T)), .int (nI P)] [] I F R n Q ↔ Q (some (.int (nI ((P - j) * 8388608 + T)))) I F R n) := by
  induction j with
  | zero =>
    intro E P hE h1 hP hP2
    have e : E * 8388608 + T = 1065353216 + T := by omega
    have key := y_fin (lay := lay) (d := d) (I := I) (F := F) (R := R) (n := n) (Q := Q) (w := w) (E := P) hT
    rw [e, Nat.sub_zero, e134_21]
    simp (disch := omega) only [e134_22, e134_23, e134_24, e134_27, e134_28, e134_29, e134_30, true_or, m_psh_s, m_psh_n, m_kl_i, m_kl_f, m_kl_r, m_kl_n, m_kl_j, m_kl_l, m_kl_d, c_i, c_f, c_r, c_n, List.length_nil, List.length_cons, true_and, and_true, Nat.reduceAdd, Nat.reduceLeDiff, Nat.reduceSub, Nat.reduceEqDiff, Nat.reduceLT, ge_iff_le, gt_iff_lt, n_lit, m_in, m_nar0, m_nar1, and_self, not_false_eq_true, not_true_eq_false, ne_eq, reduceIte, ite_self, Nat.reduceMul, Nat.reduceDiv, Nat.reduceMod, Nat.reducePow, Nat.zero_add, Nat.add_zero, Nat.one_mul, Nat.mul_one, n_in, n_min, n_clamp, n_eq_t, n_eq_f, n_eq, n_le_t, n_le_f, n_le, n_lt_t, n_lt_f, n_lt, n_sub0, n_sublt, n_suble, n_negsub, m_up_hit, m_up_miss, m_row_hit, m_row_miss, n_eqm, n_meq, n_meqm, n_ltm, n_lem, n_mlt, n_mle, n_sub, n_div, n_and1, n_shl, n_shr, n_inc, n_mul, n_rem, z_lt, z_le, z_nlt, z_nle, Nat.not_lt_zero, Nat.le_zero_eq, Nat.zero_le, if_true, if_false, fl_c1, fl_c0, cv_ge_t, cv_le_f]
    exact key
  | succ j ih =>
    intro E P hE h1 hP hP2
    have key := ih (E + 1) (P - 1) (by omega) (by omega) (by omega) (by omega)
    have e : (E + 1) * 8388608 + T = E * 8388608 + T + 8388608 := by omega
    rw [e, show P - 1 - j = P - (j + 1) by omega] at key
    have v := fl_vf (X := E * 8388608 + T + 8388608) (by omega)
    have q := fl_dbl (X := E * 8388608 + T) (by omega) (by omega)
    have em := n_m1 (P := P) (by omega)
    rw [e134_21]
    simp (disch := omega) only [e134_22, e134_23, e134_24, e134_27, e134_28, e134_29, e134_30, e134_33, e134_34, e134_35, e134_38, e134_39, e134_40, e134_41, e134_42, e134_45, true_or, m_psh_s, m_psh_n, m_kl_i, m_kl_f, m_kl_r, m_kl_n, m_kl_j, m_kl_l, m_kl_d, c_i, c_f, c_r, c_n, List.length_nil, List.length_cons, true_and, and_true, Nat.reduceAdd, Nat.reduceLeDiff, Nat.reduceSub, Nat.reduceEqDiff, Nat.reduceLT, ge_iff_le, gt_iff_lt, n_lit, m_in, m_nar0, m_nar1, and_self, not_false_eq_true, not_true_eq_false, ne_eq, reduceIte, ite_self, Nat.reduceMul, Nat.reduceDiv, Nat.reduceMod, Nat.reducePow, Nat.zero_add, Nat.add_zero, Nat.one_mul, Nat.mul_one, n_in, n_min, n_clamp, n_eq_t, n_eq_f, n_eq, n_le_t, n_le_f, n_le, n_lt_t, n_lt_f, n_lt, n_sub0, n_sublt, n_suble, n_negsub, m_up_hit, m_up_miss, m_row_hit, m_row_miss, n_eqm, n_meq, n_meqm, n_ltm, n_lem, n_mlt, n_mle, n_sub, n_div, n_and1, n_shl, n_shr, n_inc, n_mul, n_rem, z_lt, z_le, z_nlt, z_nle, Nat.not_lt_zero, Nat.le_zero_eq, Nat.zero_le, if_true, if_false, fl_c1, fl_c0, cv_ge_f, cv_le_f, q, v, em]
    exact key
theorem y_up {T : Nat} (hT : T < 8388608) (j : Nat) : ∀ E P, E = 127 + j → E ≤ 254 → 1 ≤ P → P + j < 2147483648 → (Ev lay d 134 5 [.float w, .float (fl (E * 8388608 + T)), .int (nI P)] [] I F R n Q ↔ Q (some (.int (nI ((P + j) * 8388608 + T)))) I F R n) := by
  induction j with
  | zero =>
    intro E P hE h1 hP hP2
    have key := y_dn (lay := lay) (d := d) (I := I) (F := F) (R := R) (n := n) (Q := Q) (w := w) hT 0 E P (by omega) (by omega) (by omega) (by omega)
    rw [e134_5]
    simp (disch := omega) only [e134_6, e134_7, e134_8, true_or, m_psh_s, m_psh_n, m_kl_i, m_kl_f, m_kl_r, m_kl_n, m_kl_j, m_kl_l, m_kl_d, c_i, c_f, c_r, c_n, List.length_nil, List.length_cons, true_and, and_true, Nat.reduceAdd, Nat.reduceLeDiff, Nat.reduceSub, Nat.reduceEqDiff, Nat.reduceLT, ge_iff_le, gt_iff_lt, n_lit, m_in, m_nar0, m_nar1, and_self, not_false_eq_true, not_true_eq_false, ne_eq, reduceIte, ite_self, Nat.reduceMul, Nat.reduceDiv, Nat.reduceMod, Nat.reducePow, Nat.zero_add, Nat.add_zero, Nat.one_mul, Nat.mul_one, n_in, n_min, n_clamp, n_eq_t, n_eq_f, n_eq, n_le_t, n_le_f, n_le, n_lt_t, n_lt_f, n_lt, n_sub0, n_sublt, n_suble, n_negsub, m_up_hit, m_up_miss, m_row_hit, m_row_miss, n_eqm, n_meq, n_meqm, n_ltm, n_lem, n_mlt, n_mle, n_sub, n_div, n_and1, n_shl, n_shr, n_inc, n_mul, n_rem, z_lt, z_le, z_nlt, z_nle, Nat.not_lt_zero, Nat.le_zero_eq, Nat.zero_le, if_true, if_false, fl_c2, cv_lt_t]
    exact key
  | succ j ih =>
    intro E P hE h1 hP hP2
    have key := ih (E - 1) (P + 1) (by omega) (by omega) (by omega) (by omega)
    have e : (E - 1) * 8388608 + T = E * 8388608 + T - 8388608 := by omega
    rw [e, show P + 1 + j = P + (j + 1) by omega] at key
    have v := fl_vf (X := E * 8388608 + T - 8388608) (by omega)
    have q := fl_half (X := E * 8388608 + T) (by omega) (by omega)
    rw [e134_5]
    simp (disch := omega) only [e134_6, e134_7, e134_8, e134_11, e134_12, e134_13, e134_14, e134_15, e134_18, true_or, m_psh_s, m_psh_n, m_kl_i, m_kl_f, m_kl_r, m_kl_n, m_kl_j, m_kl_l, m_kl_d, c_i, c_f, c_r, c_n, List.length_nil, List.length_cons, true_and, and_true, Nat.reduceAdd, Nat.reduceLeDiff, Nat.reduceSub, Nat.reduceEqDiff, Nat.reduceLT, ge_iff_le, gt_iff_lt, n_lit, m_in, m_nar0, m_nar1, and_self, not_false_eq_true, not_true_eq_false, ne_eq, reduceIte, ite_self, Nat.reduceMul, Nat.reduceDiv, Nat.reduceMod, Nat.reducePow, Nat.zero_add, Nat.add_zero, Nat.one_mul, Nat.mul_one, n_in, n_min, n_clamp, n_eq_t, n_eq_f, n_eq, n_le_t, n_le_f, n_le, n_lt_t, n_lt_f, n_lt, n_sub0, n_sublt, n_suble, n_negsub, m_up_hit, m_up_miss, m_row_hit, m_row_miss, n_eqm, n_meq, n_meqm, n_ltm, n_lem, n_mlt, n_mle, n_sub, n_div, n_and1, n_shl, n_shr, n_inc, n_mul, n_rem, z_lt, z_le, z_nlt, z_nle, Nat.not_lt_zero, Nat.le_zero_eq, Nat.zero_le, if_true, if_false, fl_c2, cv_lt_f, q, v]
    exact key
theorem y_sb {x : Nat} (hx : 0 < x) (hx2 : x < 8388608) (j : Nat) : ∀ X i P, P = j + 1 → i + P = 127 → X < 2139095040 → fW FP.Core.b32 X = x * 2 ^ i → (Ev lay d 134 21 [.float w, .float (fl X), .int (nI P)] [] I F R n Q ↔ Q (some (.int (nI x))) I F R n) := by
  have lo : ∀ X i, fW FP.Core.b32 X = x * 2 ^ i → 0 < X := fun X i e => by
    apply (fW_iff (f := FP.Core.b32)).mp
    rw [e]
    exact Nat.mul_pos hx (Nat.two_pow_pos i)
  have up : ∀ X i, i ≤ 126 → fW FP.Core.b32 X = x * 2 ^ i → X < 1065353216 := fun X i hi e => by
    apply (fW_iff (f := FP.Core.b32)).mp
    rw [e, fl_W1]
    calc x * 2 ^ i ≤ x * 2 ^ 126 := Nat.mul_le_mul_left _ (Nat.pow_le_pow_right (by decide) hi)
      _ < 8388608 * 2 ^ 126 := Nat.mul_lt_mul_of_pos_right hx2 (Nat.two_pow_pos _)
      _ = 2 ^ 149 := by decide +kernel
  induction j with
  | zero =>
    intro X i P hP hi hX e
    have h1 := lo X i e
    have h2 := up X i (by omega) e
    obtain ⟨W, w1, w2, w3, -⟩ := fl_scale hX (T := x) (by omega) (by rw [e, Nat.mul_assoc, ← Nat.pow_add, show i + 23 = 149 by omega])
    have v2 := fl_vf w1
    subst hP
    rw [e134_21]
    simp (disch := omega) only [e134_22, e134_23, e134_24, e134_27, e134_28, e134_29, e134_30, e134_33, e134_34, e134_35, e134_48, e134_49, e134_50, e134_51, e134_54, e134_55, e134_57, e134_58, e134_59, e134_74, true_or, m_psh_s, m_psh_n, m_kl_i, m_kl_f, m_kl_r, m_kl_n, m_kl_j, m_kl_l, m_kl_d, c_i, c_f, c_r, c_n, List.length_nil, List.length_cons, true_and, and_true, Nat.reduceAdd, Nat.reduceLeDiff, Nat.reduceSub, Nat.reduceEqDiff, Nat.reduceLT, ge_iff_le, gt_iff_lt, n_lit, m_in, m_nar0, m_nar1, and_self, not_false_eq_true, not_true_eq_false, ne_eq, reduceIte, ite_self, Nat.reduceMul, Nat.reduceDiv, Nat.reduceMod, Nat.reducePow, Nat.zero_add, Nat.add_zero, Nat.one_mul, Nat.mul_one, n_in, n_min, n_clamp, n_eq_t, n_eq_f, n_eq, n_le_t, n_le_f, n_le, n_lt_t, n_lt_f, n_lt, n_sub0, n_sublt, n_suble, n_negsub, m_up_hit, m_up_miss, m_row_hit, m_row_miss, n_eqm, n_meq, n_meqm, n_ltm, n_lem, n_mlt, n_mle, n_sub, n_div, n_and1, n_shl, n_shr, n_inc, n_mul, n_rem, z_lt, z_le, z_nlt, z_nle, Nat.not_lt_zero, Nat.le_zero_eq, Nat.zero_le, if_true, if_false, fl_c1, fl_c0, cv_ge_f, cv_le_f, w2, w3, v2]
  | succ j ih =>
    intro X i P hP hi hX e
    have h1 := lo X i e
    have h2 := up X i (by omega) e
    obtain ⟨Y, y1, y2, y3⟩ := fl_dbld (X := X) (by omega)
    have key := ih Y (i + 1) (P - 1) (by omega) (by omega) y1 (by rw [y3, e, Nat.pow_succ, Nat.mul_comm 2, Nat.mul_assoc])
    have v := fl_vf y1
    have em := n_m1 (P := P) (by omega)
    rw [e134_21]
    simp (disch := omega) only [e134_22, e134_23, e134_24, e134_27, e134_28, e134_29, e134_30, e134_33, e134_34, e134_35, e134_38, e134_39, e134_40, e134_41, e134_42, e134_45, true_or, m_psh_s, m_psh_n, m_kl_i, m_kl_f, m_kl_r, m_kl_n, m_kl_j, m_kl_l, m_kl_d, c_i, c_f, c_r, c_n, List.length_nil, List.length_cons, true_and, and_true, Nat.reduceAdd, Nat.reduceLeDiff, Nat.reduceSub, Nat.reduceEqDiff, Nat.reduceLT, ge_iff_le, gt_iff_lt, n_lit, m_in, m_nar0, m_nar1, and_self, not_false_eq_true, not_true_eq_false, ne_eq, reduceIte, ite_self, Nat.reduceMul, Nat.reduceDiv, Nat.reduceMod, Nat.reducePow, Nat.zero_add, Nat.add_zero, Nat.one_mul, Nat.mul_one, n_in, n_min, n_clamp, n_eq_t, n_eq_f, n_eq, n_le_t, n_le_f, n_le, n_lt_t, n_lt_f, n_lt, n_sub0, n_sublt, n_suble, n_negsub, m_up_hit, m_up_miss, m_row_hit, m_row_miss, n_eqm, n_meq, n_meqm, n_ltm, n_lem, n_mlt, n_mle, n_sub, n_div, n_and1, n_shl, n_shr, n_inc, n_mul, n_rem, z_lt, z_le, z_nlt, z_nle, Nat.not_lt_zero, Nat.le_zero_eq, Nat.zero_le, if_true, if_false, fl_c1, fl_c0, cv_ge_f, cv_le_f, y2, v, em]
    exact key
theorem ET {m : Nat} (X : Nat) (hm : 0 < m) : ∃ E T, X = E * m + T ∧ T < m := ⟨X / m, X % m, (Nat.div_add_mod' X m).symm, Nat.mod_lt _ hm⟩
theorem s_bitsOf' {x : UInt32} (hx : x.toNat < 2139095040) : Ev lay d 134 0 [.float x, m_j, m_j] [] I F R n Q ↔ Q (some (.int (nI x.toNat))) I F R n := by
  have ex := fl_of x
  generalize x.toNat = X at hx ex
  subst ex
  simp (disch := omega) only [e134_0, e134_1, e134_2, e134_4, true_or, m_psh_s, m_psh_n, m_kl_i, m_kl_f, m_kl_r, m_kl_n, m_kl_j, m_kl_l, m_kl_d, c_i, c_f, c_r, c_n, List.length_nil, List.length_cons, true_and, and_true, Nat.reduceAdd, Nat.reduceLeDiff, Nat.reduceSub, Nat.reduceEqDiff, Nat.reduceLT, ge_iff_le, gt_iff_lt, n_lit, m_in, m_nar0, m_nar1, and_self, not_false_eq_true, not_true_eq_false, ne_eq, reduceIte, ite_self, Nat.reduceMul, Nat.reduceDiv, Nat.reduceMod, Nat.reducePow, Nat.zero_add, Nat.add_zero, Nat.one_mul, Nat.mul_one, n_in, n_min, n_clamp, n_eq_t, n_eq_f, n_eq, n_le_t, n_le_f, n_le, n_lt_t, n_lt_f, n_lt, n_sub0, n_sublt, n_suble, n_negsub, m_up_hit, m_up_miss, m_row_hit, m_row_miss, n_eqm, n_meq, n_meqm, n_ltm, n_lem, n_mlt, n_mle, n_sub, n_div, n_and1, n_shl, n_shr, n_inc, n_mul, n_rem, z_lt, z_le, z_nlt, z_nle, Nat.not_lt_zero, Nat.le_zero_eq, Nat.zero_le, if_true, if_false]
  by_cases c : 8388608 ≤ X
  · obtain ⟨E, T, rfl, hT⟩ := ET X (m := 8388608) (by decide)
    by_cases c2 : 127 ≤ E
    · rw [y_up hT (E - 127) E 127 (by omega) (by omega) (by omega) (by omega), show 127 + (E - 127) = E by omega]
    · rw [e134_5]
      simp (disch := omega) only [e134_6, e134_7, e134_8, true_or, m_psh_s, m_psh_n, m_kl_i, m_kl_f, m_kl_r, m_kl_n, m_kl_j, m_kl_l, m_kl_d, c_i, c_f, c_r, c_n, List.length_nil, List.length_cons, true_and, and_true, Nat.reduceAdd, Nat.reduceLeDiff, Nat.reduceSub, Nat.reduceEqDiff, Nat.reduceLT, ge_iff_le, gt_iff_lt, n_lit, m_in, m_nar0, m_nar1, and_self, not_false_eq_true, not_true_eq_false, ne_eq, reduceIte, ite_self, Nat.reduceMul, Nat.reduceDiv, Nat.reduceMod, Nat.reducePow, Nat.zero_add, Nat.add_zero, Nat.one_mul, Nat.mul_one, n_in, n_min, n_clamp, n_eq_t, n_eq_f, n_eq, n_le_t, n_le_f, n_le, n_lt_t, n_lt_f, n_lt, n_sub0, n_sublt, n_suble, n_negsub, m_up_hit, m_up_miss, m_row_hit, m_row_miss, n_eqm, n_meq, n_meqm, n_ltm, n_lem, n_mlt, n_mle, n_sub, n_div, n_and1, n_shl, n_shr, n_inc, n_mul, n_rem, z_lt, z_le, z_nlt, z_nle, Nat.not_lt_zero, Nat.le_zero_eq, Nat.zero_le, if_true, if_false, fl_c2, cv_lt_t]
      rw [y_dn hT (127 - E) E 127 (by omega) (by omega) (by omega) (by omega), show 127 - (127 - E) = E by omega]
  · rw [e134_5]
    simp (disch := omega) only [e134_6, e134_7, e134_8, true_or, m_psh_s, m_psh_n, m_kl_i, m_kl_f, m_kl_r, m_kl_n, m_kl_j, m_kl_l, m_kl_d, c_i, c_f, c_r, c_n, List.length_nil, List.length_cons, true_and, and_true, Nat.reduceAdd, Nat.reduceLeDiff, Nat.reduceSub, Nat.reduceEqDiff, Nat.reduceLT, ge_iff_le, gt_iff_lt, n_lit, m_in, m_nar0, m_nar1, and_self, not_false_eq_true, not_true_eq_false, ne_eq, reduceIte, ite_self, Nat.reduceMul, Nat.reduceDiv, Nat.reduceMod, Nat.reducePow, Nat.zero_add, Nat.add_zero, Nat.one_mul, Nat.mul_one, n_in, n_min, n_clamp, n_eq_t, n_eq_f, n_eq, n_le_t, n_le_f, n_le, n_lt_t, n_lt_f, n_lt, n_sub0, n_sublt, n_suble, n_negsub, m_up_hit, m_up_miss, m_row_hit, m_row_miss, n_eqm, n_meq, n_meqm, n_ltm, n_lem, n_mlt, n_mle, n_sub, n_div, n_and1, n_shl, n_shr, n_inc, n_mul, n_rem, z_lt, z_le, z_nlt, z_nle, Nat.not_lt_zero, Nat.le_zero_eq, Nat.zero_le, if_true, if_false, fl_c2, cv_lt_t]
    have e0 : fW FP.Core.b32 X = X := fW_sub (by rw [fl_tl]; omega)
    by_cases c0 : 0 < X
    · exact y_sb c0 (by omega) 126 X 0 127 rfl rfl hx (by rw [e0, Nat.pow_zero, Nat.mul_one])
    · have : X = 0 := by omega
      subst this
      obtain ⟨W, w1, w2, w3, -⟩ := fl_scale hx (T := 0) (by decide) (by rw [e0])
      have v2 := fl_vf w1
      simp (disch := omega) only [e134_21, e134_22, e134_23, e134_24, e134_48, e134_49, e134_50, e134_51, e134_54, e134_55, e134_57, e134_58, e134_59, e134_74, true_or, m_psh_s, m_psh_n, m_kl_i, m_kl_f, m_kl_r, m_kl_n, m_kl_j, m_kl_l, m_kl_d, c_i, c_f, c_r, c_n, List.length_nil, List.length_cons, true_and, and_true, Nat.reduceAdd, Nat.reduceLeDiff, Nat.reduceSub, Nat.reduceEqDiff, Nat.reduceLT, ge_iff_le, gt_iff_lt, n_lit, m_in, m_nar0, m_nar1, and_self, not_false_eq_true, not_true_eq_false, ne_eq, reduceIte, ite_self, Nat.reduceMul, Nat.reduceDiv, Nat.reduceMod, Nat.reducePow, Nat.zero_add, Nat.add_zero, Nat.one_mul, Nat.mul_one, n_in, n_min, n_clamp, n_eq_t, n_eq_f, n_eq, n_le_t, n_le_f, n_le, n_lt_t, n_lt_f, n_lt, n_sub0, n_sublt, n_suble, n_negsub, m_up_hit, m_up_miss, m_row_hit, m_row_miss, n_eqm, n_meq, n_meqm, n_ltm, n_lem, n_mlt, n_mle, n_sub, n_div, n_and1, n_shl, n_shr, n_inc, n_mul, n_rem, z_lt, z_le, z_nlt, z_nle, Nat.not_lt_zero, Nat.le_zero_eq, Nat.zero_le, if_true, if_false, fl_c1, fl_c0, cv_ge_f, cv_le_t, w2, w3, v2]
end BITM
