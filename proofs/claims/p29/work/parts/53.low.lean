-- low and cell
section LOW
variable {lay : mL} {d n k L e : Nat} {I : mI} {F : mF} {R : mR} {Q : mP}
def q_m31 (v : Int32) : Nat := (v &&& nI 2147483647).toBitVec.toNat
theorem q_m31_eq (v : Int32) : v &&& nI 2147483647 = nI (q_m31 v) := by
  apply Int32.toBitVec_inj.1
  show _ = BitVec.ofNat 32 _
  simp [q_m31]
theorem q_m31_lt (v : Int32) : q_m31 v < 2147483648 := by
  unfold q_m31
  rw [Int32.toBitVec_and, BitVec.toNat_and]
  exact Nat.lt_of_le_of_lt Nat.and_le_right (by decide)
def q_low (v : Int32) (n : Nat) : Nat := q_m31 v % n
theorem q_low_lt {v : Int32} {n : Nat} (h : 1 ≤ n) : q_low v n < n := Nat.mod_lt _ h
theorem l_low {v : Int32} (h1 : 1 ≤ k) (h2 : k < 2147483648) : Ev lay d 102 0 [.int v, .int (nI k)] [] I F R n Q ↔ Q (some (.int (nI (q_low v k)))) I F R n := by
  have h3 := q_m31_lt v
  simp (disch := omega) only [e102_0, e102_1, e102_3, e102_4, e102_5, e102_6, true_or, m_psh_s, m_psh_n, m_kl_i, m_kl_f, m_kl_r, m_kl_n, m_kl_j, m_kl_l, m_kl_d, c_i, c_f, c_r, c_n, List.length_nil, List.length_cons, true_and, and_true, Nat.reduceAdd, Nat.reduceLeDiff, Nat.reduceSub, Nat.reduceEqDiff, Nat.reduceLT, ge_iff_le, gt_iff_lt, n_lit, m_in, m_nar0, m_nar1, and_self, not_false_eq_true, not_true_eq_false, ne_eq, reduceIte, ite_self, Nat.reduceMul, Nat.reduceDiv, Nat.reduceMod, Nat.reducePow, Nat.zero_add, Nat.add_zero, Nat.one_mul, Nat.mul_one, n_in, n_min, n_clamp, n_eq_t, n_eq_f, n_eq, n_le_t, n_le_f, n_le, n_lt_t, n_lt_f, n_lt, n_sub0, n_sublt, n_suble, n_negsub, m_up_hit, m_up_miss, m_row_hit, m_row_miss, n_eqm, n_meq, n_meqm, n_ltm, n_lem, n_mlt, n_mle, n_sub, n_div, n_and1, n_shl, n_shr, n_inc, n_mul, n_rem, z_lt, z_le, z_nlt, z_nle, Nat.not_lt_zero, Nat.le_zero_eq, Nat.zero_le, if_true, if_false, q_m31_eq]
  rw [n_sub (Nat.div_mul_le_self _ _), n_rem]
  rfl
theorem l_cell (hL : lay 0 = (0, L)) (hL2 : L ≤ 260) (he : e < 44) (hQ : ∀ w, Q (some (.int w)) I F R n) : Ev lay d 100 0 [.ref 0, .int (nI e)] [] I F R n Q := by
  have eL : Int32.ofNat L = nI L := rfl
  have e0 : (lay 0).1 = 0 := by rw [hL]
  have e1 : (lay 0).2 = L := by rw [hL]
  by_cases c : e < L
  · simp (disch := omega) only [e100_0, e100_1, e100_1N, e100_2, e100_3, e100_6, e100_6N, e100_7, e100_8, e100_9, e100_12, e100_15, e100_16, e100_18, e100_19, e100_20, e100_21, e100_24, e100_25, e100_26, true_or, m_psh_s, m_psh_n, m_kl_i, m_kl_f, m_kl_r, m_kl_n, m_kl_j, m_kl_l, m_kl_d, c_i, c_f, c_r, c_n, List.length_nil, List.length_cons, true_and, and_true, Nat.reduceAdd, Nat.reduceLeDiff, Nat.reduceSub, Nat.reduceEqDiff, Nat.reduceLT, ge_iff_le, gt_iff_lt, n_lit, m_in, m_nar0, m_nar1, and_self, not_false_eq_true, not_true_eq_false, ne_eq, reduceIte, ite_self, Nat.reduceMul, Nat.reduceDiv, Nat.reduceMod, Nat.reducePow, Nat.zero_add, Nat.add_zero, Nat.one_mul, Nat.mul_one, n_in, n_min, n_clamp, n_eq_t, n_eq_f, n_eq, n_le_t, n_le_f, n_le, n_lt_t, n_lt_f, n_lt, n_sub0, n_sublt, n_suble, n_negsub, m_up_hit, m_up_miss, m_row_hit, m_row_miss, n_eqm, n_meq, n_meqm, n_ltm, n_lem, n_mlt, n_mle, n_sub, n_div, n_and1, n_shl, n_shr, n_inc, n_mul, n_rem, z_lt, z_le, z_nlt, z_nle, Nat.not_lt_zero, Nat.le_zero_eq, Nat.zero_le, if_true, if_false, hL, e0, e1, eL]
    exact hQ _
  · simp (disch := omega) only [e100_0, e100_1, e100_1N, e100_2, e100_3, e100_6, e100_6N, e100_7, e100_8, e100_9, e100_12, e100_15, e100_16, e100_18, e100_19, e100_20, e100_21, e100_24, e100_25, e100_26, true_or, m_psh_s, m_psh_n, m_kl_i, m_kl_f, m_kl_r, m_kl_n, m_kl_j, m_kl_l, m_kl_d, c_i, c_f, c_r, c_n, List.length_nil, List.length_cons, true_and, and_true, Nat.reduceAdd, Nat.reduceLeDiff, Nat.reduceSub, Nat.reduceEqDiff, Nat.reduceLT, ge_iff_le, gt_iff_lt, n_lit, m_in, m_nar0, m_nar1, and_self, not_false_eq_true, not_true_eq_false, ne_eq, reduceIte, ite_self, Nat.reduceMul, Nat.reduceDiv, Nat.reduceMod, Nat.reducePow, Nat.zero_add, Nat.add_zero, Nat.one_mul, Nat.mul_one, n_in, n_min, n_clamp, n_eq_t, n_eq_f, n_eq, n_le_t, n_le_f, n_le, n_lt_t, n_lt_f, n_lt, n_sub0, n_sublt, n_suble, n_negsub, m_up_hit, m_up_miss, m_row_hit, m_row_miss, n_eqm, n_meq, n_meqm, n_ltm, n_lem, n_mlt, n_mle, n_sub, n_div, n_and1, n_shl, n_shr, n_inc, n_mul, n_rem, z_lt, z_le, z_nlt, z_nle, Nat.not_lt_zero, Nat.le_zero_eq, Nat.zero_le, if_true, if_false, hL, e0, e1, eL]
    exact hQ _
end LOW
