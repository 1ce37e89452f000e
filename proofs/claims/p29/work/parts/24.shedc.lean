section SHEDC
variable {lay : mL} {d a n : Nat} {I : mI} {F : mF} {R : mR} {Q : mP} {S : Nat → Nat} {sp : Nat → UInt32} {hi : List Nat}
theorem CSh_0 {k i : Nat} (h : CSh lay I F R n a S sp hi) (hx : cS 0 k i) : I a k = nI (S i) := h.2.1 0 k i hx
theorem c_desk {s : Nat} (h : CSh lay I F R n a S sp hi) (hs : s < 30) : Ev lay d 35 0 [.ref a, .int (nI s)] [] I F R n Q ↔ Q (some (.int (nI (q_dsk (S 2) s)))) I F R n := s_deskSteps h.1 hs (h.2.1 _ _ _ (cS_1 (by omega)))
theorem c_steps {s o : Nat} (h : CSh lay I F R n a S sp hi) (hs : s < 30) (ho : o < 30) : Ev lay d 33 0 [.ref a, .int (nI s), .int (nI o), m_j] [] I F R n Q ↔ Q (some (.int (nI (q_stp (S 2) s o)))) I F R n := s_stepsBetween h.1 hs ho (h.2.1 _ _ _ (cS_1 (by omega)))
-- the weight
def q_wsum (S : Nat → Nat) (sp : Nat → UInt32) : Nat → UInt32
  | 0 => 0
  | k + 1 => FP.fadd (q_wsum S sp k) (FP.fmul (sp k) (FP.i2f (nI (q_dsk (S 2) (S (4 + 4 * k))))))
def q_wok (S : Nat → Nat) (sp : Nat → UInt32) : Prop := ∀ k, k < S 3 → vf_n32 (FP.fmul (sp k) (FP.i2f (nI (q_dsk (S 2) (S (4 + 4 * k)))))) ∧ vf_n32 (q_wsum S sp (k + 1))
theorem s_weight0 (h : CSh lay I F R n a S sp hi) (w : Wsh S) (wo : q_wok S sp) (hd : 1 ≤ d) (j k : Nat) (hk : k + j = S 3) : Ev lay d 45 4 [.ref a, .float (q_wsum S sp k), .int (nI k)] [] I F R n Q ↔ Q (some (.float (q_wsum S sp (S 3)))) I F R n := by
  have h3 := CSh_0 h cS_0_11
  have w1 := w.1
  induction j generalizing k with
  | zero =>
    have hk2 : k = S 3 := by omega
    obtain ⟨hs0, hs1, hs2, hs3, hs4, hs5, hs6, hs7, hs8, hs9, hs10, hs11, hs12, hs13, hs14, hs15, hs16, hs17, hs18, hs19, hs20, hs21, hs22, hs23, hs24, hs25, hs26⟩ := h.1
    subst hk2
    simp (disch := omega) only [e45_0, e45_1, e45_2, e45_3, e45_4, e45_5, e45_5N, e45_6, e45_9, e45_12, e45_13, e45_13N, e45_14, e45_17, e45_18, e45_19, e45_19N, e45_20, e45_20N, e45_21, e45_24, e45_25, e45_26, e45_29, e45_30, e45_31, e45_32, e45_33, e45_36, e45_39, e45_40, true_or, m_psh_s, m_psh_n, m_kl_i, m_kl_f, m_kl_r, m_kl_n, m_kl_j, m_kl_l, m_kl_d, c_i, c_f, c_r, c_n, List.length_nil, List.length_cons, true_and, and_true, Nat.reduceAdd, Nat.reduceLeDiff, Nat.reduceSub, Nat.reduceEqDiff, Nat.reduceLT, ge_iff_le, gt_iff_lt, n_lit, m_in, m_nar0, m_nar1, and_self, not_false_eq_true, not_true_eq_false, ne_eq, reduceIte, ite_self, Nat.reduceMul, Nat.reduceDiv, Nat.reduceMod, Nat.reducePow, Nat.zero_add, Nat.add_zero, Nat.one_mul, Nat.mul_one, n_in, n_min, n_clamp, n_eq_t, n_eq_f, n_eq, n_le_t, n_le_f, n_le, n_lt_t, n_lt_f, n_lt, n_sub0, n_sublt, n_suble, n_negsub, m_up_hit, m_up_miss, m_row_hit, m_row_miss, n_eqm, n_meq, n_meqm, n_ltm, n_lem, n_mlt, n_mle, n_sub, n_div, n_and1, n_shl, n_shr, n_inc, n_mul, n_rem, z_lt, z_le, z_nlt, z_nle, Nat.not_lt_zero, Nat.le_zero_eq, Nat.zero_le, if_true, if_false, hs0, hs1, hs2, hs3, hs4, hs5, hs6, hs7, hs8, hs9, hs10, hs11, hs12, hs13, hs14, hs15, hs16, hs17, hs18, hs19, hs20, hs21, hs22, hs23, hs24, hs25, hs26, h3]
  | succ j ih =>
    have hp := h.2.1 2 k _ (cS_2 (by omega))
    have hF := h.2.2.2.1 k (by omega)
    have hs := w.2.1 k (by omega)
    obtain ⟨u1, u2⟩ := wo k (by omega)
    have u2' : vf_n32 (FP.fadd (q_wsum S sp k) (FP.fmul (sp k) (FP.i2f (nI (q_dsk (S 2) (S (4 + 4 * k))))))) := u2
    have key := ih (k + 1) (by omega)
    obtain ⟨hs0, hs1, hs2, hs3, hs4, hs5, hs6, hs7, hs8, hs9, hs10, hs11, hs12, hs13, hs14, hs15, hs16, hs17, hs18, hs19, hs20, hs21, hs22, hs23, hs24, hs25, hs26⟩ := h.1
    rw [e45_4]
    simp (disch := omega) only [e45_5, e45_5N, e45_6, e45_9, e45_12, e45_13, e45_13N, e45_14, e45_17, e45_18, e45_19, e45_19N, e45_20, e45_20N, e45_21, e45_24, e45_25, e45_26, e45_29, e45_30, e45_31, e45_32, e45_33, e45_36, e45_39, e45_40, true_or, m_psh_s, m_psh_n, m_kl_i, m_kl_f, m_kl_r, m_kl_n, m_kl_j, m_kl_l, m_kl_d, c_i, c_f, c_r, c_n, List.length_nil, List.length_cons, true_and, and_true, Nat.reduceAdd, Nat.reduceLeDiff, Nat.reduceSub, Nat.reduceEqDiff, Nat.reduceLT, ge_iff_le, gt_iff_lt, n_lit, m_in, m_nar0, m_nar1, and_self, not_false_eq_true, not_true_eq_false, ne_eq, reduceIte, ite_self, Nat.reduceMul, Nat.reduceDiv, Nat.reduceMod, Nat.reducePow, Nat.zero_add, Nat.add_zero, Nat.one_mul, Nat.mul_one, n_in, n_min, n_clamp, n_eq_t, n_eq_f, n_eq, n_le_t, n_le_f, n_le, n_lt_t, n_lt_f, n_lt, n_sub0, n_sublt, n_suble, n_negsub, m_up_hit, m_up_miss, m_row_hit, m_row_miss, n_eqm, n_meq, n_meqm, n_ltm, n_lem, n_mlt, n_mle, n_sub, n_div, n_and1, n_shl, n_shr, n_inc, n_mul, n_rem, z_lt, z_le, z_nlt, z_nle, Nat.not_lt_zero, Nat.le_zero_eq, Nat.zero_le, if_true, if_false, hs0, hs1, hs2, hs3, hs4, hs5, hs6, hs7, hs8, hs9, hs10, hs11, hs12, hs13, hs14, hs15, hs16, hs17, hs18, hs19, hs20, hs21, hs22, hs23, hs24, hs25, hs26, h3, hp, hF, c_desk h hs, u1, u2']
    exact key
theorem s_weight (h : CSh lay I F R n a S sp hi) (w : Wsh S) (wo : q_wok S sp) (hd : 1 ≤ d) : Ev lay d 45 0 [.ref a, m_j, m_j] [] I F R n Q ↔ Q (some (.float (q_wsum S sp (S 3)))) I F R n := by
  have key := s_weight0 (Q := Q) h w wo hd (S 3) 0 (Nat.zero_add _)
  simp (disch := omega) only [e45_0, e45_1, e45_2, e45_3, true_or, m_psh_s, m_psh_n, m_kl_i, m_kl_f, m_kl_r, m_kl_n, m_kl_j, m_kl_l, m_kl_d, c_i, c_f, c_r, c_n, List.length_nil, List.length_cons, true_and, and_true, Nat.reduceAdd, Nat.reduceLeDiff, Nat.reduceSub, Nat.reduceEqDiff, Nat.reduceLT, ge_iff_le, gt_iff_lt, n_lit, m_in, m_nar0, m_nar1, and_self, not_false_eq_true, not_true_eq_false, ne_eq, reduceIte, ite_self, Nat.reduceMul, Nat.reduceDiv, Nat.reduceMod, Nat.reducePow, Nat.zero_add, Nat.add_zero, Nat.one_mul, Nat.mul_one, n_in, n_min, n_clamp, n_eq_t, n_eq_f, n_eq, n_le_t, n_le_f, n_le, n_lt_t, n_lt_f, n_lt, n_sub0, n_sublt, n_suble, n_negsub, m_up_hit, m_up_miss, m_row_hit, m_row_miss, n_eqm, n_meq, n_meqm, n_ltm, n_lem, n_mlt, n_mle, n_sub, n_div, n_and1, n_shl, n_shr, n_inc, n_mul, n_rem, z_lt, z_le, z_nlt, z_nle, Nat.not_lt_zero, Nat.le_zero_eq, Nat.zero_le, if_true, if_false]
  exact key
-- the walks of a day together
def q_tog (S : Nat → Nat) (o : Nat) : Nat → Nat
  | 0 => 0
  | k + 1 => q_tog S o k + S (o + 2 * k)
theorem s_tog0 {p o m : Nat} (hp : lay p = (5, 0)) (p2 : lay (p + 2) = (0, 12)) (r2 : m_rv (R p 1) = .ref (p + 2)) (hm : I p 2 = nI m) (hm12 : m ≤ 12) (hl : ∀ k, k < 12 → I (p + 2) k = nI (S (o + 2 * k))) (j k : Nat) (hk : k + j = m) : Ev lay d 58 4 [.ref p, .int (nI (q_tog S o k)), .int (nI k)] [] I F R n Q ↔ Q (some (.int (nI (q_tog S o m)))) I F R n := by
  induction j generalizing k with
  | zero =>
    have hk2 : k = m := by omega
    rw [← hk2, e58_4]
    rw [← hk2] at hm
    simp (disch := omega) only [e58_5, e58_5N, e58_6, e58_9, e58_12, e58_13, e58_13N, e58_14, e58_17, e58_18, e58_19, e58_20, e58_21, e58_24, e58_27, e58_28, true_or, m_psh_s, m_psh_n, m_kl_i, m_kl_f, m_kl_r, m_kl_n, m_kl_j, m_kl_l, m_kl_d, c_i, c_f, c_r, c_n, List.length_nil, List.length_cons, true_and, and_true, Nat.reduceAdd, Nat.reduceLeDiff, Nat.reduceSub, Nat.reduceEqDiff, Nat.reduceLT, ge_iff_le, gt_iff_lt, n_lit, m_in, m_nar0, m_nar1, and_self, not_false_eq_true, not_true_eq_false, ne_eq, reduceIte, ite_self, Nat.reduceMul, Nat.reduceDiv, Nat.reduceMod, Nat.reducePow, Nat.zero_add, Nat.add_zero, Nat.one_mul, Nat.mul_one, n_in, n_min, n_clamp, n_eq_t, n_eq_f, n_eq, n_le_t, n_le_f, n_le, n_lt_t, n_lt_f, n_lt, n_sub0, n_sublt, n_suble, n_negsub, m_up_hit, m_up_miss, m_row_hit, m_row_miss, n_eqm, n_meq, n_meqm, n_ltm, n_lem, n_mlt, n_mle, n_sub, n_div, n_and1, n_shl, n_shr, n_inc, n_mul, n_rem, z_lt, z_le, z_nlt, z_nle, Nat.not_lt_zero, Nat.le_zero_eq, Nat.zero_le, if_true, if_false, hp, p2, r2, hm]
  | succ j ih =>
    have key := ih (k + 1) (by omega)
    have e := hl k (by omega)
    rw [e58_4]
    simp (disch := omega) only [e58_5, e58_5N, e58_6, e58_9, e58_12, e58_13, e58_13N, e58_14, e58_17, e58_18, e58_19, e58_20, e58_21, e58_24, e58_27, e58_28, true_or, m_psh_s, m_psh_n, m_kl_i, m_kl_f, m_kl_r, m_kl_n, m_kl_j, m_kl_l, m_kl_d, c_i, c_f, c_r, c_n, List.length_nil, List.length_cons, true_and, and_true, Nat.reduceAdd, Nat.reduceLeDiff, Nat.reduceSub, Nat.reduceEqDiff, Nat.reduceLT, ge_iff_le, gt_iff_lt, n_lit, m_in, m_nar0, m_nar1, and_self, not_false_eq_true, not_true_eq_false, ne_eq, reduceIte, ite_self, Nat.reduceMul, Nat.reduceDiv, Nat.reduceMod, Nat.reducePow, Nat.zero_add, Nat.add_zero, Nat.one_mul, Nat.mul_one, n_in, n_min, n_clamp, n_eq_t, n_eq_f, n_eq, n_le_t, n_le_f, n_le, n_lt_t, n_lt_f, n_lt, n_sub0, n_sublt, n_suble, n_negsub, m_up_hit, m_up_miss, m_row_hit, m_row_miss, n_eqm, n_meq, n_meqm, n_ltm, n_lem, n_mlt, n_mle, n_sub, n_div, n_and1, n_shl, n_shr, n_inc, n_mul, n_rem, z_lt, z_le, z_nlt, z_nle, Nat.not_lt_zero, Nat.le_zero_eq, Nat.zero_le, if_true, if_false, hp, p2, r2, hm, e]
    exact key
theorem s_tog {p o m : Nat} (hp : lay p = (5, 0)) (p2 : lay (p + 2) = (0, 12)) (r2 : m_rv (R p 1) = .ref (p + 2)) (hm : I p 2 = nI m) (hm12 : m ≤ 12) (hl : ∀ k, k < 12 → I (p + 2) k = nI (S (o + 2 * k))) : Ev lay d 58 0 [.ref p, m_j, m_j] [] I F R n Q ↔ Q (some (.int (nI (q_tog S o m)))) I F R n := by
  have key := s_tog0 (d := d) (F := F) (n := n) (Q := Q) hp p2 r2 hm hm12 hl m 0 (Nat.zero_add _)
  simp (disch := omega) only [e58_0, e58_1, e58_2, e58_3, true_or, m_psh_s, m_psh_n, m_kl_i, m_kl_f, m_kl_r, m_kl_n, m_kl_j, m_kl_l, m_kl_d, c_i, c_f, c_r, c_n, List.length_nil, List.length_cons, true_and, and_true, Nat.reduceAdd, Nat.reduceLeDiff, Nat.reduceSub, Nat.reduceEqDiff, Nat.reduceLT, ge_iff_le, gt_iff_lt, n_lit, m_in, m_nar0, m_nar1, and_self, not_false_eq_true, not_true_eq_false, ne_eq, reduceIte, ite_self, Nat.reduceMul, Nat.reduceDiv, Nat.reduceMod, Nat.reducePow, Nat.zero_add, Nat.add_zero, Nat.one_mul, Nat.mul_one, n_in, n_min, n_clamp, n_eq_t, n_eq_f, n_eq, n_le_t, n_le_f, n_le, n_lt_t, n_lt_f, n_lt, n_sub0, n_sublt, n_suble, n_negsub, m_up_hit, m_up_miss, m_row_hit, m_row_miss, n_eqm, n_meq, n_meqm, n_ltm, n_lem, n_mlt, n_mle, n_sub, n_div, n_and1, n_shl, n_shr, n_inc, n_mul, n_rem, z_lt, z_le, z_nlt, z_nle, Nat.not_lt_zero, Nat.le_zero_eq, Nat.zero_le, if_true, if_false]
  exact key
-- the past
theorem s_times0 {v0 : Value} {b p : Nat} (hb : b < 65536) (hhi : ∀ x, x ∈ hi → x < 65536) (h : Cch lay I R n p hi) : Ev lay d 37 5 [v0, .int (nI b), m_rv p] [] I F R n Q ↔ Q (some (.int (nI (q_cnt b hi)))) I F R n := by
  induction hi generalizing p with
  | nil =>
    have hp : m_rv p = .null := by rw [show p = 0 from h]; rfl
    simp (disch := omega) only [e37_0, e37_0N, e37_1, e37_4, e37_4N, e37_5, e37_5N, e37_6N, e37_6, e37_9, e37_9N, e37_10, e37_13, e37_14, e37_17, e37_17N, e37_18, e37_21, e37_22, e37_22N, e37_23, e37_26, e37_26N, e37_27, e37_30, e37_31, true_or, m_psh_s, m_psh_n, m_kl_i, m_kl_f, m_kl_r, m_kl_n, m_kl_j, m_kl_l, m_kl_d, c_i, c_f, c_r, c_n, List.length_nil, List.length_cons, true_and, and_true, Nat.reduceAdd, Nat.reduceLeDiff, Nat.reduceSub, Nat.reduceEqDiff, Nat.reduceLT, ge_iff_le, gt_iff_lt, n_lit, m_in, m_nar0, m_nar1, and_self, not_false_eq_true, not_true_eq_false, ne_eq, reduceIte, ite_self, Nat.reduceMul, Nat.reduceDiv, Nat.reduceMod, Nat.reducePow, Nat.zero_add, Nat.add_zero, Nat.one_mul, Nat.mul_one, n_in, n_min, n_clamp, n_eq_t, n_eq_f, n_eq, n_le_t, n_le_f, n_le, n_lt_t, n_lt_f, n_lt, n_sub0, n_sublt, n_suble, n_negsub, m_up_hit, m_up_miss, m_row_hit, m_row_miss, n_eqm, n_meq, n_meqm, n_ltm, n_lem, n_mlt, n_mle, n_sub, n_div, n_and1, n_shl, n_shr, n_inc, n_mul, n_rem, z_lt, z_le, z_nlt, z_nle, Nat.not_lt_zero, Nat.le_zero_eq, Nat.zero_le, if_true, if_false, hp]
    rfl
  | cons x r ih =>
    obtain ⟨h1, h2, h3, h4, h5, h6, h7⟩ := h
    have hp := m_rv_p (r := p) (by omega)
    have hx := hhi x (List.mem_cons_self ..)
    rw [hp, e37_5]
    by_cases e : x = b
    · subst e
      simp (disch := omega) only [e37_6N, e37_6, e37_9, e37_9N, e37_10, e37_13, e37_14, e37_17, e37_17N, e37_18, e37_21, e37_22, e37_22N, e37_23, e37_26, e37_26N, e37_27, e37_30, e37_31, true_or, m_psh_s, m_psh_n, m_kl_i, m_kl_f, m_kl_r, m_kl_n, m_kl_j, m_kl_l, m_kl_d, c_i, c_f, c_r, c_n, List.length_nil, List.length_cons, true_and, and_true, Nat.reduceAdd, Nat.reduceLeDiff, Nat.reduceSub, Nat.reduceEqDiff, Nat.reduceLT, ge_iff_le, gt_iff_lt, n_lit, m_in, m_nar0, m_nar1, and_self, not_false_eq_true, not_true_eq_false, ne_eq, reduceIte, ite_self, Nat.reduceMul, Nat.reduceDiv, Nat.reduceMod, Nat.reducePow, Nat.zero_add, Nat.add_zero, Nat.one_mul, Nat.mul_one, n_in, n_min, n_clamp, n_eq_t, n_eq_f, n_eq, n_le_t, n_le_f, n_le, n_lt_t, n_lt_f, n_lt, n_sub0, n_sublt, n_suble, n_negsub, m_up_hit, m_up_miss, m_row_hit, m_row_miss, n_eqm, n_meq, n_meqm, n_ltm, n_lem, n_mlt, n_mle, n_sub, n_div, n_and1, n_shl, n_shr, n_inc, n_mul, n_rem, z_lt, z_le, z_nlt, z_nle, Nat.not_lt_zero, Nat.le_zero_eq, Nat.zero_le, if_true, if_false, h3, h4, h5]
    · have key := ih (fun y hy => hhi y (List.mem_cons_of_mem _ hy)) h7
      have e2 : q_cnt b (x :: r) = q_cnt b r := by simp [q_cnt, e]
      rw [e2]
      rcases Nat.eq_zero_or_pos (R p 3) with r9 | r9
      · have r9' : m_rv (R p 3) = .null := by rw [r9]; rfl
        rw [r9'] at key
        simp (disch := omega) only [e37_6N, e37_6, e37_9, e37_9N, e37_10, e37_13, e37_14, e37_17, e37_17N, e37_18, e37_21, e37_22, e37_22N, e37_23, e37_26, e37_26N, e37_27, e37_30, e37_31, true_or, m_psh_s, m_psh_n, m_kl_i, m_kl_f, m_kl_r, m_kl_n, m_kl_j, m_kl_l, m_kl_d, c_i, c_f, c_r, c_n, List.length_nil, List.length_cons, true_and, and_true, Nat.reduceAdd, Nat.reduceLeDiff, Nat.reduceSub, Nat.reduceEqDiff, Nat.reduceLT, ge_iff_le, gt_iff_lt, n_lit, m_in, m_nar0, m_nar1, and_self, not_false_eq_true, not_true_eq_false, ne_eq, reduceIte, ite_self, Nat.reduceMul, Nat.reduceDiv, Nat.reduceMod, Nat.reducePow, Nat.zero_add, Nat.add_zero, Nat.one_mul, Nat.mul_one, n_in, n_min, n_clamp, n_eq_t, n_eq_f, n_eq, n_le_t, n_le_f, n_le, n_lt_t, n_lt_f, n_lt, n_sub0, n_sublt, n_suble, n_negsub, m_up_hit, m_up_miss, m_row_hit, m_row_miss, n_eqm, n_meq, n_meqm, n_ltm, n_lem, n_mlt, n_mle, n_sub, n_div, n_and1, n_shl, n_shr, n_inc, n_mul, n_rem, z_lt, z_le, z_nlt, z_nle, Nat.not_lt_zero, Nat.le_zero_eq, Nat.zero_le, if_true, if_false, h3, h4, h5, r9']
        exact key
      · have r9' := m_rv_p r9
        rw [r9'] at key
        simp (disch := omega) only [e37_6N, e37_6, e37_9, e37_9N, e37_10, e37_13, e37_14, e37_17, e37_17N, e37_18, e37_21, e37_22, e37_22N, e37_23, e37_26, e37_26N, e37_27, e37_30, e37_31, true_or, m_psh_s, m_psh_n, m_kl_i, m_kl_f, m_kl_r, m_kl_n, m_kl_j, m_kl_l, m_kl_d, c_i, c_f, c_r, c_n, List.length_nil, List.length_cons, true_and, and_true, Nat.reduceAdd, Nat.reduceLeDiff, Nat.reduceSub, Nat.reduceEqDiff, Nat.reduceLT, ge_iff_le, gt_iff_lt, n_lit, m_in, m_nar0, m_nar1, and_self, not_false_eq_true, not_true_eq_false, ne_eq, reduceIte, ite_self, Nat.reduceMul, Nat.reduceDiv, Nat.reduceMod, Nat.reducePow, Nat.zero_add, Nat.add_zero, Nat.one_mul, Nat.mul_one, n_in, n_min, n_clamp, n_eq_t, n_eq_f, n_eq, n_le_t, n_le_f, n_le, n_lt_t, n_lt_f, n_lt, n_sub0, n_sublt, n_suble, n_negsub, m_up_hit, m_up_miss, m_row_hit, m_row_miss, n_eqm, n_meq, n_meqm, n_ltm, n_lem, n_mlt, n_mle, n_sub, n_div, n_and1, n_shl, n_shr, n_inc, n_mul, n_rem, z_lt, z_le, z_nlt, z_nle, Nat.not_lt_zero, Nat.le_zero_eq, Nat.zero_le, if_true, if_false, h3, h4, h5, r9']
        exact key
end SHEDC
