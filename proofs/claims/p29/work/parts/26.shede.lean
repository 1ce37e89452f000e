section SHEDE
variable {lay : mL} {d a n : Nat} {I : mI} {F : mF} {R : mR} {Q : mP} {S : Nat → Nat} {sp : Nat → UInt32} {hi : List Nat}
-- the mean speed
def q_msum (sp : Nat → UInt32) : Nat → UInt64
  | 0 => 0
  | k + 1 => FP.dadd (q_msum sp k) (FP.f2d (sp k))
def q_mean (S : Nat → Nat) (sp : Nat → UInt32) : UInt64 := if S 3 = 0 then 0 else FP.ddiv (q_msum sp (S 3)) (FP.i2d (nI (S 3)))
def q_mok (S : Nat → Nat) (sp : Nat → UInt32) : Prop := (∀ k, k < S 3 → vf_n64 (FP.f2d (sp k)) ∧ vf_n64 (q_msum sp (k + 1))) ∧ (S 3 ≠ 0 → vf_n64 (FP.ddiv (q_msum sp (S 3)) (FP.i2d (nI (S 3)))))
theorem s_mean0 (h : CSh lay I F R n a S sp hi) (w : Wsh S) (mo : q_mok S sp) (j k : Nat) (hk : k + j = S 3) (h0 : S 3 ≠ 0) : Ev lay d 61 13 [.ref a, .double (q_msum sp k), m_j, .int (nI k)] [] I F R n Q ↔ Q (some (.double (q_mean S sp))) I F R n := by
  have h3 := CSh_0 h cS_0_11
  have w1 := w.1
  induction j generalizing k with
  | zero =>
    have hk2 : k = S 3 := by omega
    have m2 := mo.2 h0
    obtain ⟨hs0, hs1, hs2, hs3, hs4, hs5, hs6, hs7, hs8, hs9, hs10, hs11, hs12, hs13, hs14, hs15, hs16, hs17, hs18, hs19, hs20, hs21, hs22, hs23, hs24, hs25, hs26⟩ := h.1
    unfold q_mean
    rw [if_neg h0, e61_13, hk2]
    simp (disch := omega) only [e61_14, e61_14N, e61_15, e61_18, e61_21, e61_22, e61_22N, e61_23, e61_26, e61_27, e61_28, e61_29, e61_30, e61_31, e61_34, e61_37, e61_38, e61_38N, e61_39, e61_42, e61_43, e61_44, true_or, m_psh_s, m_psh_n, m_kl_i, m_kl_f, m_kl_r, m_kl_n, m_kl_j, m_kl_l, m_kl_d, c_i, c_f, c_r, c_n, List.length_nil, List.length_cons, true_and, and_true, Nat.reduceAdd, Nat.reduceLeDiff, Nat.reduceSub, Nat.reduceEqDiff, Nat.reduceLT, ge_iff_le, gt_iff_lt, n_lit, m_in, m_nar0, m_nar1, and_self, not_false_eq_true, not_true_eq_false, ne_eq, reduceIte, ite_self, Nat.reduceMul, Nat.reduceDiv, Nat.reduceMod, Nat.reducePow, Nat.zero_add, Nat.add_zero, Nat.one_mul, Nat.mul_one, n_in, n_min, n_clamp, n_eq_t, n_eq_f, n_eq, n_le_t, n_le_f, n_le, n_lt_t, n_lt_f, n_lt, n_sub0, n_sublt, n_suble, n_negsub, m_up_hit, m_up_miss, m_row_hit, m_row_miss, n_eqm, n_meq, n_meqm, n_ltm, n_lem, n_mlt, n_mle, n_sub, n_div, n_and1, n_shl, n_shr, n_inc, n_mul, n_rem, z_lt, z_le, z_nlt, z_nle, Nat.not_lt_zero, Nat.le_zero_eq, Nat.zero_le, if_true, if_false, hs0, hs1, hs2, hs3, hs4, hs5, hs6, hs7, hs8, hs9, hs10, hs11, hs12, hs13, hs14, hs15, hs16, hs17, hs18, hs19, hs20, hs21, hs22, hs23, hs24, hs25, hs26, h3, m2]
  | succ j ih =>
    obtain ⟨u1, u2⟩ := mo.1 k (by omega)
    have u2' : vf_n64 (FP.dadd (q_msum sp k) (FP.f2d (sp k))) := u2
    have hF := h.2.2.2.1 k (by omega)
    have key := ih (k + 1) (by omega)
    obtain ⟨hs0, hs1, hs2, hs3, hs4, hs5, hs6, hs7, hs8, hs9, hs10, hs11, hs12, hs13, hs14, hs15, hs16, hs17, hs18, hs19, hs20, hs21, hs22, hs23, hs24, hs25, hs26⟩ := h.1
    rw [e61_13]
    simp (disch := omega) only [e61_14, e61_14N, e61_15, e61_18, e61_21, e61_22, e61_22N, e61_23, e61_26, e61_27, e61_28, e61_29, e61_30, e61_31, e61_34, e61_37, e61_38, e61_38N, e61_39, e61_42, e61_43, e61_44, true_or, m_psh_s, m_psh_n, m_kl_i, m_kl_f, m_kl_r, m_kl_n, m_kl_j, m_kl_l, m_kl_d, c_i, c_f, c_r, c_n, List.length_nil, List.length_cons, true_and, and_true, Nat.reduceAdd, Nat.reduceLeDiff, Nat.reduceSub, Nat.reduceEqDiff, Nat.reduceLT, ge_iff_le, gt_iff_lt, n_lit, m_in, m_nar0, m_nar1, and_self, not_false_eq_true, not_true_eq_false, ne_eq, reduceIte, ite_self, Nat.reduceMul, Nat.reduceDiv, Nat.reduceMod, Nat.reducePow, Nat.zero_add, Nat.add_zero, Nat.one_mul, Nat.mul_one, n_in, n_min, n_clamp, n_eq_t, n_eq_f, n_eq, n_le_t, n_le_f, n_le, n_lt_t, n_lt_f, n_lt, n_sub0, n_sublt, n_suble, n_negsub, m_up_hit, m_up_miss, m_row_hit, m_row_miss, n_eqm, n_meq, n_meqm, n_ltm, n_lem, n_mlt, n_mle, n_sub, n_div, n_and1, n_shl, n_shr, n_inc, n_mul, n_rem, z_lt, z_le, z_nlt, z_nle, Nat.not_lt_zero, Nat.le_zero_eq, Nat.zero_le, if_true, if_false, hs0, hs1, hs2, hs3, hs4, hs5, hs6, hs7, hs8, hs9, hs10, hs11, hs12, hs13, hs14, hs15, hs16, hs17, hs18, hs19, hs20, hs21, hs22, hs23, hs24, hs25, hs26, h3, hF, u1, u2']
    exact key
theorem s_mean (h : CSh lay I F R n a S sp hi) (w : Wsh S) (mo : q_mok S sp) : Ev lay d 61 0 [.ref a, m_j, m_j, m_j] [] I F R n Q ↔ Q (some (.double (q_mean S sp))) I F R n := by
  have h3 := CSh_0 h cS_0_11
  have w1 := w.1
  by_cases c : S 3 = 0
  · unfold q_mean
    rw [if_pos c]
    rw [c] at h3
    obtain ⟨hs0, hs1, hs2, hs3, hs4, hs5, hs6, hs7, hs8, hs9, hs10, hs11, hs12, hs13, hs14, hs15, hs16, hs17, hs18, hs19, hs20, hs21, hs22, hs23, hs24, hs25, hs26⟩ := h.1
    simp (disch := omega) only [e61_0, e61_0N, e61_1, e61_4, e61_7, e61_8, true_or, m_psh_s, m_psh_n, m_kl_i, m_kl_f, m_kl_r, m_kl_n, m_kl_j, m_kl_l, m_kl_d, c_i, c_f, c_r, c_n, List.length_nil, List.length_cons, true_and, and_true, Nat.reduceAdd, Nat.reduceLeDiff, Nat.reduceSub, Nat.reduceEqDiff, Nat.reduceLT, ge_iff_le, gt_iff_lt, n_lit, m_in, m_nar0, m_nar1, and_self, not_false_eq_true, not_true_eq_false, ne_eq, reduceIte, ite_self, Nat.reduceMul, Nat.reduceDiv, Nat.reduceMod, Nat.reducePow, Nat.zero_add, Nat.add_zero, Nat.one_mul, Nat.mul_one, n_in, n_min, n_clamp, n_eq_t, n_eq_f, n_eq, n_le_t, n_le_f, n_le, n_lt_t, n_lt_f, n_lt, n_sub0, n_sublt, n_suble, n_negsub, m_up_hit, m_up_miss, m_row_hit, m_row_miss, n_eqm, n_meq, n_meqm, n_ltm, n_lem, n_mlt, n_mle, n_sub, n_div, n_and1, n_shl, n_shr, n_inc, n_mul, n_rem, z_lt, z_le, z_nlt, z_nle, Nat.not_lt_zero, Nat.le_zero_eq, Nat.zero_le, if_true, if_false, hs0, hs1, hs2, hs3, hs4, hs5, hs6, hs7, hs8, hs9, hs10, hs11, hs12, hs13, hs14, hs15, hs16, hs17, hs18, hs19, hs20, hs21, hs22, hs23, hs24, hs25, hs26, h3]
  · have key := s_mean0 (d := d) (Q := Q) h w mo (S 3) 0 (by omega) c
    obtain ⟨hs0, hs1, hs2, hs3, hs4, hs5, hs6, hs7, hs8, hs9, hs10, hs11, hs12, hs13, hs14, hs15, hs16, hs17, hs18, hs19, hs20, hs21, hs22, hs23, hs24, hs25, hs26⟩ := h.1
    simp (disch := omega) only [e61_0, e61_0N, e61_1, e61_4, e61_7, e61_8, e61_9, e61_10, e61_11, e61_12, true_or, m_psh_s, m_psh_n, m_kl_i, m_kl_f, m_kl_r, m_kl_n, m_kl_j, m_kl_l, m_kl_d, c_i, c_f, c_r, c_n, List.length_nil, List.length_cons, true_and, and_true, Nat.reduceAdd, Nat.reduceLeDiff, Nat.reduceSub, Nat.reduceEqDiff, Nat.reduceLT, ge_iff_le, gt_iff_lt, n_lit, m_in, m_nar0, m_nar1, and_self, not_false_eq_true, not_true_eq_false, ne_eq, reduceIte, ite_self, Nat.reduceMul, Nat.reduceDiv, Nat.reduceMod, Nat.reducePow, Nat.zero_add, Nat.add_zero, Nat.one_mul, Nat.mul_one, n_in, n_min, n_clamp, n_eq_t, n_eq_f, n_eq, n_le_t, n_le_f, n_le, n_lt_t, n_lt_f, n_lt, n_sub0, n_sublt, n_suble, n_negsub, m_up_hit, m_up_miss, m_row_hit, m_row_miss, n_eqm, n_meq, n_meqm, n_ltm, n_lem, n_mlt, n_mle, n_sub, n_div, n_and1, n_shl, n_shr, n_inc, n_mul, n_rem, z_lt, z_le, z_nlt, z_nle, Nat.not_lt_zero, Nat.le_zero_eq, Nat.zero_le, if_true, if_false, hs0, hs1, hs2, hs3, hs4, hs5, hs6, hs7, hs8, hs9, hs10, hs11, hs12, hs13, hs14, hs15, hs16, hs17, hs18, hs19, hs20, hs21, hs22, hs23, hs24, hs25, hs26, h3]
    exact key
-- the speeds grow old
def q_agef (c p : Nat) (x : UInt32) : UInt32 := FP.fadd (FP.fdiv (FP.fmul x (FP.i2f (nI c))) 1120403456) (FP.fdiv (FP.fmul (FP.i2f (nI p)) (FP.i2f (nI (100 - c)))) 1120403456)
def q_aok1 (c p : Nat) (x : UInt32) : Prop := vf_n32 (FP.fmul x (FP.i2f (nI c))) ∧ vf_n32 (FP.fdiv (FP.fmul x (FP.i2f (nI c))) 1120403456) ∧ vf_n32 (FP.fmul (FP.i2f (nI p)) (FP.i2f (nI (100 - c)))) ∧ vf_n32 (FP.fdiv (FP.fmul (FP.i2f (nI p)) (FP.i2f (nI (100 - c)))) 1120403456) ∧ vf_n32 (q_agef c p x)
def q_age (S : Nat → Nat) (sp : Nat → UInt32) (k : Nat) : Nat → UInt32 := fun g => if g < k then q_agef (S 1) (S (5 + 4 * g)) (sp g) else sp g
def q_aok (S : Nat → Nat) (sp : Nat → UInt32) : Prop := ∀ g, g < S 3 → q_aok1 (S 1) (S (5 + 4 * g)) (sp g)
theorem CSh_F {F' : mF} {sp' : Nat → UInt32} (h : CSh lay I F R n a S sp hi) (hs : SPD F' a sp') : CSh lay I F' R n a S sp' hi := ⟨h.1, h.2.1, h.2.2.1, hs, h.2.2.2.2⟩
theorem s_age0 (w : Wsh S) (hc : S 1 ≤ 100) (ao : q_aok S sp) (ha : a + 13 < 180) (j k : Nat) (hk : k + j = S 3) (h : CSh lay I F R n a S (q_age S sp k) hi) (hQ : ∀ F', CSh lay I F' R n a S (q_age S sp (S 3)) hi → Off a (a + 13) I F R I F' R → Q none I F' R n) : Ev lay d 43 21 [.ref a, .float (FP.i2f (nI (S 1))), .float (FP.i2f (nI (100 - S 1))), .int (nI k)] [] I F R n Q := by
  have w1 := w.1
  induction j generalizing k F with
  | zero =>
    have hk2 : k = S 3 := by omega
    have h3 := CSh_0 h cS_0_11
    subst hk2
    have key := hQ F h Off_refl
    obtain ⟨hs0, hs1, hs2, hs3, hs4, hs5, hs6, hs7, hs8, hs9, hs10, hs11, hs12, hs13, hs14, hs15, hs16, hs17, hs18, hs19, hs20, hs21, hs22, hs23, hs24, hs25, hs26⟩ := h.1
    rw [e43_21]
    simp (disch := omega) only [e43_22, e43_22N, e43_23, e43_26, e43_29, e43_29N, e43_30, e43_33, e43_34, e43_34N, e43_35, e43_38, e43_39, e43_40, e43_41, e43_42, e43_44, e43_45, e43_45N, e43_46, e43_49, e43_50, e43_51, e43_52, e43_53, e43_54, e43_56, e43_57, e43_58, e43_59, e43_62, e43_65, true_or, m_psh_s, m_psh_n, m_kl_i, m_kl_f, m_kl_r, m_kl_n, m_kl_j, m_kl_l, m_kl_d, c_i, c_f, c_r, c_n, List.length_nil, List.length_cons, true_and, and_true, Nat.reduceAdd, Nat.reduceLeDiff, Nat.reduceSub, Nat.reduceEqDiff, Nat.reduceLT, ge_iff_le, gt_iff_lt, n_lit, m_in, m_nar0, m_nar1, and_self, not_false_eq_true, not_true_eq_false, ne_eq, reduceIte, ite_self, Nat.reduceMul, Nat.reduceDiv, Nat.reduceMod, Nat.reducePow, Nat.zero_add, Nat.add_zero, Nat.one_mul, Nat.mul_one, n_in, n_min, n_clamp, n_eq_t, n_eq_f, n_eq, n_le_t, n_le_f, n_le, n_lt_t, n_lt_f, n_lt, n_sub0, n_sublt, n_suble, n_negsub, m_up_hit, m_up_miss, m_row_hit, m_row_miss, n_eqm, n_meq, n_meqm, n_ltm, n_lem, n_mlt, n_mle, n_sub, n_div, n_and1, n_shl, n_shr, n_inc, n_mul, n_rem, z_lt, z_le, z_nlt, z_nle, Nat.not_lt_zero, Nat.le_zero_eq, Nat.zero_le, if_true, if_false, hs0, hs1, hs2, hs3, hs4, hs5, hs6, hs7, hs8, hs9, hs10, hs11, hs12, hs13, hs14, hs15, hs16, hs17, hs18, hs19, hs20, hs21, hs22, hs23, hs24, hs25, hs26, h3]
    exact key
  | succ j ih =>
    have h3 := CSh_0 h cS_0_11
    obtain ⟨u1, u2, u3, u4, u5⟩ := ao k (by omega)
    unfold q_agef at u5
    have hF := h.2.2.2.1 k (by omega)
    have hF2 : F (a + 4) k = sp k := by
      rw [hF]
      unfold q_age
      rw [if_neg (by omega)]
    have hp := h.2.1 5 k _ (cS_5 (by omega))
    obtain ⟨hs0, hs1, hs2, hs3, hs4, hs5, hs6, hs7, hs8, hs9, hs10, hs11, hs12, hs13, hs14, hs15, hs16, hs17, hs18, hs19, hs20, hs21, hs22, hs23, hs24, hs25, hs26⟩ := h.1
    rw [e43_21]
    simp (disch := omega) only [e43_22, e43_22N, e43_23, e43_26, e43_29, e43_29N, e43_30, e43_33, e43_34, e43_34N, e43_35, e43_38, e43_39, e43_40, e43_41, e43_42, e43_44, e43_45, e43_45N, e43_46, e43_49, e43_50, e43_51, e43_52, e43_53, e43_54, e43_56, e43_57, e43_58, e43_59, e43_62, e43_65, true_or, m_psh_s, m_psh_n, m_kl_i, m_kl_f, m_kl_r, m_kl_n, m_kl_j, m_kl_l, m_kl_d, c_i, c_f, c_r, c_n, List.length_nil, List.length_cons, true_and, and_true, Nat.reduceAdd, Nat.reduceLeDiff, Nat.reduceSub, Nat.reduceEqDiff, Nat.reduceLT, ge_iff_le, gt_iff_lt, n_lit, m_in, m_nar0, m_nar1, and_self, not_false_eq_true, not_true_eq_false, ne_eq, reduceIte, ite_self, Nat.reduceMul, Nat.reduceDiv, Nat.reduceMod, Nat.reducePow, Nat.zero_add, Nat.add_zero, Nat.one_mul, Nat.mul_one, n_in, n_min, n_clamp, n_eq_t, n_eq_f, n_eq, n_le_t, n_le_f, n_le, n_lt_t, n_lt_f, n_lt, n_sub0, n_sublt, n_suble, n_negsub, m_up_hit, m_up_miss, m_row_hit, m_row_miss, n_eqm, n_meq, n_meqm, n_ltm, n_lem, n_mlt, n_mle, n_sub, n_div, n_and1, n_shl, n_shr, n_inc, n_mul, n_rem, z_lt, z_le, z_nlt, z_nle, Nat.not_lt_zero, Nat.le_zero_eq, Nat.zero_le, if_true, if_false, hs0, hs1, hs2, hs3, hs4, hs5, hs6, hs7, hs8, hs9, hs10, hs11, hs12, hs13, hs14, hs15, hs16, hs17, hs18, hs19, hs20, hs21, hs22, hs23, hs24, hs25, hs26, h3, hF2, hp, u1, u2, u3, u4, u5]
    refine ih (k + 1) (by omega) (CSh_F h ?_) fun F' h1 h2 => hQ F' h1 (Off_trans (Off_F (by omega) (by omega)) h2)
    intro g hg
    unfold q_age
    by_cases e : g = k
    · subst e
      rw [m_up_at, if_pos (by omega)]
      rfl
    · rw [m_up_miss (by omega), h.2.2.2.1 g hg]
      unfold q_age
      by_cases e2 : g < k
      · rw [if_pos e2, if_pos (by omega)]
      · rw [if_neg e2, if_neg (by omega)]
theorem s_age (h : CSh lay I F R n a S sp hi) (w : Wsh S) (hc : S 1 ≤ 100) (ao : q_aok S sp) (ha : a + 13 < 180) (hQ : ∀ F', CSh lay I F' R n a S (q_age S sp (S 3)) hi → Off a (a + 13) I F R I F' R → Q none I F' R n) : Ev lay d 43 0 [.ref a, m_j, m_j, m_j] [] I F R n Q := by
  have key := s_age0 (d := d) w hc ao ha (S 3) 0 (by omega) (CSh_F h (by intro g hg; unfold q_age; rw [if_neg (by omega)]; exact h.2.2.2.1 g hg)) hQ
  have h1 := h.2.1 1 1 1 (cS_1 (by omega))
  obtain ⟨hs0, hs1, hs2, hs3, hs4, hs5, hs6, hs7, hs8, hs9, hs10, hs11, hs12, hs13, hs14, hs15, hs16, hs17, hs18, hs19, hs20, hs21, hs22, hs23, hs24, hs25, hs26⟩ := h.1
  simp (disch := omega) only [e43_0, e43_0N, e43_1, e43_4, e43_5, e43_6, e43_7, e43_8, e43_10, e43_10N, e43_11, e43_14, e43_15, e43_16, e43_17, e43_18, e43_19, e43_20, true_or, m_psh_s, m_psh_n, m_kl_i, m_kl_f, m_kl_r, m_kl_n, m_kl_j, m_kl_l, m_kl_d, c_i, c_f, c_r, c_n, List.length_nil, List.length_cons, true_and, and_true, Nat.reduceAdd, Nat.reduceLeDiff, Nat.reduceSub, Nat.reduceEqDiff, Nat.reduceLT, ge_iff_le, gt_iff_lt, n_lit, m_in, m_nar0, m_nar1, and_self, not_false_eq_true, not_true_eq_false, ne_eq, reduceIte, ite_self, Nat.reduceMul, Nat.reduceDiv, Nat.reduceMod, Nat.reducePow, Nat.zero_add, Nat.add_zero, Nat.one_mul, Nat.mul_one, n_in, n_min, n_clamp, n_eq_t, n_eq_f, n_eq, n_le_t, n_le_f, n_le, n_lt_t, n_lt_f, n_lt, n_sub0, n_sublt, n_suble, n_negsub, m_up_hit, m_up_miss, m_row_hit, m_row_miss, n_eqm, n_meq, n_meqm, n_ltm, n_lem, n_mlt, n_mle, n_sub, n_div, n_and1, n_shl, n_shr, n_inc, n_mul, n_rem, z_lt, z_le, z_nlt, z_nle, Nat.not_lt_zero, Nat.le_zero_eq, Nat.zero_le, if_true, if_false, hs0, hs1, hs2, hs3, hs4, hs5, hs6, hs7, hs8, hs9, hs10, hs11, hs12, hs13, hs14, hs15, hs16, hs17, hs18, hs19, hs20, hs21, hs22, hs23, hs24, hs25, hs26, h1]
  exact key
end SHEDE
