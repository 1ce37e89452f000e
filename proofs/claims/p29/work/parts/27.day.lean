section DAYS
variable {lay : mL} {d a n : Nat} {I : mI} {F : mF} {R : mR} {Q : mP} {S : Nat → Nat} {sp : Nat → UInt32} {hi : List Nat}
-- the end of a day
def q_oldS (S : Nat → Nat) : Nat → Nat := fun i => if i = 70 then S 69 else if 95 ≤ i ∧ i < 119 then S (i - 24) else S i
def q_zp (S : Nat → Nat) (k : Nat) : Nat → Nat := fun i => if i % 4 = 1 ∧ 5 ≤ i ∧ i < 5 + 4 * k then 0 else S i
def q_end (S : Nat → Nat) : Nat → Nat := up1 (q_zp (up1 (q_oldS S) 69 0) (S 3)) 119 (S 119 + 1)
theorem q_zp_s {k : Nat} : up1 (q_zp S k) (5 + 4 * k) 0 = q_zp S (k + 1) := by
  funext i
  unfold up1 q_zp
  by_cases e : i = 5 + 4 * k
  · subst e
    rw [if_pos rfl, if_pos (by omega)]
  · rw [if_neg e]
    by_cases e2 : i % 4 = 1 ∧ 5 ≤ i ∧ i < 5 + 4 * k
    · rw [if_pos e2, if_pos (by omega)]
    · rw [if_neg e2, if_neg (by omega)]
theorem q_zp_0 : q_zp S 0 = S := by
  funext i
  unfold q_zp
  rw [if_neg (by omega)]
theorem CC_old (h : CC I a S) : CC (q_dcp I (a + 11) (a + 8)) a (q_oldS S) := by
  intro x k i hx
  have h69 := h 8 2 69 cS_8
  rcases hx with ⟨h1, h2, h3⟩ | ⟨h1, h2, h3⟩ | ⟨h1, h2, h3⟩ | ⟨h1, h2, h3⟩ | ⟨h1, h2, h3⟩ | ⟨h1, h2, h3⟩ | ⟨h1, h2, h3⟩ | ⟨h1, h2, h3⟩ | ⟨h1, h2, h3⟩ | ⟨h1, h2, h3⟩ | ⟨h1, h2, h3⟩ | ⟨h1, h2, h3⟩ | ⟨h1, h2, h3⟩ | ⟨h1, h2, h3⟩ | ⟨h1, h2, h3⟩ | ⟨h1, h2, h3⟩ <;> subst h1 <;> subst h3 <;> unfold q_oldS
  · rw [q_dcp_off (by omega), if_neg (by omega), if_neg (by omega)]; exact h _ _ _ (cS_1 h2)
  · rw [q_dcp_off (by omega), if_neg (by omega), if_neg (by omega)]; exact h _ _ _ (cS_2 h2)
  · rw [q_dcp_off (by omega), if_neg (by omega), if_neg (by omega)]; exact h _ _ _ (cS_5 h2)
  · rw [q_dcp_off (by omega), if_neg (by omega), if_neg (by omega)]; exact h _ _ _ (cS_6 h2)
  · rw [q_dcp_off (by omega), if_neg (by omega), if_neg (by omega)]; exact h _ _ _ (cS_7 h2)
  · rw [q_dcp_off (by omega), if_neg (by omega), if_neg (by omega)]; exact h _ _ _ (cS_9 h2)
  · rw [q_dcp_off (by omega), if_neg (by omega), if_neg (by omega)]; exact h _ _ _ (cS_10 h2)
  · subst h2; rw [q_dcp_off (by omega), if_neg (by omega), if_neg (by omega)]; exact h69
  · rw [q_dcp_h1 (by omega) h2, if_neg (by omega), if_pos (by omega), show 95 + 2 * k - 24 = 71 + 2 * k from by omega]; exact h _ _ _ (cS_9 h2)
  · rw [q_dcp_h2 (by omega) h2, if_neg (by omega), if_pos (by omega), show 96 + 2 * k - 24 = 72 + 2 * k from by omega]; exact h _ _ _ (cS_10 h2)
  · subst h2; rw [q_dcp_0, if_pos rfl]; exact h69
  · subst h2; rw [q_dcp_off (by omega), if_neg (by omega), if_neg (by omega)]; exact h _ _ _ cS_0_11
  · subst h2; rw [q_dcp_off (by omega), if_neg (by omega), if_neg (by omega)]; exact h _ _ _ cS_0_12
  · subst h2; rw [q_dcp_off (by omega), if_neg (by omega), if_neg (by omega)]; exact h _ _ _ cS_0_13
  · subst h2; rw [q_dcp_off (by omega), if_neg (by omega), if_neg (by omega)]; exact h _ _ _ cS_0_14
  · subst h2; rw [q_dcp_off (by omega), if_neg (by omega), if_neg (by omega)]; exact h _ _ _ cS_0_15
theorem s_end0 (w1 : S 3 ≤ 16) (ha : a + 13 < 180) (j k : Nat) (hk : k + j = S 3) (h : CSh lay I F R n a (q_zp S k) sp hi) (hQ : ∀ I', CSh lay I' F R n a (q_zp S (S 3)) sp hi → Off a (a + 13) I F R I' F R → Ev lay d 48 42 [.ref a, .int (nI (S 3))] [] I' F R n Q) : Ev lay d 48 21 [.ref a, .int (nI k)] [] I F R n Q := by
  have z3 : q_zp S k 3 = S 3 := by unfold q_zp; rw [if_neg (by omega)]
  have h3 := CSh_0 h cS_0_11
  rw [z3] at h3
  induction j generalizing k I with
  | zero =>
    have hk2 : k = S 3 := by omega
    subst hk2
    have key := hQ I h Off_refl
    obtain ⟨hs0, hs1, hs2, hs3, hs4, hs5, hs6, hs7, hs8, hs9, hs10, hs11, hs12, hs13, hs14, hs15, hs16, hs17, hs18, hs19, hs20, hs21, hs22, hs23, hs24, hs25, hs26⟩ := h.1
    rw [e48_21]
    simp (disch := omega) only [e48_22, e48_23, e48_26, true_or, m_psh_s, m_psh_n, m_kl_i, m_kl_f, m_kl_r, m_kl_n, m_kl_j, m_kl_l, m_kl_d, c_i, c_f, c_r, c_n, List.length_nil, List.length_cons, true_and, and_true, Nat.reduceAdd, Nat.reduceLeDiff, Nat.reduceSub, Nat.reduceEqDiff, Nat.reduceLT, ge_iff_le, gt_iff_lt, n_lit, m_in, m_nar0, m_nar1, and_self, not_false_eq_true, not_true_eq_false, ne_eq, reduceIte, ite_self, Nat.reduceMul, Nat.reduceDiv, Nat.reduceMod, Nat.reducePow, Nat.zero_add, Nat.add_zero, Nat.one_mul, Nat.mul_one, n_in, n_min, n_clamp, n_eq_t, n_eq_f, n_eq, n_le_t, n_le_f, n_le, n_lt_t, n_lt_f, n_lt, n_sub0, n_sublt, n_suble, n_negsub, m_up_hit, m_up_miss, m_row_hit, m_row_miss, n_eqm, n_meq, n_meqm, n_ltm, n_lem, n_mlt, n_mle, n_sub, n_div, n_and1, n_shl, n_shr, n_inc, n_mul, n_rem, z_lt, z_le, z_nlt, z_nle, Nat.not_lt_zero, Nat.le_zero_eq, Nat.zero_le, if_true, if_false, hs0, hs1, hs2, hs3, hs4, hs5, hs6, hs7, hs8, hs9, hs10, hs11, hs12, hs13, hs14, hs15, hs16, hs17, hs18, hs19, hs20, hs21, hs22, hs23, hs24, hs25, hs26, h3]
    exact key
  | succ j ih =>
    have h' := CSh_1 (v := 0) h (cS_5 (k := k) (by omega)) (by omega) (by omega) (by rw [z3]; exact w1) ha
    rw [q_zp_s] at h'
    have z3' : q_zp S (k + 1) 3 = S 3 := by unfold q_zp; rw [if_neg (by omega)]
    have key := ih (k + 1) (by omega) h' (fun I' h1 h2 => hQ I' h1 (Off_trans (Off_I (by omega) (by omega)) h2)) z3' (by rw [m_up_miss (by omega)]; exact h3)
    obtain ⟨hs0, hs1, hs2, hs3, hs4, hs5, hs6, hs7, hs8, hs9, hs10, hs11, hs12, hs13, hs14, hs15, hs16, hs17, hs18, hs19, hs20, hs21, hs22, hs23, hs24, hs25, hs26⟩ := h.1
    rw [e48_21]
    simp (disch := omega) only [e48_22, e48_22N, e48_23, e48_26, e48_29, e48_29N, e48_30, e48_33, e48_34, e48_35, e48_36, e48_39, true_or, m_psh_s, m_psh_n, m_kl_i, m_kl_f, m_kl_r, m_kl_n, m_kl_j, m_kl_l, m_kl_d, c_i, c_f, c_r, c_n, List.length_nil, List.length_cons, true_and, and_true, Nat.reduceAdd, Nat.reduceLeDiff, Nat.reduceSub, Nat.reduceEqDiff, Nat.reduceLT, ge_iff_le, gt_iff_lt, n_lit, m_in, m_nar0, m_nar1, and_self, not_false_eq_true, not_true_eq_false, ne_eq, reduceIte, ite_self, Nat.reduceMul, Nat.reduceDiv, Nat.reduceMod, Nat.reducePow, Nat.zero_add, Nat.add_zero, Nat.one_mul, Nat.mul_one, n_in, n_min, n_clamp, n_eq_t, n_eq_f, n_eq, n_le_t, n_le_f, n_le, n_lt_t, n_lt_f, n_lt, n_sub0, n_sublt, n_suble, n_negsub, m_up_hit, m_up_miss, m_row_hit, m_row_miss, n_eqm, n_meq, n_meqm, n_ltm, n_lem, n_mlt, n_mle, n_sub, n_div, n_and1, n_shl, n_shr, n_inc, n_mul, n_rem, z_lt, z_le, z_nlt, z_nle, Nat.not_lt_zero, Nat.le_zero_eq, Nat.zero_le, if_true, if_false, hs0, hs1, hs2, hs3, hs4, hs5, hs6, hs7, hs8, hs9, hs10, hs11, hs12, hs13, hs14, hs15, hs16, hs17, hs18, hs19, hs20, hs21, hs22, hs23, hs24, hs25, hs26, h3]
    exact key
theorem s_endDay (h : CSh lay I F R n a S sp hi) (w : Wsh S) (ha : a + 13 < 180) (hd : 2 ≤ d) (hQ : ∀ I', CSh lay I' F R n a (q_end S) sp hi → Off a (a + 13) I F R I' F R → Q none I' F R n) : Ev lay d 48 0 [.ref a, m_j] [] I F R n Q := by
  have hh := h
  obtain ⟨hs0, hs1, hs2, hs3, hs4, hs5, hs6, hs7, hs8, hs9, hs10, hs11, hs12, hs13, hs14, hs15, hs16, hs17, hs18, hs19, hs20, hs21, hs22, hs23, hs24, hs25, hs26⟩ := h.1
  have key1 : ∀ (d : Nat) (Q : mP), 1 ≤ d → (Ev lay d 11 0 [.ref (a + 11), .ref (a + 8)] [] I F R n Q ↔ Q none (q_dcp I (a + 11) (a + 8)) F R n) := fun d Q hd => s_dayCopy hd (by omega) hs11 hs8 hs12 hs13 hs9 hs10 hs25 hs26 hs23 hs24
  simp (disch := omega) only [e48_0, e48_0N, e48_1, e48_4, e48_4N, e48_5, e48_8, e48_11, e48_11N, e48_12, e48_15, e48_16, e48_19, e48_20, true_or, m_psh_s, m_psh_n, m_kl_i, m_kl_f, m_kl_r, m_kl_n, m_kl_j, m_kl_l, m_kl_d, c_i, c_f, c_r, c_n, List.length_nil, List.length_cons, true_and, and_true, Nat.reduceAdd, Nat.reduceLeDiff, Nat.reduceSub, Nat.reduceEqDiff, Nat.reduceLT, ge_iff_le, gt_iff_lt, n_lit, m_in, m_nar0, m_nar1, and_self, not_false_eq_true, not_true_eq_false, ne_eq, reduceIte, ite_self, Nat.reduceMul, Nat.reduceDiv, Nat.reduceMod, Nat.reducePow, Nat.zero_add, Nat.add_zero, Nat.one_mul, Nat.mul_one, n_in, n_min, n_clamp, n_eq_t, n_eq_f, n_eq, n_le_t, n_le_f, n_le, n_lt_t, n_lt_f, n_lt, n_sub0, n_sublt, n_suble, n_negsub, m_up_hit, m_up_miss, m_row_hit, m_row_miss, n_eqm, n_meq, n_meqm, n_ltm, n_lem, n_mlt, n_mle, n_sub, n_div, n_and1, n_shl, n_shr, n_inc, n_mul, n_rem, z_lt, z_le, z_nlt, z_nle, Nat.not_lt_zero, Nat.le_zero_eq, Nat.zero_le, if_true, if_false, hs0, hs1, hs2, hs3, hs4, hs5, hs6, hs7, hs8, hs9, hs10, hs11, hs12, hs13, hs14, hs15, hs16, hs17, hs18, hs19, hs20, hs21, hs22, hs23, hs24, hs25, hs26, key1]
  have hA : CSh lay (q_dcp I (a + 11) (a + 8)) F R n a (q_oldS S) sp hi := by
    refine CSh_I hh (CC_old hh.2.1) (GI_eq hh.2.2.1 (fun k hk => by rw [q_dcp_off (by omega)]) ?_ (fun g hg => ?_) w.1) (fun p hp _ => q_dcp_off (by omega)) (by rw [q_dcp_off (by omega)])
    · unfold q_oldS; rw [if_neg (by omega), if_neg (by omega)]
    · unfold q_oldS; rw [if_neg (by omega), if_neg (by omega)]
  have o3 : q_oldS S 3 = S 3 := by unfold q_oldS; rw [if_neg (by omega), if_neg (by omega)]
  have hB := CSh_1 (v := 0) hA cS_8 (by omega) (by omega) (by rw [o3]; exact w.1) ha
  have u3 : up1 (q_oldS S) 69 0 3 = S 3 := by rw [up1_miss (by omega), o3]
  refine s_end0 (S := up1 (q_oldS S) 69 0) (by rw [u3]; exact w.1) ha (S 3) 0 (by rw [u3]; omega) (by rw [q_zp_0]; exact hB) fun I1 h1 h2 => ?_
  rw [u3] at h1 ⊢
  have h119 := CSh_0 h1 cS_0_13
  have z119 : q_zp (up1 (q_oldS S) 69 0) (S 3) 119 = S 119 := by
    unfold q_zp
    rw [if_neg (by omega), up1_miss (by omega)]
    unfold q_oldS
    rw [if_neg (by omega), if_neg (by omega)]
  rw [z119] at h119
  have z3 : q_zp (up1 (q_oldS S) 69 0) (S 3) 3 = S 3 := by unfold q_zp; rw [if_neg (by omega), u3]
  have hC := CSh_1 (v := S 119 + 1) h1 cS_0_13 (by omega) (by omega) (by rw [z3]; exact w.1) ha
  simp (disch := omega) only [e48_42, e48_42N, e48_43, e48_44, e48_47, e48_48, e48_49, e48_52, true_or, m_psh_s, m_psh_n, m_kl_i, m_kl_f, m_kl_r, m_kl_n, m_kl_j, m_kl_l, m_kl_d, c_i, c_f, c_r, c_n, List.length_nil, List.length_cons, true_and, and_true, Nat.reduceAdd, Nat.reduceLeDiff, Nat.reduceSub, Nat.reduceEqDiff, Nat.reduceLT, ge_iff_le, gt_iff_lt, n_lit, m_in, m_nar0, m_nar1, and_self, not_false_eq_true, not_true_eq_false, ne_eq, reduceIte, ite_self, Nat.reduceMul, Nat.reduceDiv, Nat.reduceMod, Nat.reducePow, Nat.zero_add, Nat.add_zero, Nat.one_mul, Nat.mul_one, n_in, n_min, n_clamp, n_eq_t, n_eq_f, n_eq, n_le_t, n_le_f, n_le, n_lt_t, n_lt_f, n_lt, n_sub0, n_sublt, n_suble, n_negsub, m_up_hit, m_up_miss, m_row_hit, m_row_miss, n_eqm, n_meq, n_meqm, n_ltm, n_lem, n_mlt, n_mle, n_sub, n_div, n_and1, n_shl, n_shr, n_inc, n_mul, n_rem, z_lt, z_le, z_nlt, z_nle, Nat.not_lt_zero, Nat.le_zero_eq, Nat.zero_le, if_true, if_false, hs0, hs1, hs2, hs3, hs4, hs5, hs6, hs7, hs8, hs9, hs10, hs11, hs12, hs13, hs14, hs15, hs16, hs17, hs18, hs19, hs20, hs21, hs22, hs23, hs24, hs25, hs26, h119]
  refine hQ _ hC (Off_trans (Off_trans (fun x hx => ⟨q_dcp_off (by omega), rfl, rfl⟩) (Off_I (by omega) (by omega))) (Off_trans h2 (Off_I (by omega) (by omega))))
end DAYS
