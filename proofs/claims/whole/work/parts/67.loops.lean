section LOOPS
variable {lay : mL} {d a n n' : Nat} {I I' : mI} {F F' : mF} {R R' : mR} {Q : mP}
theorem l_aside (hl : ML lay R) (j : Nat) : ∀ (k : Nat) (I : mI), k + j = 124 → (∀ W : mI, (∀ i, k ≤ i → i < 124 → W 169 (i) = I 167 (i)) → (∀ x, x ≠ 169 → W x = I x) → (∀ i, (i < k ∨ 124 ≤ i) → W 169 i = I 169 i) → Ev lay d 98 26 [.ref 166, .int (nI 124)] [] W F R n Q) → Ev lay d 98 2 [.ref 166, .int (nI k)] [] I F R n Q := by
  obtain ⟨hm0, hm1, hm2, hm3, hm4, hm5, hm6, hm7, hm8, hm9, hm10, hm11, hm12, hm13, hm14, hm15, hm16, hm17, hm18, hm19, hm20, hm21, hm22, hm23, hm24, hm25, hm26⟩ := hl
  induction j with
  | zero =>
    intro k I hk hQ
    have hk2 : k = 124 := by omega
    subst hk2
    have key := hQ I (fun i h1 h2 => by omega) (fun _ _ => rfl) (fun _ _ => rfl)
    rw [e98_2]
    simp (disch := omega) only [e98_3, e98_5, e98_8, e98_8N, e98_9, e98_12, e98_13, e98_13N, e98_14, e98_17, e98_18, e98_19, e98_20, e98_23, true_or, m_psh_s, m_psh_n, m_kl_i, m_kl_f, m_kl_r, m_kl_n, m_kl_j, m_kl_l, m_kl_d, c_i, c_f, c_r, c_n, List.length_nil, List.length_cons, true_and, and_true, Nat.reduceAdd, Nat.reduceLeDiff, Nat.reduceSub, Nat.reduceEqDiff, Nat.reduceLT, ge_iff_le, gt_iff_lt, n_lit, m_in, m_nar0, m_nar1, and_self, not_false_eq_true, not_true_eq_false, ne_eq, reduceIte, ite_self, Nat.reduceMul, Nat.reduceDiv, Nat.reduceMod, Nat.reducePow, Nat.zero_add, Nat.add_zero, Nat.one_mul, Nat.mul_one, n_in, n_min, n_clamp, n_eq_t, n_eq_f, n_eq, n_le_t, n_le_f, n_le, n_lt_t, n_lt_f, n_lt, n_sub0, n_sublt, n_suble, n_negsub, m_up_hit, m_up_miss, m_row_hit, m_row_miss, n_eqm, n_meq, n_meqm, n_ltm, n_lem, n_mlt, n_mle, n_sub, n_div, n_and1, n_shl, n_shr, n_inc, n_mul, n_rem, z_lt, z_le, z_nlt, z_nle, Nat.not_lt_zero, Nat.le_zero_eq, Nat.zero_le, if_true, if_false]
    exact key
  | succ j ih =>
    intro k I hk hQ
    have key := ih (k + 1) (m_up I 169 (k) (I 167 (k))) (by omega) (fun W h1 h2 h3 => hQ W (fun i a1 a2 => by
      by_cases e : i = k
      · subst e
        rw [h3 _ (by omega), m_up_at]
      · rw [h1 i (by omega) a2, m_up_miss (by omega)]) (fun x hx => by rw [h2 x hx, m_up_off hx]) (fun i hi => by rw [h3 i (by omega), m_up_miss (by omega)]))
    rw [e98_2]
    simp (disch := omega) only [e98_3, e98_5, e98_8, e98_8N, e98_9, e98_12, e98_13, e98_13N, e98_14, e98_17, e98_18, e98_19, e98_20, e98_23, true_or, m_psh_s, m_psh_n, m_kl_i, m_kl_f, m_kl_r, m_kl_n, m_kl_j, m_kl_l, m_kl_d, c_i, c_f, c_r, c_n, List.length_nil, List.length_cons, true_and, and_true, Nat.reduceAdd, Nat.reduceLeDiff, Nat.reduceSub, Nat.reduceEqDiff, Nat.reduceLT, ge_iff_le, gt_iff_lt, n_lit, m_in, m_nar0, m_nar1, and_self, not_false_eq_true, not_true_eq_false, ne_eq, reduceIte, ite_self, Nat.reduceMul, Nat.reduceDiv, Nat.reduceMod, Nat.reducePow, Nat.zero_add, Nat.add_zero, Nat.one_mul, Nat.mul_one, n_in, n_min, n_clamp, n_eq_t, n_eq_f, n_eq, n_le_t, n_le_f, n_le, n_lt_t, n_lt_f, n_lt, n_sub0, n_sublt, n_suble, n_negsub, m_up_hit, m_up_miss, m_row_hit, m_row_miss, n_eqm, n_meq, n_meqm, n_ltm, n_lem, n_mlt, n_mle, n_sub, n_div, n_and1, n_shl, n_shr, n_inc, n_mul, n_rem, z_lt, z_le, z_nlt, z_nle, Nat.not_lt_zero, Nat.le_zero_eq, Nat.zero_le, if_true, if_false, hm0, hm1, hm2, hm3, hm4, hm5, hm6, hm7, hm8, hm9, hm10, hm11, hm12, hm13, hm14, hm15, hm16, hm17, hm18, hm19, hm20, hm21, hm22, hm23, hm24, hm25, hm26]
    exact key
theorem l_asideF (hl : ML lay R) (j : Nat) : ∀ (k : Nat) (F : mF), k + j = 16 → (∀ W : mF, (∀ i, k ≤ i → i < 16 → W 170 (i) = F 168 (i)) → (∀ x, x ≠ 170 → W x = F x) → (∀ i, (i < k ∨ 16 ≤ i) → W 170 i = F 170 i) → Ev lay d 98 52 [.ref 166, .int (nI 16)] [] I W R n Q) → Ev lay d 98 28 [.ref 166, .int (nI k)] [] I F R n Q := by
  obtain ⟨hm0, hm1, hm2, hm3, hm4, hm5, hm6, hm7, hm8, hm9, hm10, hm11, hm12, hm13, hm14, hm15, hm16, hm17, hm18, hm19, hm20, hm21, hm22, hm23, hm24, hm25, hm26⟩ := hl
  induction j with
  | zero =>
    intro k F hk hQ
    have hk2 : k = 16 := by omega
    subst hk2
    have key := hQ F (fun i h1 h2 => by omega) (fun _ _ => rfl) (fun _ _ => rfl)
    rw [e98_28]
    simp (disch := omega) only [e98_29, e98_31, e98_34, e98_34N, e98_35, e98_38, e98_39, e98_39N, e98_40, e98_43, e98_44, e98_45, e98_46, e98_49, true_or, m_psh_s, m_psh_n, m_kl_i, m_kl_f, m_kl_r, m_kl_n, m_kl_j, m_kl_l, m_kl_d, c_i, c_f, c_r, c_n, List.length_nil, List.length_cons, true_and, and_true, Nat.reduceAdd, Nat.reduceLeDiff, Nat.reduceSub, Nat.reduceEqDiff, Nat.reduceLT, ge_iff_le, gt_iff_lt, n_lit, m_in, m_nar0, m_nar1, and_self, not_false_eq_true, not_true_eq_false, ne_eq, reduceIte, ite_self, Nat.reduceMul, Nat.reduceDiv, Nat.reduceMod, Nat.reducePow, Nat.zero_add, Nat.add_zero, Nat.one_mul, Nat.mul_one, n_in, n_min, n_clamp, n_eq_t, n_eq_f, n_eq, n_le_t, n_le_f, n_le, n_lt_t, n_lt_f, n_lt, n_sub0, n_sublt, n_suble, n_negsub, m_up_hit, m_up_miss, m_row_hit, m_row_miss, n_eqm, n_meq, n_meqm, n_ltm, n_lem, n_mlt, n_mle, n_sub, n_div, n_and1, n_shl, n_shr, n_inc, n_mul, n_rem, z_lt, z_le, z_nlt, z_nle, Nat.not_lt_zero, Nat.le_zero_eq, Nat.zero_le, if_true, if_false]
    exact key
  | succ j ih =>
    intro k F hk hQ
    have key := ih (k + 1) (m_up F 170 (k) (F 168 (k))) (by omega) (fun W h1 h2 h3 => hQ W (fun i a1 a2 => by
      by_cases e : i = k
      · subst e
        rw [h3 _ (by omega), m_up_at]
      · rw [h1 i (by omega) a2, m_up_miss (by omega)]) (fun x hx => by rw [h2 x hx, m_up_off hx]) (fun i hi => by rw [h3 i (by omega), m_up_miss (by omega)]))
    rw [e98_28]
    simp (disch := omega) only [e98_29, e98_31, e98_34, e98_34N, e98_35, e98_38, e98_39, e98_39N, e98_40, e98_43, e98_44, e98_45, e98_46, e98_49, true_or, m_psh_s, m_psh_n, m_kl_i, m_kl_f, m_kl_r, m_kl_n, m_kl_j, m_kl_l, m_kl_d, c_i, c_f, c_r, c_n, List.length_nil, List.length_cons, true_and, and_true, Nat.reduceAdd, Nat.reduceLeDiff, Nat.reduceSub, Nat.reduceEqDiff, Nat.reduceLT, ge_iff_le, gt_iff_lt, n_lit, m_in, m_nar0, m_nar1, and_self, not_false_eq_true, not_true_eq_false, ne_eq, reduceIte, ite_self, Nat.reduceMul, Nat.reduceDiv, Nat.reduceMod, Nat.reducePow, Nat.zero_add, Nat.add_zero, Nat.one_mul, Nat.mul_one, n_in, n_min, n_clamp, n_eq_t, n_eq_f, n_eq, n_le_t, n_le_f, n_le, n_lt_t, n_lt_f, n_lt, n_sub0, n_sublt, n_suble, n_negsub, m_up_hit, m_up_miss, m_row_hit, m_row_miss, n_eqm, n_meq, n_meqm, n_ltm, n_lem, n_mlt, n_mle, n_sub, n_div, n_and1, n_shl, n_shr, n_inc, n_mul, n_rem, z_lt, z_le, z_nlt, z_nle, Nat.not_lt_zero, Nat.le_zero_eq, Nat.zero_le, if_true, if_false, hm0, hm1, hm2, hm3, hm4, hm5, hm6, hm7, hm8, hm9, hm10, hm11, hm12, hm13, hm14, hm15, hm16, hm17, hm18, hm19, hm20, hm21, hm22, hm23, hm24, hm25, hm26]
    exact key
theorem l_back (hl : ML lay R) (j : Nat) : ∀ (k : Nat) (I : mI), k + j = 124 → (∀ W : mI, (∀ i, k ≤ i → i < 124 → W 167 (i) = I 169 (i)) → (∀ x, x ≠ 167 → W x = I x) → (∀ i, (i < k ∨ 124 ≤ i) → W 167 i = I 167 i) → Ev lay d 150 26 [.ref 166, .int (nI 124)] [] W F R n Q) → Ev lay d 150 2 [.ref 166, .int (nI k)] [] I F R n Q := by
  obtain ⟨hm0, hm1, hm2, hm3, hm4, hm5, hm6, hm7, hm8, hm9, hm10, hm11, hm12, hm13, hm14, hm15, hm16, hm17, hm18, hm19, hm20, hm21, hm22, hm23, hm24, hm25, hm26⟩ := hl
  induction j with
  | zero =>
    intro k I hk hQ
    have hk2 : k = 124 := by omega
    subst hk2
    have key := hQ I (fun i h1 h2 => by omega) (fun _ _ => rfl) (fun _ _ => rfl)
    rw [e150_2]
    simp (disch := omega) only [e150_3, e150_5, e150_8, e150_8N, e150_9, e150_12, e150_13, e150_13N, e150_14, e150_17, e150_18, e150_19, e150_20, e150_23, true_or, m_psh_s, m_psh_n, m_kl_i, m_kl_f, m_kl_r, m_kl_n, m_kl_j, m_kl_l, m_kl_d, c_i, c_f, c_r, c_n, List.length_nil, List.length_cons, true_and, and_true, Nat.reduceAdd, Nat.reduceLeDiff, Nat.reduceSub, Nat.reduceEqDiff, Nat.reduceLT, ge_iff_le, gt_iff_lt, n_lit, m_in, m_nar0, m_nar1, and_self, not_false_eq_true, not_true_eq_false, ne_eq, reduceIte, ite_self, Nat.reduceMul, Nat.reduceDiv, Nat.reduceMod, Nat.reducePow, Nat.zero_add, Nat.add_zero, Nat.one_mul, Nat.mul_one, n_in, n_min, n_clamp, n_eq_t, n_eq_f, n_eq, n_le_t, n_le_f, n_le, n_lt_t, n_lt_f, n_lt, n_sub0, n_sublt, n_suble, n_negsub, m_up_hit, m_up_miss, m_row_hit, m_row_miss, n_eqm, n_meq, n_meqm, n_ltm, n_lem, n_mlt, n_mle, n_sub, n_div, n_and1, n_shl, n_shr, n_inc, n_mul, n_rem, z_lt, z_le, z_nlt, z_nle, Nat.not_lt_zero, Nat.le_zero_eq, Nat.zero_le, if_true, if_false]
    exact key
  | succ j ih =>
    intro k I hk hQ
    have key := ih (k + 1) (m_up I 167 (k) (I 169 (k))) (by omega) (fun W h1 h2 h3 => hQ W (fun i a1 a2 => by
      by_cases e : i = k
      · subst e
        rw [h3 _ (by omega), m_up_at]
      · rw [h1 i (by omega) a2, m_up_miss (by omega)]) (fun x hx => by rw [h2 x hx, m_up_off hx]) (fun i hi => by rw [h3 i (by omega), m_up_miss (by omega)]))
    rw [e150_2]
    simp (disch := omega) only [e150_3, e150_5, e150_8, e150_8N, e150_9, e150_12, e150_13, e150_13N, e150_14, e150_17, e150_18, e150_19, e150_20, e150_23, true_or, m_psh_s, m_psh_n, m_kl_i, m_kl_f, m_kl_r, m_kl_n, m_kl_j, m_kl_l, m_kl_d, c_i, c_f, c_r, c_n, List.length_nil, List.length_cons, true_and, and_true, Nat.reduceAdd, Nat.reduceLeDiff, Nat.reduceSub, Nat.reduceEqDiff, Nat.reduceLT, ge_iff_le, gt_iff_lt, n_lit, m_in, m_nar0, m_nar1, and_self, not_false_eq_true, not_true_eq_false, ne_eq, reduceIte, ite_self, Nat.reduceMul, Nat.reduceDiv, Nat.reduceMod, Nat.reducePow, Nat.zero_add, Nat.add_zero, Nat.one_mul, Nat.mul_one, n_in, n_min, n_clamp, n_eq_t, n_eq_f, n_eq, n_le_t, n_le_f, n_le, n_lt_t, n_lt_f, n_lt, n_sub0, n_sublt, n_suble, n_negsub, m_up_hit, m_up_miss, m_row_hit, m_row_miss, n_eqm, n_meq, n_meqm, n_ltm, n_lem, n_mlt, n_mle, n_sub, n_div, n_and1, n_shl, n_shr, n_inc, n_mul, n_rem, z_lt, z_le, z_nlt, z_nle, Nat.not_lt_zero, Nat.le_zero_eq, Nat.zero_le, if_true, if_false, hm0, hm1, hm2, hm3, hm4, hm5, hm6, hm7, hm8, hm9, hm10, hm11, hm12, hm13, hm14, hm15, hm16, hm17, hm18, hm19, hm20, hm21, hm22, hm23, hm24, hm25, hm26]
    exact key
theorem l_backF (hl : ML lay R) (j : Nat) : ∀ (k : Nat) (F : mF), k + j = 16 → (∀ W : mF, (∀ i, k ≤ i → i < 16 → W 168 (i) = F 170 (i)) → (∀ x, x ≠ 168 → W x = F x) → (∀ i, (i < k ∨ 16 ≤ i) → W 168 i = F 168 i) → Ev lay d 150 52 [.ref 166, .int (nI 16)] [] I W R n Q) → Ev lay d 150 28 [.ref 166, .int (nI k)] [] I F R n Q := by
  obtain ⟨hm0, hm1, hm2, hm3, hm4, hm5, hm6, hm7, hm8, hm9, hm10, hm11, hm12, hm13, hm14, hm15, hm16, hm17, hm18, hm19, hm20, hm21, hm22, hm23, hm24, hm25, hm26⟩ := hl
  induction j with
  | zero =>
    intro k F hk hQ
    have hk2 : k = 16 := by omega
    subst hk2
    have key := hQ F (fun i h1 h2 => by omega) (fun _ _ => rfl) (fun _ _ => rfl)
    rw [e150_28]
    simp (disch := omega) only [e150_29, e150_31, e150_34, e150_34N, e150_35, e150_38, e150_39, e150_39N, e150_40, e150_43, e150_44, e150_45, e150_46, e150_49, true_or, m_psh_s, m_psh_n, m_kl_i, m_kl_f, m_kl_r, m_kl_n, m_kl_j, m_kl_l, m_kl_d, c_i, c_f, c_r, c_n, List.length_nil, List.length_cons, true_and, and_true, Nat.reduceAdd, Nat.reduceLeDiff, Nat.reduceSub, Nat.reduceEqDiff, Nat.reduceLT, ge_iff_le, gt_iff_lt, n_lit, m_in, m_nar0, m_nar1, and_self, not_false_eq_true, not_true_eq_false, ne_eq, reduceIte, ite_self, Nat.reduceMul, Nat.reduceDiv, Nat.reduceMod, Nat.reducePow, Nat.zero_add, Nat.add_zero, Nat.one_mul, Nat.mul_one, n_in, n_min, n_clamp, n_eq_t, n_eq_f, n_eq, n_le_t, n_le_f, n_le, n_lt_t, n_lt_f, n_lt, n_sub0, n_sublt, n_suble, n_negsub, m_up_hit, m_up_miss, m_row_hit, m_row_miss, n_eqm, n_meq, n_meqm, n_ltm, n_lem, n_mlt, n_mle, n_sub, n_div, n_and1, n_shl, n_shr, n_inc, n_mul, n_rem, z_lt, z_le, z_nlt, z_nle, Nat.not_lt_zero, Nat.le_zero_eq, Nat.zero_le, if_true, if_false]
    exact key
  | succ j ih =>
    intro k F hk hQ
    have key := ih (k + 1) (m_up F 168 (k) (F 170 (k))) (by omega) (fun W h1 h2 h3 => hQ W (fun i a1 a2 => by
      by_cases e : i = k
      · subst e
        rw [h3 _ (by omega), m_up_at]
      · rw [h1 i (by omega) a2, m_up_miss (by omega)]) (fun x hx => by rw [h2 x hx, m_up_off hx]) (fun i hi => by rw [h3 i (by omega), m_up_miss (by omega)]))
    rw [e150_28]
    simp (disch := omega) only [e150_29, e150_31, e150_34, e150_34N, e150_35, e150_38, e150_39, e150_39N, e150_40, e150_43, e150_44, e150_45, e150_46, e150_49, true_or, m_psh_s, m_psh_n, m_kl_i, m_kl_f, m_kl_r, m_kl_n, m_kl_j, m_kl_l, m_kl_d, c_i, c_f, c_r, c_n, List.length_nil, List.length_cons, true_and, and_true, Nat.reduceAdd, Nat.reduceLeDiff, Nat.reduceSub, Nat.reduceEqDiff, Nat.reduceLT, ge_iff_le, gt_iff_lt, n_lit, m_in, m_nar0, m_nar1, and_self, not_false_eq_true, not_true_eq_false, ne_eq, reduceIte, ite_self, Nat.reduceMul, Nat.reduceDiv, Nat.reduceMod, Nat.reducePow, Nat.zero_add, Nat.add_zero, Nat.one_mul, Nat.mul_one, n_in, n_min, n_clamp, n_eq_t, n_eq_f, n_eq, n_le_t, n_le_f, n_le, n_lt_t, n_lt_f, n_lt, n_sub0, n_sublt, n_suble, n_negsub, m_up_hit, m_up_miss, m_row_hit, m_row_miss, n_eqm, n_meq, n_meqm, n_ltm, n_lem, n_mlt, n_mle, n_sub, n_div, n_and1, n_shl, n_shr, n_inc, n_mul, n_rem, z_lt, z_le, z_nlt, z_nle, Nat.not_lt_zero, Nat.le_zero_eq, Nat.zero_le, if_true, if_false, hm0, hm1, hm2, hm3, hm4, hm5, hm6, hm7, hm8, hm9, hm10, hm11, hm12, hm13, hm14, hm15, hm16, hm17, hm18, hm19, hm20, hm21, hm22, hm23, hm24, hm25, hm26]
    exact key
theorem l_shift (hl : ML lay R) (j : Nat) : ∀ (k : Nat) (I : mI), k + j = 620 → (∀ W : mI, (∀ i, k ≤ i → i < 620 → W 171 (i) = I 171 (i + 124)) → (∀ x, x ≠ 171 → W x = I x) → (∀ i, (i < k ∨ 620 ≤ i) → W 171 i = I 171 i) → Ev lay d 103 39 [.ref 166, .int (nI 620)] [] W F R n Q) → Ev lay d 103 11 [.ref 166, .int (nI k)] [] I F R n Q := by
  obtain ⟨hm0, hm1, hm2, hm3, hm4, hm5, hm6, hm7, hm8, hm9, hm10, hm11, hm12, hm13, hm14, hm15, hm16, hm17, hm18, hm19, hm20, hm21, hm22, hm23, hm24, hm25, hm26⟩ := hl
  induction j with
  | zero =>
    intro k I hk hQ
    have hk2 : k = 620 := by omega
    subst hk2
    have key := hQ I (fun i h1 h2 => by omega) (fun _ _ => rfl) (fun _ _ => rfl)
    rw [e103_11]
    simp (disch := omega) only [e103_12, e103_15, e103_18, e103_18N, e103_19, e103_22, e103_23, e103_23N, e103_24, e103_27, e103_28, e103_30, e103_31, e103_32, e103_33, e103_36, true_or, m_psh_s, m_psh_n, m_kl_i, m_kl_f, m_kl_r, m_kl_n, m_kl_j, m_kl_l, m_kl_d, c_i, c_f, c_r, c_n, List.length_nil, List.length_cons, true_and, and_true, Nat.reduceAdd, Nat.reduceLeDiff, Nat.reduceSub, Nat.reduceEqDiff, Nat.reduceLT, ge_iff_le, gt_iff_lt, n_lit, m_in, m_nar0, m_nar1, and_self, not_false_eq_true, not_true_eq_false, ne_eq, reduceIte, ite_self, Nat.reduceMul, Nat.reduceDiv, Nat.reduceMod, Nat.reducePow, Nat.zero_add, Nat.add_zero, Nat.one_mul, Nat.mul_one, n_in, n_min, n_clamp, n_eq_t, n_eq_f, n_eq, n_le_t, n_le_f, n_le, n_lt_t, n_lt_f, n_lt, n_sub0, n_sublt, n_suble, n_negsub, m_up_hit, m_up_miss, m_row_hit, m_row_miss, n_eqm, n_meq, n_meqm, n_ltm, n_lem, n_mlt, n_mle, n_sub, n_div, n_and1, n_shl, n_shr, n_inc, n_mul, n_rem, z_lt, z_le, z_nlt, z_nle, Nat.not_lt_zero, Nat.le_zero_eq, Nat.zero_le, if_true, if_false]
    exact key
  | succ j ih =>
    intro k I hk hQ
    have key := ih (k + 1) (m_up I 171 (k) (I 171 (k + 124))) (by omega) (fun W h1 h2 h3 => hQ W (fun i a1 a2 => by
      by_cases e : i = k
      · subst e
        rw [h3 _ (by omega), m_up_at]
      · rw [h1 i (by omega) a2, m_up_miss (by omega)]) (fun x hx => by rw [h2 x hx, m_up_off hx]) (fun i hi => by rw [h3 i (by omega), m_up_miss (by omega)]))
    rw [e103_11]
    simp (disch := omega) only [e103_12, e103_15, e103_18, e103_18N, e103_19, e103_22, e103_23, e103_23N, e103_24, e103_27, e103_28, e103_30, e103_31, e103_32, e103_33, e103_36, true_or, m_psh_s, m_psh_n, m_kl_i, m_kl_f, m_kl_r, m_kl_n, m_kl_j, m_kl_l, m_kl_d, c_i, c_f, c_r, c_n, List.length_nil, List.length_cons, true_and, and_true, Nat.reduceAdd, Nat.reduceLeDiff, Nat.reduceSub, Nat.reduceEqDiff, Nat.reduceLT, ge_iff_le, gt_iff_lt, n_lit, m_in, m_nar0, m_nar1, and_self, not_false_eq_true, not_true_eq_false, ne_eq, reduceIte, ite_self, Nat.reduceMul, Nat.reduceDiv, Nat.reduceMod, Nat.reducePow, Nat.zero_add, Nat.add_zero, Nat.one_mul, Nat.mul_one, n_in, n_min, n_clamp, n_eq_t, n_eq_f, n_eq, n_le_t, n_le_f, n_le, n_lt_t, n_lt_f, n_lt, n_sub0, n_sublt, n_suble, n_negsub, m_up_hit, m_up_miss, m_row_hit, m_row_miss, n_eqm, n_meq, n_meqm, n_ltm, n_lem, n_mlt, n_mle, n_sub, n_div, n_and1, n_shl, n_shr, n_inc, n_mul, n_rem, z_lt, z_le, z_nlt, z_nle, Nat.not_lt_zero, Nat.le_zero_eq, Nat.zero_le, if_true, if_false, hm0, hm1, hm2, hm3, hm4, hm5, hm6, hm7, hm8, hm9, hm10, hm11, hm12, hm13, hm14, hm15, hm16, hm17, hm18, hm19, hm20, hm21, hm22, hm23, hm24, hm25, hm26]
    exact key
theorem l_shiftF (hl : ML lay R) (j : Nat) : ∀ (k : Nat) (F : mF), k + j = 80 → (∀ W : mF, (∀ i, k ≤ i → i < 80 → W 172 (i) = F 172 (i + 16)) → (∀ x, x ≠ 172 → W x = F x) → (∀ i, (i < k ∨ 80 ≤ i) → W 172 i = F 172 i) → Ev lay d 103 68 [.ref 166, .int (nI 80)] [] I W R n Q) → Ev lay d 103 41 [.ref 166, .int (nI k)] [] I F R n Q := by
  obtain ⟨hm0, hm1, hm2, hm3, hm4, hm5, hm6, hm7, hm8, hm9, hm10, hm11, hm12, hm13, hm14, hm15, hm16, hm17, hm18, hm19, hm20, hm21, hm22, hm23, hm24, hm25, hm26⟩ := hl
  induction j with
  | zero =>
    intro k F hk hQ
    have hk2 : k = 80 := by omega
    subst hk2
    have key := hQ F (fun i h1 h2 => by omega) (fun _ _ => rfl) (fun _ _ => rfl)
    rw [e103_41]
    simp (disch := omega) only [e103_42, e103_44, e103_47, e103_47N, e103_48, e103_51, e103_52, e103_52N, e103_53, e103_56, e103_57, e103_59, e103_60, e103_61, e103_62, e103_65, true_or, m_psh_s, m_psh_n, m_kl_i, m_kl_f, m_kl_r, m_kl_n, m_kl_j, m_kl_l, m_kl_d, c_i, c_f, c_r, c_n, List.length_nil, List.length_cons, true_and, and_true, Nat.reduceAdd, Nat.reduceLeDiff, Nat.reduceSub, Nat.reduceEqDiff, Nat.reduceLT, ge_iff_le, gt_iff_lt, n_lit, m_in, m_nar0, m_nar1, and_self, not_false_eq_true, not_true_eq_false, ne_eq, reduceIte, ite_self, Nat.reduceMul, Nat.reduceDiv, Nat.reduceMod, Nat.reducePow, Nat.zero_add, Nat.add_zero, Nat.one_mul, Nat.mul_one, n_in, n_min, n_clamp, n_eq_t, n_eq_f, n_eq, n_le_t, n_le_f, n_le, n_lt_t, n_lt_f, n_lt, n_sub0, n_sublt, n_suble, n_negsub, m_up_hit, m_up_miss, m_row_hit, m_row_miss, n_eqm, n_meq, n_meqm, n_ltm, n_lem, n_mlt, n_mle, n_sub, n_div, n_and1, n_shl, n_shr, n_inc, n_mul, n_rem, z_lt, z_le, z_nlt, z_nle, Nat.not_lt_zero, Nat.le_zero_eq, Nat.zero_le, if_true, if_false]
    exact key
  | succ j ih =>
    intro k F hk hQ
    have key := ih (k + 1) (m_up F 172 (k) (F 172 (k + 16))) (by omega) (fun W h1 h2 h3 => hQ W (fun i a1 a2 => by
      by_cases e : i = k
      · subst e
        rw [h3 _ (by omega), m_up_at]
      · rw [h1 i (by omega) a2, m_up_miss (by omega)]) (fun x hx => by rw [h2 x hx, m_up_off hx]) (fun i hi => by rw [h3 i (by omega), m_up_miss (by omega)]))
    rw [e103_41]
    simp (disch := omega) only [e103_42, e103_44, e103_47, e103_47N, e103_48, e103_51, e103_52, e103_52N, e103_53, e103_56, e103_57, e103_59, e103_60, e103_61, e103_62, e103_65, true_or, m_psh_s, m_psh_n, m_kl_i, m_kl_f, m_kl_r, m_kl_n, m_kl_j, m_kl_l, m_kl_d, c_i, c_f, c_r, c_n, List.length_nil, List.length_cons, true_and, and_true, Nat.reduceAdd, Nat.reduceLeDiff, Nat.reduceSub, Nat.reduceEqDiff, Nat.reduceLT, ge_iff_le, gt_iff_lt, n_lit, m_in, m_nar0, m_nar1, and_self, not_false_eq_true, not_true_eq_false, ne_eq, reduceIte, ite_self, Nat.reduceMul, Nat.reduceDiv, Nat.reduceMod, Nat.reducePow, Nat.zero_add, Nat.add_zero, Nat.one_mul, Nat.mul_one, n_in, n_min, n_clamp, n_eq_t, n_eq_f, n_eq, n_le_t, n_le_f, n_le, n_lt_t, n_lt_f, n_lt, n_sub0, n_sublt, n_suble, n_negsub, m_up_hit, m_up_miss, m_row_hit, m_row_miss, n_eqm, n_meq, n_meqm, n_ltm, n_lem, n_mlt, n_mle, n_sub, n_div, n_and1, n_shl, n_shr, n_inc, n_mul, n_rem, z_lt, z_le, z_nlt, z_nle, Nat.not_lt_zero, Nat.le_zero_eq, Nat.zero_le, if_true, if_false, hm0, hm1, hm2, hm3, hm4, hm5, hm6, hm7, hm8, hm9, hm10, hm11, hm12, hm13, hm14, hm15, hm16, hm17, hm18, hm19, hm20, hm21, hm22, hm23, hm24, hm25, hm26]
    exact key
theorem l_rec (hl : ML lay R) {K : Nat} (hK : K ≤ 5) (j : Nat) : ∀ (k : Nat) (I : mI), k + j = 124 → I 166 6 = nI K → (∀ W : mI, (∀ i, k ≤ i → i < 124 → W 171 (124 * K + i) = I 169 (i)) → (∀ x, x ≠ 171 → W x = I x) → (∀ i, (i < 124 * K + k ∨ 124 * K + 124 ≤ i) → W 171 i = I 171 i) → Ev lay d 103 112 [.ref 166, .int (nI 124)] [] W F R n Q) → Ev lay d 103 80 [.ref 166, .int (nI k)] [] I F R n Q := by
  obtain ⟨hm0, hm1, hm2, hm3, hm4, hm5, hm6, hm7, hm8, hm9, hm10, hm11, hm12, hm13, hm14, hm15, hm16, hm17, hm18, hm19, hm20, hm21, hm22, hm23, hm24, hm25, hm26⟩ := hl
  induction j with
  | zero =>
    intro k I hk h6 hQ
    have hk2 : k = 124 := by omega
    subst hk2
    have key := hQ I (fun i h1 h2 => by omega) (fun _ _ => rfl) (fun _ _ => rfl)
    rw [e103_80]
    simp (disch := omega) only [e103_81, e103_83, e103_86, e103_86N, e103_87, e103_90, e103_92, e103_92N, e103_93, e103_96, e103_97, e103_98, e103_99, e103_99N, e103_100, e103_103, e103_104, e103_105, e103_106, e103_109, true_or, m_psh_s, m_psh_n, m_kl_i, m_kl_f, m_kl_r, m_kl_n, m_kl_j, m_kl_l, m_kl_d, c_i, c_f, c_r, c_n, List.length_nil, List.length_cons, true_and, and_true, Nat.reduceAdd, Nat.reduceLeDiff, Nat.reduceSub, Nat.reduceEqDiff, Nat.reduceLT, ge_iff_le, gt_iff_lt, n_lit, m_in, m_nar0, m_nar1, and_self, not_false_eq_true, not_true_eq_false, ne_eq, reduceIte, ite_self, Nat.reduceMul, Nat.reduceDiv, Nat.reduceMod, Nat.reducePow, Nat.zero_add, Nat.add_zero, Nat.one_mul, Nat.mul_one, n_in, n_min, n_clamp, n_eq_t, n_eq_f, n_eq, n_le_t, n_le_f, n_le, n_lt_t, n_lt_f, n_lt, n_sub0, n_sublt, n_suble, n_negsub, m_up_hit, m_up_miss, m_row_hit, m_row_miss, n_eqm, n_meq, n_meqm, n_ltm, n_lem, n_mlt, n_mle, n_sub, n_div, n_and1, n_shl, n_shr, n_inc, n_mul, n_rem, z_lt, z_le, z_nlt, z_nle, Nat.not_lt_zero, Nat.le_zero_eq, Nat.zero_le, if_true, if_false]
    exact key
  | succ j ih =>
    intro k I hk h6 hQ
    have key := ih (k + 1) (m_up I 171 (124 * K + k) (I 169 (k))) (by omega) (by rw [m_up_miss (by omega)]; exact h6) (fun W h1 h2 h3 => hQ W (fun i a1 a2 => by
      by_cases e : i = k
      · subst e
        rw [h3 _ (by omega), m_up_at]
      · rw [h1 i (by omega) a2, m_up_miss (by omega)]) (fun x hx => by rw [h2 x hx, m_up_off hx]) (fun i hi => by rw [h3 i (by omega), m_up_miss (by omega)]))
    rw [e103_80]
    simp (disch := omega) only [e103_81, e103_83, e103_86, e103_86N, e103_87, e103_90, e103_92, e103_92N, e103_93, e103_96, e103_97, e103_98, e103_99, e103_99N, e103_100, e103_103, e103_104, e103_105, e103_106, e103_109, true_or, m_psh_s, m_psh_n, m_kl_i, m_kl_f, m_kl_r, m_kl_n, m_kl_j, m_kl_l, m_kl_d, c_i, c_f, c_r, c_n, List.length_nil, List.length_cons, true_and, and_true, Nat.reduceAdd, Nat.reduceLeDiff, Nat.reduceSub, Nat.reduceEqDiff, Nat.reduceLT, ge_iff_le, gt_iff_lt, n_lit, m_in, m_nar0, m_nar1, and_self, not_false_eq_true, not_true_eq_false, ne_eq, reduceIte, ite_self, Nat.reduceMul, Nat.reduceDiv, Nat.reduceMod, Nat.reducePow, Nat.zero_add, Nat.add_zero, Nat.one_mul, Nat.mul_one, n_in, n_min, n_clamp, n_eq_t, n_eq_f, n_eq, n_le_t, n_le_f, n_le, n_lt_t, n_lt_f, n_lt, n_sub0, n_sublt, n_suble, n_negsub, m_up_hit, m_up_miss, m_row_hit, m_row_miss, n_eqm, n_meq, n_meqm, n_ltm, n_lem, n_mlt, n_mle, n_sub, n_div, n_and1, n_shl, n_shr, n_inc, n_mul, n_rem, z_lt, z_le, z_nlt, z_nle, Nat.not_lt_zero, Nat.le_zero_eq, Nat.zero_le, if_true, if_false, hm0, hm1, hm2, hm3, hm4, hm5, hm6, hm7, hm8, hm9, hm10, hm11, hm12, hm13, hm14, hm15, hm16, hm17, hm18, hm19, hm20, hm21, hm22, hm23, hm24, hm25, hm26, h6]
    exact key
theorem l_recF (hl : ML lay R) {K : Nat} (hK : K ≤ 5) (h6 : I 166 6 = nI K) (j : Nat) : ∀ (k : Nat) (F : mF), k + j = 16 → (∀ W : mF, (∀ i, k ≤ i → i < 16 → W 172 (16 * K + i) = F 170 (i)) → (∀ x, x ≠ 172 → W x = F x) → (∀ i, (i < 16 * K + k ∨ 16 * K + 16 ≤ i) → W 172 i = F 172 i) → Ev lay d 103 146 [.ref 166, .int (nI 16)] [] I W R n Q) → Ev lay d 103 114 [.ref 166, .int (nI k)] [] I F R n Q := by
  obtain ⟨hm0, hm1, hm2, hm3, hm4, hm5, hm6, hm7, hm8, hm9, hm10, hm11, hm12, hm13, hm14, hm15, hm16, hm17, hm18, hm19, hm20, hm21, hm22, hm23, hm24, hm25, hm26⟩ := hl
  induction j with
  | zero =>
    intro k F hk hQ
    have hk2 : k = 16 := by omega
    subst hk2
    have key := hQ F (fun i h1 h2 => by omega) (fun _ _ => rfl) (fun _ _ => rfl)
    rw [e103_114]
    simp (disch := omega) only [e103_115, e103_117, e103_120, e103_120N, e103_121, e103_124, e103_126, e103_126N, e103_127, e103_130, e103_131, e103_132, e103_133, e103_133N, e103_134, e103_137, e103_138, e103_139, e103_140, e103_143, true_or, m_psh_s, m_psh_n, m_kl_i, m_kl_f, m_kl_r, m_kl_n, m_kl_j, m_kl_l, m_kl_d, c_i, c_f, c_r, c_n, List.length_nil, List.length_cons, true_and, and_true, Nat.reduceAdd, Nat.reduceLeDiff, Nat.reduceSub, Nat.reduceEqDiff, Nat.reduceLT, ge_iff_le, gt_iff_lt, n_lit, m_in, m_nar0, m_nar1, and_self, not_false_eq_true, not_true_eq_false, ne_eq, reduceIte, ite_self, Nat.reduceMul, Nat.reduceDiv, Nat.reduceMod, Nat.reducePow, Nat.zero_add, Nat.add_zero, Nat.one_mul, Nat.mul_one, n_in, n_min, n_clamp, n_eq_t, n_eq_f, n_eq, n_le_t, n_le_f, n_le, n_lt_t, n_lt_f, n_lt, n_sub0, n_sublt, n_suble, n_negsub, m_up_hit, m_up_miss, m_row_hit, m_row_miss, n_eqm, n_meq, n_meqm, n_ltm, n_lem, n_mlt, n_mle, n_sub, n_div, n_and1, n_shl, n_shr, n_inc, n_mul, n_rem, z_lt, z_le, z_nlt, z_nle, Nat.not_lt_zero, Nat.le_zero_eq, Nat.zero_le, if_true, if_false]
    exact key
  | succ j ih =>
    intro k F hk hQ
    have key := ih (k + 1) (m_up F 172 (16 * K + k) (F 170 (k))) (by omega) (fun W h1 h2 h3 => hQ W (fun i a1 a2 => by
      by_cases e : i = k
      · subst e
        rw [h3 _ (by omega), m_up_at]
      · rw [h1 i (by omega) a2, m_up_miss (by omega)]) (fun x hx => by rw [h2 x hx, m_up_off hx]) (fun i hi => by rw [h3 i (by omega), m_up_miss (by omega)]))
    rw [e103_114]
    simp (disch := omega) only [e103_115, e103_117, e103_120, e103_120N, e103_121, e103_124, e103_126, e103_126N, e103_127, e103_130, e103_131, e103_132, e103_133, e103_133N, e103_134, e103_137, e103_138, e103_139, e103_140, e103_143, true_or, m_psh_s, m_psh_n, m_kl_i, m_kl_f, m_kl_r, m_kl_n, m_kl_j, m_kl_l, m_kl_d, c_i, c_f, c_r, c_n, List.length_nil, List.length_cons, true_and, and_true, Nat.reduceAdd, Nat.reduceLeDiff, Nat.reduceSub, Nat.reduceEqDiff, Nat.reduceLT, ge_iff_le, gt_iff_lt, n_lit, m_in, m_nar0, m_nar1, and_self, not_false_eq_true, not_true_eq_false, ne_eq, reduceIte, ite_self, Nat.reduceMul, Nat.reduceDiv, Nat.reduceMod, Nat.reducePow, Nat.zero_add, Nat.add_zero, Nat.one_mul, Nat.mul_one, n_in, n_min, n_clamp, n_eq_t, n_eq_f, n_eq, n_le_t, n_le_f, n_le, n_lt_t, n_lt_f, n_lt, n_sub0, n_sublt, n_suble, n_negsub, m_up_hit, m_up_miss, m_row_hit, m_row_miss, n_eqm, n_meq, n_meqm, n_ltm, n_lem, n_mlt, n_mle, n_sub, n_div, n_and1, n_shl, n_shr, n_inc, n_mul, n_rem, z_lt, z_le, z_nlt, z_nle, Nat.not_lt_zero, Nat.le_zero_eq, Nat.zero_le, if_true, if_false, hm0, hm1, hm2, hm3, hm4, hm5, hm6, hm7, hm8, hm9, hm10, hm11, hm12, hm13, hm14, hm15, hm16, hm17, hm18, hm19, hm20, hm21, hm22, hm23, hm24, hm25, hm26, h6]
    exact key
theorem l_undo (hl : ML lay R) {K : Nat} (hK : K ≤ 5) (j : Nat) : ∀ (k : Nat) (I : mI), k + j = 124 → I 166 6 = nI K → (∀ W : mI, (∀ i, k ≤ i → i < 124 → W 167 (i) = I 171 (124 * K + i)) → (∀ x, x ≠ 167 → W x = I x) → (∀ i, (i < k ∨ 124 ≤ i) → W 167 i = I 167 i) → Ev lay d 164 54 [.ref 166, .int (nI 124)] [] W F R n Q) → Ev lay d 164 22 [.ref 166, .int (nI k)] [] I F R n Q := by
  obtain ⟨hm0, hm1, hm2, hm3, hm4, hm5, hm6, hm7, hm8, hm9, hm10, hm11, hm12, hm13, hm14, hm15, hm16, hm17, hm18, hm19, hm20, hm21, hm22, hm23, hm24, hm25, hm26⟩ := hl
  induction j with
  | zero =>
    intro k I hk h6 hQ
    have hk2 : k = 124 := by omega
    subst hk2
    have key := hQ I (fun i h1 h2 => by omega) (fun _ _ => rfl) (fun _ _ => rfl)
    rw [e164_22]
    simp (disch := omega) only [e164_23, e164_25, e164_28, e164_28N, e164_29, e164_32, e164_33, e164_33N, e164_34, e164_37, e164_39, e164_39N, e164_40, e164_43, e164_44, e164_45, e164_46, e164_47, e164_48, e164_51, true_or, m_psh_s, m_psh_n, m_kl_i, m_kl_f, m_kl_r, m_kl_n, m_kl_j, m_kl_l, m_kl_d, c_i, c_f, c_r, c_n, List.length_nil, List.length_cons, true_and, and_true, Nat.reduceAdd, Nat.reduceLeDiff, Nat.reduceSub, Nat.reduceEqDiff, Nat.reduceLT, ge_iff_le, gt_iff_lt, n_lit, m_in, m_nar0, m_nar1, and_self, not_false_eq_true, not_true_eq_false, ne_eq, reduceIte, ite_self, Nat.reduceMul, Nat.reduceDiv, Nat.reduceMod, Nat.reducePow, Nat.zero_add, Nat.add_zero, Nat.one_mul, Nat.mul_one, n_in, n_min, n_clamp, n_eq_t, n_eq_f, n_eq, n_le_t, n_le_f, n_le, n_lt_t, n_lt_f, n_lt, n_sub0, n_sublt, n_suble, n_negsub, m_up_hit, m_up_miss, m_row_hit, m_row_miss, n_eqm, n_meq, n_meqm, n_ltm, n_lem, n_mlt, n_mle, n_sub, n_div, n_and1, n_shl, n_shr, n_inc, n_mul, n_rem, z_lt, z_le, z_nlt, z_nle, Nat.not_lt_zero, Nat.le_zero_eq, Nat.zero_le, if_true, if_false]
    exact key
  | succ j ih =>
    intro k I hk h6 hQ
    have key := ih (k + 1) (m_up I 167 (k) (I 171 (124 * K + k))) (by omega) (by rw [m_up_miss (by omega)]; exact h6) (fun W h1 h2 h3 => hQ W (fun i a1 a2 => by
      by_cases e : i = k
      · subst e
        rw [h3 _ (by omega), m_up_at]
      · rw [h1 i (by omega) a2, m_up_miss (by omega)]) (fun x hx => by rw [h2 x hx, m_up_off hx]) (fun i hi => by rw [h3 i (by omega), m_up_miss (by omega)]))
    rw [e164_22]
    simp (disch := omega) only [e164_23, e164_25, e164_28, e164_28N, e164_29, e164_32, e164_33, e164_33N, e164_34, e164_37, e164_39, e164_39N, e164_40, e164_43, e164_44, e164_45, e164_46, e164_47, e164_48, e164_51, true_or, m_psh_s, m_psh_n, m_kl_i, m_kl_f, m_kl_r, m_kl_n, m_kl_j, m_kl_l, m_kl_d, c_i, c_f, c_r, c_n, List.length_nil, List.length_cons, true_and, and_true, Nat.reduceAdd, Nat.reduceLeDiff, Nat.reduceSub, Nat.reduceEqDiff, Nat.reduceLT, ge_iff_le, gt_iff_lt, n_lit, m_in, m_nar0, m_nar1, and_self, not_false_eq_true, not_true_eq_false, ne_eq, reduceIte, ite_self, Nat.reduceMul, Nat.reduceDiv, Nat.reduceMod, Nat.reducePow, Nat.zero_add, Nat.add_zero, Nat.one_mul, Nat.mul_one, n_in, n_min, n_clamp, n_eq_t, n_eq_f, n_eq, n_le_t, n_le_f, n_le, n_lt_t, n_lt_f, n_lt, n_sub0, n_sublt, n_suble, n_negsub, m_up_hit, m_up_miss, m_row_hit, m_row_miss, n_eqm, n_meq, n_meqm, n_ltm, n_lem, n_mlt, n_mle, n_sub, n_div, n_and1, n_shl, n_shr, n_inc, n_mul, n_rem, z_lt, z_le, z_nlt, z_nle, Nat.not_lt_zero, Nat.le_zero_eq, Nat.zero_le, if_true, if_false, hm0, hm1, hm2, hm3, hm4, hm5, hm6, hm7, hm8, hm9, hm10, hm11, hm12, hm13, hm14, hm15, hm16, hm17, hm18, hm19, hm20, hm21, hm22, hm23, hm24, hm25, hm26, h6]
    exact key
theorem l_undoF (hl : ML lay R) {K : Nat} (hK : K ≤ 5) (h6 : I 166 6 = nI K) (j : Nat) : ∀ (k : Nat) (F : mF), k + j = 16 → (∀ W : mF, (∀ i, k ≤ i → i < 16 → W 168 (i) = F 172 (16 * K + i)) → (∀ x, x ≠ 168 → W x = F x) → (∀ i, (i < k ∨ 16 ≤ i) → W 168 i = F 168 i) → Ev lay d 164 88 [.ref 166, .int (nI 16)] [] I W R n Q) → Ev lay d 164 56 [.ref 166, .int (nI k)] [] I F R n Q := by
  obtain ⟨hm0, hm1, hm2, hm3, hm4, hm5, hm6, hm7, hm8, hm9, hm10, hm11, hm12, hm13, hm14, hm15, hm16, hm17, hm18, hm19, hm20, hm21, hm22, hm23, hm24, hm25, hm26⟩ := hl
  induction j with
  | zero =>
    intro k F hk hQ
    have hk2 : k = 16 := by omega
    subst hk2
    have key := hQ F (fun i h1 h2 => by omega) (fun _ _ => rfl) (fun _ _ => rfl)
    rw [e164_56]
    simp (disch := omega) only [e164_57, e164_59, e164_62, e164_62N, e164_63, e164_66, e164_67, e164_67N, e164_68, e164_71, e164_73, e164_73N, e164_74, e164_77, e164_78, e164_79, e164_80, e164_81, e164_82, e164_85, true_or, m_psh_s, m_psh_n, m_kl_i, m_kl_f, m_kl_r, m_kl_n, m_kl_j, m_kl_l, m_kl_d, c_i, c_f, c_r, c_n, List.length_nil, List.length_cons, true_and, and_true, Nat.reduceAdd, Nat.reduceLeDiff, Nat.reduceSub, Nat.reduceEqDiff, Nat.reduceLT, ge_iff_le, gt_iff_lt, n_lit, m_in, m_nar0, m_nar1, and_self, not_false_eq_true, not_true_eq_false, ne_eq, reduceIte, ite_self, Nat.reduceMul, Nat.reduceDiv, Nat.reduceMod, Nat.reducePow, Nat.zero_add, Nat.add_zero, Nat.one_mul, Nat.mul_one, n_in, n_min, n_clamp, n_eq_t, n_eq_f, n_eq, n_le_t, n_le_f, n_le, n_lt_t, n_lt_f, n_lt, n_sub0, n_sublt, n_suble, n_negsub, m_up_hit, m_up_miss, m_row_hit, m_row_miss, n_eqm, n_meq, n_meqm, n_ltm, n_lem, n_mlt, n_mle, n_sub, n_div, n_and1, n_shl, n_shr, n_inc, n_mul, n_rem, z_lt, z_le, z_nlt, z_nle, Nat.not_lt_zero, Nat.le_zero_eq, Nat.zero_le, if_true, if_false]
    exact key
  | succ j ih =>
    intro k F hk hQ
    have key := ih (k + 1) (m_up F 168 (k) (F 172 (16 * K + k))) (by omega) (fun W h1 h2 h3 => hQ W (fun i a1 a2 => by
      by_cases e : i = k
      · subst e
        rw [h3 _ (by omega), m_up_at]
      · rw [h1 i (by omega) a2, m_up_miss (by omega)]) (fun x hx => by rw [h2 x hx, m_up_off hx]) (fun i hi => by rw [h3 i (by omega), m_up_miss (by omega)]))
    rw [e164_56]
    simp (disch := omega) only [e164_57, e164_59, e164_62, e164_62N, e164_63, e164_66, e164_67, e164_67N, e164_68, e164_71, e164_73, e164_73N, e164_74, e164_77, e164_78, e164_79, e164_80, e164_81, e164_82, e164_85, true_or, m_psh_s, m_psh_n, m_kl_i, m_kl_f, m_kl_r, m_kl_n, m_kl_j, m_kl_l, m_kl_d, c_i, c_f, c_r, c_n, List.length_nil, List.length_cons, true_and, and_true, Nat.reduceAdd, Nat.reduceLeDiff, Nat.reduceSub, Nat.reduceEqDiff, Nat.reduceLT, ge_iff_le, gt_iff_lt, n_lit, m_in, m_nar0, m_nar1, and_self, not_false_eq_true, not_true_eq_false, ne_eq, reduceIte, ite_self, Nat.reduceMul, Nat.reduceDiv, Nat.reduceMod, Nat.reducePow, Nat.zero_add, Nat.add_zero, Nat.one_mul, Nat.mul_one, n_in, n_min, n_clamp, n_eq_t, n_eq_f, n_eq, n_le_t, n_le_f, n_le, n_lt_t, n_lt_f, n_lt, n_sub0, n_sublt, n_suble, n_negsub, m_up_hit, m_up_miss, m_row_hit, m_row_miss, n_eqm, n_meq, n_meqm, n_ltm, n_lem, n_mlt, n_mle, n_sub, n_div, n_and1, n_shl, n_shr, n_inc, n_mul, n_rem, z_lt, z_le, z_nlt, z_nle, Nat.not_lt_zero, Nat.le_zero_eq, Nat.zero_le, if_true, if_false, hm0, hm1, hm2, hm3, hm4, hm5, hm6, hm7, hm8, hm9, hm10, hm11, hm12, hm13, hm14, hm15, hm16, hm17, hm18, hm19, hm20, hm21, hm22, hm23, hm24, hm25, hm26, h6]
    exact key
theorem l_save (hl : ML lay R) {s : Nat} (hs : s < 2) (j : Nat) : ∀ (k : Nat) (I : mI), k + j = 124 → (∀ W : mI, (∀ i, k ≤ i → i < 124 → W 173 (124 * s + i) = I 167 (i)) → (∀ x, x ≠ 173 → W x = I x) → (∀ i, (i < 124 * s + k ∨ 124 * s + 124 ≤ i) → W 173 i = I 173 i) → Ev lay d 165 43 [.ref 166, .int (nI s), .int (nI 124)] [] W F R n Q) → Ev lay d 165 14 [.ref 166, .int (nI s), .int (nI k)] [] I F R n Q := by
  obtain ⟨hm0, hm1, hm2, hm3, hm4, hm5, hm6, hm7, hm8, hm9, hm10, hm11, hm12, hm13, hm14, hm15, hm16, hm17, hm18, hm19, hm20, hm21, hm22, hm23, hm24, hm25, hm26⟩ := hl
  induction j with
  | zero =>
    intro k I hk hQ
    have hk2 : k = 124 := by omega
    subst hk2
    have key := hQ I (fun i h1 h2 => by omega) (fun _ _ => rfl) (fun _ _ => rfl)
    rw [e165_14]
    simp (disch := omega) only [e165_15, e165_17, e165_20, e165_20N, e165_21, e165_24, e165_26, e165_27, e165_28, e165_29, e165_30, e165_30N, e165_31, e165_34, e165_35, e165_36, e165_37, e165_40, true_or, m_psh_s, m_psh_n, m_kl_i, m_kl_f, m_kl_r, m_kl_n, m_kl_j, m_kl_l, m_kl_d, c_i, c_f, c_r, c_n, List.length_nil, List.length_cons, true_and, and_true, Nat.reduceAdd, Nat.reduceLeDiff, Nat.reduceSub, Nat.reduceEqDiff, Nat.reduceLT, ge_iff_le, gt_iff_lt, n_lit, m_in, m_nar0, m_nar1, and_self, not_false_eq_true, not_true_eq_false, ne_eq, reduceIte, ite_self, Nat.reduceMul, Nat.reduceDiv, Nat.reduceMod, Nat.reducePow, Nat.zero_add, Nat.add_zero, Nat.one_mul, Nat.mul_one, n_in, n_min, n_clamp, n_eq_t, n_eq_f, n_eq, n_le_t, n_le_f, n_le, n_lt_t, n_lt_f, n_lt, n_sub0, n_sublt, n_suble, n_negsub, m_up_hit, m_up_miss, m_row_hit, m_row_miss, n_eqm, n_meq, n_meqm, n_ltm, n_lem, n_mlt, n_mle, n_sub, n_div, n_and1, n_shl, n_shr, n_inc, n_mul, n_rem, z_lt, z_le, z_nlt, z_nle, Nat.not_lt_zero, Nat.le_zero_eq, Nat.zero_le, if_true, if_false]
    exact key
  | succ j ih =>
    intro k I hk hQ
    have key := ih (k + 1) (m_up I 173 (124 * s + k) (I 167 (k))) (by omega) (fun W h1 h2 h3 => hQ W (fun i a1 a2 => by
      by_cases e : i = k
      · subst e
        rw [h3 _ (by omega), m_up_at]
      · rw [h1 i (by omega) a2, m_up_miss (by omega)]) (fun x hx => by rw [h2 x hx, m_up_off hx]) (fun i hi => by rw [h3 i (by omega), m_up_miss (by omega)]))
    rw [e165_14]
    simp (disch := omega) only [e165_15, e165_17, e165_20, e165_20N, e165_21, e165_24, e165_26, e165_27, e165_28, e165_29, e165_30, e165_30N, e165_31, e165_34, e165_35, e165_36, e165_37, e165_40, true_or, m_psh_s, m_psh_n, m_kl_i, m_kl_f, m_kl_r, m_kl_n, m_kl_j, m_kl_l, m_kl_d, c_i, c_f, c_r, c_n, List.length_nil, List.length_cons, true_and, and_true, Nat.reduceAdd, Nat.reduceLeDiff, Nat.reduceSub, Nat.reduceEqDiff, Nat.reduceLT, ge_iff_le, gt_iff_lt, n_lit, m_in, m_nar0, m_nar1, and_self, not_false_eq_true, not_true_eq_false, ne_eq, reduceIte, ite_self, Nat.reduceMul, Nat.reduceDiv, Nat.reduceMod, Nat.reducePow, Nat.zero_add, Nat.add_zero, Nat.one_mul, Nat.mul_one, n_in, n_min, n_clamp, n_eq_t, n_eq_f, n_eq, n_le_t, n_le_f, n_le, n_lt_t, n_lt_f, n_lt, n_sub0, n_sublt, n_suble, n_negsub, m_up_hit, m_up_miss, m_row_hit, m_row_miss, n_eqm, n_meq, n_meqm, n_ltm, n_lem, n_mlt, n_mle, n_sub, n_div, n_and1, n_shl, n_shr, n_inc, n_mul, n_rem, z_lt, z_le, z_nlt, z_nle, Nat.not_lt_zero, Nat.le_zero_eq, Nat.zero_le, if_true, if_false, hm0, hm1, hm2, hm3, hm4, hm5, hm6, hm7, hm8, hm9, hm10, hm11, hm12, hm13, hm14, hm15, hm16, hm17, hm18, hm19, hm20, hm21, hm22, hm23, hm24, hm25, hm26]
    exact key
theorem l_saveF (hl : ML lay R) {s : Nat} (hs : s < 2) (j : Nat) : ∀ (k : Nat) (F : mF), k + j = 16 → (∀ W : mF, (∀ i, k ≤ i → i < 16 → W 174 (16 * s + i) = F 168 (i)) → (∀ x, x ≠ 174 → W x = F x) → (∀ i, (i < 16 * s + k ∨ 16 * s + 16 ≤ i) → W 174 i = F 174 i) → Ev lay d 165 74 [.ref 166, .int (nI s), .int (nI 16)] [] I W R n Q) → Ev lay d 165 45 [.ref 166, .int (nI s), .int (nI k)] [] I F R n Q := by
  obtain ⟨hm0, hm1, hm2, hm3, hm4, hm5, hm6, hm7, hm8, hm9, hm10, hm11, hm12, hm13, hm14, hm15, hm16, hm17, hm18, hm19, hm20, hm21, hm22, hm23, hm24, hm25, hm26⟩ := hl
  induction j with
  | zero =>
    intro k F hk hQ
    have hk2 : k = 16 := by omega
    subst hk2
    have key := hQ F (fun i h1 h2 => by omega) (fun _ _ => rfl) (fun _ _ => rfl)
    rw [e165_45]
    simp (disch := omega) only [e165_46, e165_48, e165_51, e165_51N, e165_52, e165_55, e165_57, e165_58, e165_59, e165_60, e165_61, e165_61N, e165_62, e165_65, e165_66, e165_67, e165_68, e165_71, true_or, m_psh_s, m_psh_n, m_kl_i, m_kl_f, m_kl_r, m_kl_n, m_kl_j, m_kl_l, m_kl_d, c_i, c_f, c_r, c_n, List.length_nil, List.length_cons, true_and, and_true, Nat.reduceAdd, Nat.reduceLeDiff, Nat.reduceSub, Nat.reduceEqDiff, Nat.reduceLT, ge_iff_le, gt_iff_lt, n_lit, m_in, m_nar0, m_nar1, and_self, not_false_eq_true, not_true_eq_false, ne_eq, reduceIte, ite_self, Nat.reduceMul, Nat.reduceDiv, Nat.reduceMod, Nat.reducePow, Nat.zero_add, Nat.add_zero, Nat.one_mul, Nat.mul_one, n_in, n_min, n_clamp, n_eq_t, n_eq_f, n_eq, n_le_t, n_le_f, n_le, n_lt_t, n_lt_f, n_lt, n_sub0, n_sublt, n_suble, n_negsub, m_up_hit, m_up_miss, m_row_hit, m_row_miss, n_eqm, n_meq, n_meqm, n_ltm, n_lem, n_mlt, n_mle, n_sub, n_div, n_and1, n_shl, n_shr, n_inc, n_mul, n_rem, z_lt, z_le, z_nlt, z_nle, Nat.not_lt_zero, Nat.le_zero_eq, Nat.zero_le, if_true, if_false]
    exact key
  | succ j ih =>
    intro k F hk hQ
    have key := ih (k + 1) (m_up F 174 (16 * s + k) (F 168 (k))) (by omega) (fun W h1 h2 h3 => hQ W (fun i a1 a2 => by
      by_cases e : i = k
      · subst e
        rw [h3 _ (by omega), m_up_at]
      · rw [h1 i (by omega) a2, m_up_miss (by omega)]) (fun x hx => by rw [h2 x hx, m_up_off hx]) (fun i hi => by rw [h3 i (by omega), m_up_miss (by omega)]))
    rw [e165_45]
    simp (disch := omega) only [e165_46, e165_48, e165_51, e165_51N, e165_52, e165_55, e165_57, e165_58, e165_59, e165_60, e165_61, e165_61N, e165_62, e165_65, e165_66, e165_67, e165_68, e165_71, true_or, m_psh_s, m_psh_n, m_kl_i, m_kl_f, m_kl_r, m_kl_n, m_kl_j, m_kl_l, m_kl_d, c_i, c_f, c_r, c_n, List.length_nil, List.length_cons, true_and, and_true, Nat.reduceAdd, Nat.reduceLeDiff, Nat.reduceSub, Nat.reduceEqDiff, Nat.reduceLT, ge_iff_le, gt_iff_lt, n_lit, m_in, m_nar0, m_nar1, and_self, not_false_eq_true, not_true_eq_false, ne_eq, reduceIte, ite_self, Nat.reduceMul, Nat.reduceDiv, Nat.reduceMod, Nat.reducePow, Nat.zero_add, Nat.add_zero, Nat.one_mul, Nat.mul_one, n_in, n_min, n_clamp, n_eq_t, n_eq_f, n_eq, n_le_t, n_le_f, n_le, n_lt_t, n_lt_f, n_lt, n_sub0, n_sublt, n_suble, n_negsub, m_up_hit, m_up_miss, m_row_hit, m_row_miss, n_eqm, n_meq, n_meqm, n_ltm, n_lem, n_mlt, n_mle, n_sub, n_div, n_and1, n_shl, n_shr, n_inc, n_mul, n_rem, z_lt, z_le, z_nlt, z_nle, Nat.not_lt_zero, Nat.le_zero_eq, Nat.zero_le, if_true, if_false, hm0, hm1, hm2, hm3, hm4, hm5, hm6, hm7, hm8, hm9, hm10, hm11, hm12, hm13, hm14, hm15, hm16, hm17, hm18, hm19, hm20, hm21, hm22, hm23, hm24, hm25, hm26]
    exact key
theorem l_rest (hl : ML lay R) {s : Nat} (hs : s < 2) (j : Nat) : ∀ (k : Nat) (I : mI), k + j = 124 → (∀ W : mI, (∀ i, k ≤ i → i < 124 → W 167 (i) = I 173 (124 * s + i)) → (∀ x, x ≠ 167 → W x = I x) → (∀ i, (i < k ∨ 124 ≤ i) → W 167 i = I 167 i) → Ev lay d 166 65 [.ref 166, .int (nI s), .int (nI 124)] [] W F R n Q) → Ev lay d 166 36 [.ref 166, .int (nI s), .int (nI k)] [] I F R n Q := by
  obtain ⟨hm0, hm1, hm2, hm3, hm4, hm5, hm6, hm7, hm8, hm9, hm10, hm11, hm12, hm13, hm14, hm15, hm16, hm17, hm18, hm19, hm20, hm21, hm22, hm23, hm24, hm25, hm26⟩ := hl
  induction j with
  | zero =>
    intro k I hk hQ
    have hk2 : k = 124 := by omega
    subst hk2
    have key := hQ I (fun i h1 h2 => by omega) (fun _ _ => rfl) (fun _ _ => rfl)
    rw [e166_36]
    simp (disch := omega) only [e166_37, e166_39, e166_42, e166_42N, e166_43, e166_46, e166_47, e166_47N, e166_48, e166_51, e166_53, e166_54, e166_55, e166_56, e166_57, e166_58, e166_59, e166_62, true_or, m_psh_s, m_psh_n, m_kl_i, m_kl_f, m_kl_r, m_kl_n, m_kl_j, m_kl_l, m_kl_d, c_i, c_f, c_r, c_n, List.length_nil, List.length_cons, true_and, and_true, Nat.reduceAdd, Nat.reduceLeDiff, Nat.reduceSub, Nat.reduceEqDiff, Nat.reduceLT, ge_iff_le, gt_iff_lt, n_lit, m_in, m_nar0, m_nar1, and_self, not_false_eq_true, not_true_eq_false, ne_eq, reduceIte, ite_self, Nat.reduceMul, Nat.reduceDiv, Nat.reduceMod, Nat.reducePow, Nat.zero_add, Nat.add_zero, Nat.one_mul, Nat.mul_one, n_in, n_min, n_clamp, n_eq_t, n_eq_f, n_eq, n_le_t, n_le_f, n_le, n_lt_t, n_lt_f, n_lt, n_sub0, n_sublt, n_suble, n_negsub, m_up_hit, m_up_miss, m_row_hit, m_row_miss, n_eqm, n_meq, n_meqm, n_ltm, n_lem, n_mlt, n_mle, n_sub, n_div, n_and1, n_shl, n_shr, n_inc, n_mul, n_rem, z_lt, z_le, z_nlt, z_nle, Nat.not_lt_zero, Nat.le_zero_eq, Nat.zero_le, if_true, if_false]
    exact key
  | succ j ih =>
    intro k I hk hQ
    have key := ih (k + 1) (m_up I 167 (k) (I 173 (124 * s + k))) (by omega) (fun W h1 h2 h3 => hQ W (fun i a1 a2 => by
      by_cases e : i = k
      · subst e
        rw [h3 _ (by omega), m_up_at]
      · rw [h1 i (by omega) a2, m_up_miss (by omega)]) (fun x hx => by rw [h2 x hx, m_up_off hx]) (fun i hi => by rw [h3 i (by omega), m_up_miss (by omega)]))
    rw [e166_36]
    simp (disch := omega) only [e166_37, e166_39, e166_42, e166_42N, e166_43, e166_46, e166_47, e166_47N, e166_48, e166_51, e166_53, e166_54, e166_55, e166_56, e166_57, e166_58, e166_59, e166_62, true_or, m_psh_s, m_psh_n, m_kl_i, m_kl_f, m_kl_r, m_kl_n, m_kl_j, m_kl_l, m_kl_d, c_i, c_f, c_r, c_n, List.length_nil, List.length_cons, true_and, and_true, Nat.reduceAdd, Nat.reduceLeDiff, Nat.reduceSub, Nat.reduceEqDiff, Nat.reduceLT, ge_iff_le, gt_iff_lt, n_lit, m_in, m_nar0, m_nar1, and_self, not_false_eq_true, not_true_eq_false, ne_eq, reduceIte, ite_self, Nat.reduceMul, Nat.reduceDiv, Nat.reduceMod, Nat.reducePow, Nat.zero_add, Nat.add_zero, Nat.one_mul, Nat.mul_one, n_in, n_min, n_clamp, n_eq_t, n_eq_f, n_eq, n_le_t, n_le_f, n_le, n_lt_t, n_lt_f, n_lt, n_sub0, n_sublt, n_suble, n_negsub, m_up_hit, m_up_miss, m_row_hit, m_row_miss, n_eqm, n_meq, n_meqm, n_ltm, n_lem, n_mlt, n_mle, n_sub, n_div, n_and1, n_shl, n_shr, n_inc, n_mul, n_rem, z_lt, z_le, z_nlt, z_nle, Nat.not_lt_zero, Nat.le_zero_eq, Nat.zero_le, if_true, if_false, hm0, hm1, hm2, hm3, hm4, hm5, hm6, hm7, hm8, hm9, hm10, hm11, hm12, hm13, hm14, hm15, hm16, hm17, hm18, hm19, hm20, hm21, hm22, hm23, hm24, hm25, hm26]
    exact key
theorem l_restF (hl : ML lay R) {s : Nat} (hs : s < 2) (j : Nat) : ∀ (k : Nat) (F : mF), k + j = 16 → (∀ W : mF, (∀ i, k ≤ i → i < 16 → W 168 (i) = F 174 (16 * s + i)) → (∀ x, x ≠ 168 → W x = F x) → (∀ i, (i < k ∨ 16 ≤ i) → W 168 i = F 168 i) → Ev lay d 166 96 [.ref 166, .int (nI s), .int (nI 16)] [] I W R n Q) → Ev lay d 166 67 [.ref 166, .int (nI s), .int (nI k)] [] I F R n Q := by
  obtain ⟨hm0, hm1, hm2, hm3, hm4, hm5, hm6, hm7, hm8, hm9, hm10, hm11, hm12, hm13, hm14, hm15, hm16, hm17, hm18, hm19, hm20, hm21, hm22, hm23, hm24, hm25, hm26⟩ := hl
  induction j with
  | zero =>
    intro k F hk hQ
    have hk2 : k = 16 := by omega
    subst hk2
    have key := hQ F (fun i h1 h2 => by omega) (fun _ _ => rfl) (fun _ _ => rfl)
    rw [e166_67]
    simp (disch := omega) only [e166_68, e166_70, e166_73, e166_73N, e166_74, e166_77, e166_78, e166_78N, e166_79, e166_82, e166_84, e166_85, e166_86, e166_87, e166_88, e166_89, e166_90, e166_93, true_or, m_psh_s, m_psh_n, m_kl_i, m_kl_f, m_kl_r, m_kl_n, m_kl_j, m_kl_l, m_kl_d, c_i, c_f, c_r, c_n, List.length_nil, List.length_cons, true_and, and_true, Nat.reduceAdd, Nat.reduceLeDiff, Nat.reduceSub, Nat.reduceEqDiff, Nat.reduceLT, ge_iff_le, gt_iff_lt, n_lit, m_in, m_nar0, m_nar1, and_self, not_false_eq_true, not_true_eq_false, ne_eq, reduceIte, ite_self, Nat.reduceMul, Nat.reduceDiv, Nat.reduceMod, Nat.reducePow, Nat.zero_add, Nat.add_zero, Nat.one_mul, Nat.mul_one, n_in, n_min, n_clamp, n_eq_t, n_eq_f, n_eq, n_le_t, n_le_f, n_le, n_lt_t, n_lt_f, n_lt, n_sub0, n_sublt, n_suble, n_negsub, m_up_hit, m_up_miss, m_row_hit, m_row_miss, n_eqm, n_meq, n_meqm, n_ltm, n_lem, n_mlt, n_mle, n_sub, n_div, n_and1, n_shl, n_shr, n_inc, n_mul, n_rem, z_lt, z_le, z_nlt, z_nle, Nat.not_lt_zero, Nat.le_zero_eq, Nat.zero_le, if_true, if_false]
    exact key
  | succ j ih =>
    intro k F hk hQ
    have key := ih (k + 1) (m_up F 168 (k) (F 174 (16 * s + k))) (by omega) (fun W h1 h2 h3 => hQ W (fun i a1 a2 => by
      by_cases e : i = k
      · subst e
        rw [h3 _ (by omega), m_up_at]
      · rw [h1 i (by omega) a2, m_up_miss (by omega)]) (fun x hx => by rw [h2 x hx, m_up_off hx]) (fun i hi => by rw [h3 i (by omega), m_up_miss (by omega)]))
    rw [e166_67]
    simp (disch := omega) only [e166_68, e166_70, e166_73, e166_73N, e166_74, e166_77, e166_78, e166_78N, e166_79, e166_82, e166_84, e166_85, e166_86, e166_87, e166_88, e166_89, e166_90, e166_93, true_or, m_psh_s, m_psh_n, m_kl_i, m_kl_f, m_kl_r, m_kl_n, m_kl_j, m_kl_l, m_kl_d, c_i, c_f, c_r, c_n, List.length_nil, List.length_cons, true_and, and_true, Nat.reduceAdd, Nat.reduceLeDiff, Nat.reduceSub, Nat.reduceEqDiff, Nat.reduceLT, ge_iff_le, gt_iff_lt, n_lit, m_in, m_nar0, m_nar1, and_self, not_false_eq_true, not_true_eq_false, ne_eq, reduceIte, ite_self, Nat.reduceMul, Nat.reduceDiv, Nat.reduceMod, Nat.reducePow, Nat.zero_add, Nat.add_zero, Nat.one_mul, Nat.mul_one, n_in, n_min, n_clamp, n_eq_t, n_eq_f, n_eq, n_le_t, n_le_f, n_le, n_lt_t, n_lt_f, n_lt, n_sub0, n_sublt, n_suble, n_negsub, m_up_hit, m_up_miss, m_row_hit, m_row_miss, n_eqm, n_meq, n_meqm, n_ltm, n_lem, n_mlt, n_mle, n_sub, n_div, n_and1, n_shl, n_shr, n_inc, n_mul, n_rem, z_lt, z_le, z_nlt, z_nle, Nat.not_lt_zero, Nat.le_zero_eq, Nat.zero_le, if_true, if_false, hm0, hm1, hm2, hm3, hm4, hm5, hm6, hm7, hm8, hm9, hm10, hm11, hm12, hm13, hm14, hm15, hm16, hm17, hm18, hm19, hm20, hm21, hm22, hm23, hm24, hm25, hm26]
    exact key
end LOOPS
