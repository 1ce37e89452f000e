section MODELE
variable {lay : mL} {d a n n' : Nat} {I I' : mI} {F F' : mF} {R R' : mR} {Q : mP} {S : Nat → Nat} {sp : Nat → UInt32} {hi : List Nat}
def q_cp (T : Nat → Nat) (k : Nat) : Nat → Nat := fun i => if 95 ≤ i ∧ i < 95 + k then T (i - 24) else T i
theorem q_cp_s {T : Nat → Nat} {k : Nat} (hk : k < 24) : up1 (q_cp T k) (95 + k) (q_cp T k (71 + k)) = q_cp T (k + 1) := by
  funext i
  unfold up1 q_cp
  by_cases e : i = 95 + k
  · subst e
    rw [if_pos rfl, if_neg (by omega), if_pos (by omega), show 95 + k - 24 = 71 + k by omega]
  · rw [if_neg e]
    by_cases c : 95 ≤ i ∧ i < 95 + k
    · rw [if_pos c, if_pos (by omega)]
    · rw [if_neg c, if_neg (by omega)]
theorem q_cp_0 {T : Nat → Nat} : q_cp T 0 = T := by
  funext i
  unfold q_cp
  rw [if_neg (by omega)]
theorem q_cp_old {T : Nat → Nat} : up1 (q_cp T 24) 70 (T 69) = q_oldS T := by
  funext i
  unfold up1 q_cp q_oldS
  by_cases e : i = 70
  · rw [if_pos e]
  · rw [if_neg e]
theorem r_cp0 {v1 v2 : Int32} (hl : ML lay R) {T : Nat → Nat} (j : Nat) : ∀ (k : Nat) (I : mI), k + j = 24 → MS I F (q_cp T k) sp → (∀ I', MS I' F (q_cp T 24) sp → Om I F R I' F → Ev lay d 126 130 [.ref 166, .int v1, .int v2, .int (nI 24)] [] I' F R n Q) → Ev lay d 126 100 [.ref 166, .int v1, .int v2, .int (nI k)] [] I F R n Q := by
  have hl' := hl
  obtain ⟨hm0, hm1, hm2, hm3, hm4, hm5, hm6, hm7, hm8, hm9, hm10, hm11, hm12, hm13, hm14, hm15, hm16, hm17, hm18, hm19, hm20, hm21, hm22, hm23, hm24, hm25, hm26⟩ := hl
  induction j with
  | zero =>
    intro k I hk h hQ
    have hk2 : k = 24 := by omega
    subst hk2
    have key := hQ I h Om_refl
    rw [e126_100]
    simp (disch := omega) only [e126_101, e126_103, e126_106, e126_106N, e126_107, e126_110, e126_112, e126_113, e126_114, e126_114N, e126_115, e126_118, e126_120, e126_121, e126_122, e126_123, e126_124, e126_127, true_or, m_psh_s, m_psh_n, m_kl_i, m_kl_f, m_kl_r, m_kl_n, m_kl_j, m_kl_l, m_kl_d, c_i, c_f, c_r, c_n, List.length_nil, List.length_cons, true_and, and_true, Nat.reduceAdd, Nat.reduceLeDiff, Nat.reduceSub, Nat.reduceEqDiff, Nat.reduceLT, ge_iff_le, gt_iff_lt, n_lit, m_in, m_nar0, m_nar1, and_self, not_false_eq_true, not_true_eq_false, ne_eq, reduceIte, ite_self, Nat.reduceMul, Nat.reduceDiv, Nat.reduceMod, Nat.reducePow, Nat.zero_add, Nat.add_zero, Nat.one_mul, Nat.mul_one, n_in, n_min, n_clamp, n_eq_t, n_eq_f, n_eq, n_le_t, n_le_f, n_le, n_lt_t, n_lt_f, n_lt, n_sub0, n_sublt, n_suble, n_negsub, m_up_hit, m_up_miss, m_row_hit, m_row_miss, n_eqm, n_meq, n_meqm, n_ltm, n_lem, n_mlt, n_mle, n_sub, n_div, n_and1, n_shl, n_shr, n_inc, n_mul, n_rem, z_lt, z_le, z_nlt, z_nle, Nat.not_lt_zero, Nat.le_zero_eq, Nat.zero_le, if_true, if_false]
    exact key
  | succ j ih =>
    intro k I hk h hQ
    have p := h.1 (71 + k) (by omega)
    have hM := MS_up (k := 95 + k) (v := q_cp T k (71 + k)) h
    rw [q_cp_s (by omega)] at hM
    have key := ih (k + 1) _ (by omega) hM (fun I' t1 t2 => hQ I' t1 (Om_trans (Om_up (by omega)) t2))
    rw [e126_100]
    simp (disch := omega) only [e126_101, e126_103, e126_106, e126_106N, e126_107, e126_110, e126_112, e126_113, e126_114, e126_114N, e126_115, e126_118, e126_120, e126_121, e126_122, e126_123, e126_124, e126_127, true_or, m_psh_s, m_psh_n, m_kl_i, m_kl_f, m_kl_r, m_kl_n, m_kl_j, m_kl_l, m_kl_d, c_i, c_f, c_r, c_n, List.length_nil, List.length_cons, true_and, and_true, Nat.reduceAdd, Nat.reduceLeDiff, Nat.reduceSub, Nat.reduceEqDiff, Nat.reduceLT, ge_iff_le, gt_iff_lt, n_lit, m_in, m_nar0, m_nar1, and_self, not_false_eq_true, not_true_eq_false, ne_eq, reduceIte, ite_self, Nat.reduceMul, Nat.reduceDiv, Nat.reduceMod, Nat.reducePow, Nat.zero_add, Nat.add_zero, Nat.one_mul, Nat.mul_one, n_in, n_min, n_clamp, n_eq_t, n_eq_f, n_eq, n_le_t, n_le_f, n_le, n_lt_t, n_lt_f, n_lt, n_sub0, n_sublt, n_suble, n_negsub, m_up_hit, m_up_miss, m_row_hit, m_row_miss, n_eqm, n_meq, n_meqm, n_ltm, n_lem, n_mlt, n_mle, n_sub, n_div, n_and1, n_shl, n_shr, n_inc, n_mul, n_rem, z_lt, z_le, z_nlt, z_nle, Nat.not_lt_zero, Nat.le_zero_eq, Nat.zero_le, if_true, if_false, hm0, hm1, hm2, hm3, hm4, hm5, hm6, hm7, hm8, hm9, hm10, hm11, hm12, hm13, hm14, hm15, hm16, hm17, hm18, hm19, hm20, hm21, hm22, hm23, hm24, hm25, hm26, p]
    exact key
theorem r_zp0 {v1 v2 : Int32} (hl : ML lay R) {T : Nat → Nat} (w1 : T 3 ≤ 16) (hd : 1 ≤ d) (j : Nat) : ∀ (k : Nat) (I : mI), k + j = T 3 → MS I F (q_zp T k) sp → (∀ I', MS I' F (q_zp T (T 3)) sp → Om I F R I' F → Ev lay d 126 181 [.ref 166, .int v1, .int v2, .int (nI (T 3))] [] I' F R n Q) → Ev lay d 126 154 [.ref 166, .int v1, .int v2, .int (nI k)] [] I F R n Q := by
  have hl' := hl
  obtain ⟨hm0, hm1, hm2, hm3, hm4, hm5, hm6, hm7, hm8, hm9, hm10, hm11, hm12, hm13, hm14, hm15, hm16, hm17, hm18, hm19, hm20, hm21, hm22, hm23, hm24, hm25, hm26⟩ := hl
  induction j with
  | zero =>
    intro k I hk h hQ
    have hk2 : k = T 3 := by omega
    subst hk2
    have h3 := h.1 3 (by omega)
    have z3 : q_zp T (T 3) 3 = T 3 := if_neg (by omega)
    rw [z3] at h3
    have key := hQ I h Om_refl
    rw [e126_154]
    simp (disch := omega) only [e126_155, e126_155N, e126_156, e126_159, e126_160, e126_161, e126_164, e126_164N, e126_165, e126_168, e126_169, e126_170, e126_173, e126_174, e126_175, e126_178, true_or, m_psh_s, m_psh_n, m_kl_i, m_kl_f, m_kl_r, m_kl_n, m_kl_j, m_kl_l, m_kl_d, c_i, c_f, c_r, c_n, List.length_nil, List.length_cons, true_and, and_true, Nat.reduceAdd, Nat.reduceLeDiff, Nat.reduceSub, Nat.reduceEqDiff, Nat.reduceLT, ge_iff_le, gt_iff_lt, n_lit, m_in, m_nar0, m_nar1, and_self, not_false_eq_true, not_true_eq_false, ne_eq, reduceIte, ite_self, Nat.reduceMul, Nat.reduceDiv, Nat.reduceMod, Nat.reducePow, Nat.zero_add, Nat.add_zero, Nat.one_mul, Nat.mul_one, n_in, n_min, n_clamp, n_eq_t, n_eq_f, n_eq, n_le_t, n_le_f, n_le, n_lt_t, n_lt_f, n_lt, n_sub0, n_sublt, n_suble, n_negsub, m_up_hit, m_up_miss, m_row_hit, m_row_miss, n_eqm, n_meq, n_meqm, n_ltm, n_lem, n_mlt, n_mle, n_sub, n_div, n_and1, n_shl, n_shr, n_inc, n_mul, n_rem, z_lt, z_le, z_nlt, z_nle, Nat.not_lt_zero, Nat.le_zero_eq, Nat.zero_le, if_true, if_false, hm0, hm1, hm2, hm3, hm4, hm5, hm6, hm7, hm8, hm9, hm10, hm11, hm12, hm13, hm14, hm15, hm16, hm17, hm18, hm19, hm20, hm21, hm22, hm23, hm24, hm25, hm26, h3]
    exact key
  | succ j ih =>
    intro k I hk h hQ
    have h3 := h.1 3 (by omega)
    have z3 : q_zp T k 3 = T 3 := if_neg (by omega)
    rw [z3] at h3
    have hM := MS_up (k := 5 + 4 * k) (v := 0) h
    rw [q_zp_s] at hM
    have e5 : 4 + 4 * k + 1 = 5 + 4 * k := by omega
    have key := ih (k + 1) _ (by omega) hM (fun I' t1 t2 => hQ I' t1 (Om_trans (Om_up (by omega)) t2))
    rw [e126_154]
    simp (disch := omega) only [e126_155, e126_155N, e126_156, e126_159, e126_160, e126_161, e126_164, e126_164N, e126_165, e126_168, e126_169, e126_170, e126_173, e126_174, e126_175, e126_178, true_or, m_psh_s, m_psh_n, m_kl_i, m_kl_f, m_kl_r, m_kl_n, m_kl_j, m_kl_l, m_kl_d, c_i, c_f, c_r, c_n, List.length_nil, List.length_cons, true_and, and_true, Nat.reduceAdd, Nat.reduceLeDiff, Nat.reduceSub, Nat.reduceEqDiff, Nat.reduceLT, ge_iff_le, gt_iff_lt, n_lit, m_in, m_nar0, m_nar1, and_self, not_false_eq_true, not_true_eq_false, ne_eq, reduceIte, ite_self, Nat.reduceMul, Nat.reduceDiv, Nat.reduceMod, Nat.reducePow, Nat.zero_add, Nat.add_zero, Nat.one_mul, Nat.mul_one, n_in, n_min, n_clamp, n_eq_t, n_eq_f, n_eq, n_le_t, n_le_f, n_le, n_lt_t, n_lt_f, n_lt, n_sub0, n_sublt, n_suble, n_negsub, m_up_hit, m_up_miss, m_row_hit, m_row_miss, n_eqm, n_meq, n_meqm, n_ltm, n_lem, n_mlt, n_mle, n_sub, n_div, n_and1, n_shl, n_shr, n_inc, n_mul, n_rem, z_lt, z_le, z_nlt, z_nle, Nat.not_lt_zero, Nat.le_zero_eq, Nat.zero_le, if_true, if_false, hm0, hm1, hm2, hm3, hm4, hm5, hm6, hm7, hm8, hm9, hm10, hm11, hm12, hm13, hm14, hm15, hm16, hm17, hm18, hm19, hm20, hm21, hm22, hm23, hm24, hm25, hm26, h3, r_ofGood, e5]
    exact key
theorem r_nights (hl : ML lay R) (h : MS I F S sp) (w : Wsh S) (h0 : S 0 ≤ 9) (hc : S 1 ≤ 100) (hc9 : S 2 ≤ 9) (hc2 : S 68 < 1073741824) (hD : dOK S) (hz : nzT S) (ht : S 119 < 2147483648) (ao : S 119 < 9999 → q_aok S sp ∧ allW S (q_age S sp (S 3))) (hd : 6 ≤ d) (hQ : ∀ I' F', MS I' F' (q_night S sp).2.1 (q_night S sp).2.2 → Om I F R I' F' → Q (some (.int (q_night S sp).1)) I' F' R n) : Ev lay d 126 0 [.ref 166, m_j, m_j, m_j] [] I F R n Q := by
  have hl' := hl
  have m0' := hl.1
  have m7 : lay 167 = (0, 124) := hl.2.1
  have r0 : m_rv (R 166 0) = .ref 167 := by
    obtain ⟨hm0, hm1, hm2, hm3, hm4, hm5, hm6, hm7, hm8, hm9, hm10, hm11, hm12, hm13, hm14, hm15, hm16, hm17, hm18, hm19, hm20, hm21, hm22, hm23, hm24, hm25, hm26⟩ := hl
    assumption
  have h119 := h.1 119 (by omega)
  unfold q_night at hQ
  by_cases c : 9999 ≤ S 119
  · rw [if_pos c] at hQ
    have key := hQ I F h Om_refl
    simp (disch := omega) only [e126_0, e126_0N, e126_1, e126_4, e126_6, e126_7, e126_10, e126_13, e126_15, true_or, m_psh_s, m_psh_n, m_kl_i, m_kl_f, m_kl_r, m_kl_n, m_kl_j, m_kl_l, m_kl_d, c_i, c_f, c_r, c_n, List.length_nil, List.length_cons, true_and, and_true, Nat.reduceAdd, Nat.reduceLeDiff, Nat.reduceSub, Nat.reduceEqDiff, Nat.reduceLT, ge_iff_le, gt_iff_lt, n_lit, m_in, m_nar0, m_nar1, and_self, not_false_eq_true, not_true_eq_false, ne_eq, reduceIte, ite_self, Nat.reduceMul, Nat.reduceDiv, Nat.reduceMod, Nat.reducePow, Nat.zero_add, Nat.add_zero, Nat.one_mul, Nat.mul_one, n_in, n_min, n_clamp, n_eq_t, n_eq_f, n_eq, n_le_t, n_le_f, n_le, n_lt_t, n_lt_f, n_lt, n_sub0, n_sublt, n_suble, n_negsub, m_up_hit, m_up_miss, m_row_hit, m_row_miss, n_eqm, n_meq, n_meqm, n_ltm, n_lem, n_mlt, n_mle, n_sub, n_div, n_and1, n_shl, n_shr, n_inc, n_mul, n_rem, z_lt, z_le, z_nlt, z_nle, Nat.not_lt_zero, Nat.le_zero_eq, Nat.zero_le, if_true, if_false, m0', m7, r0, h119]
    exact key
  · rw [if_neg c] at hQ
    obtain ⟨ao1, ao2⟩ := ao (by omega)
    have kf : ∀ (Q : mP), _ → _ := fun Q hQ => r_forgets (d := d - 1) (n := n) (Q := Q) hl' h w hc ao1 (by omega) hQ
    simp (disch := omega) only [e126_0, e126_0N, e126_1, e126_4, e126_6, e126_7, e126_10, e126_13, e126_15, e126_16, e126_16N, e126_17, true_or, m_psh_s, m_psh_n, m_kl_i, m_kl_f, m_kl_r, m_kl_n, m_kl_j, m_kl_l, m_kl_d, c_i, c_f, c_r, c_n, List.length_nil, List.length_cons, true_and, and_true, Nat.reduceAdd, Nat.reduceLeDiff, Nat.reduceSub, Nat.reduceEqDiff, Nat.reduceLT, ge_iff_le, gt_iff_lt, n_lit, m_in, m_nar0, m_nar1, and_self, not_false_eq_true, not_true_eq_false, ne_eq, reduceIte, ite_self, Nat.reduceMul, Nat.reduceDiv, Nat.reduceMod, Nat.reducePow, Nat.zero_add, Nat.add_zero, Nat.one_mul, Nat.mul_one, n_in, n_min, n_clamp, n_eq_t, n_eq_f, n_eq, n_le_t, n_le_f, n_le, n_lt_t, n_lt_f, n_lt, n_sub0, n_sublt, n_suble, n_negsub, m_up_hit, m_up_miss, m_row_hit, m_row_miss, n_eqm, n_meq, n_meqm, n_ltm, n_lem, n_mlt, n_mle, n_sub, n_div, n_and1, n_shl, n_shr, n_inc, n_mul, n_rem, z_lt, z_le, z_nlt, z_nle, Nat.not_lt_zero, Nat.le_zero_eq, Nat.zero_le, if_true, if_false, m0', m7, r0, h119]
    apply kf
    intro F1 h1 o1
    have s0 := h1.1 0 (by omega)
    have fin : ∀ I2 v2 v3, MS I2 F1 (q_nl (q_age S sp (S 3)) (S 0) S).2 (q_age S sp (S 3)) → Om I F1 R I2 F1 → Ev lay d 126 87 [.ref 166, .int (nI (0 + (q_nl (q_age S sp (S 3)) (S 0) S).1)), .int v2, v3] [] I2 F1 R n Q := by
      intro I2 v2 v3 h2 o2
      have w' := (q_nl_w (sp := q_age S sp (S 3)) (S 0) S w).1
      generalize q_nl (q_age S sp (S 3)) (S 0) S = r at hQ h2 w'
      have p121 := h2.1 121 (by omega)
      have h3 := MS_up (k := 121) (v := r.2 121 + r.1) h2
      generalize hT : up1 r.2 121 (r.2 121 + r.1) = T at h3 hQ
      have t3 : T 3 ≤ 16 := by rw [← hT, up1_miss (by omega)]; exact w'.1
      have h3' : MS (m_up I2 167 121 (nI (r.2 121 + r.1))) F1 (q_cp T 0) (q_age S sp (S 3)) := by rw [q_cp_0]; exact h3
      have key := r_cp0 (d := d) (n := n) (Q := Q) (v1 := nI (0 + r.1)) (v2 := v2) hl' 24 0 _ rfl h3' (fun I4 h4 o4 => by
        have p69 := h4.1 69 (by omega)
        have e69 : q_cp T 24 69 = T 69 := if_neg (by omega)
        rw [e69] at p69
        have h5 := MS_up (k := 70) (v := T 69) h4
        rw [q_cp_old] at h5
        have h6 := MS_up (k := 69) (v := 0) h5
        have o3 : up1 (q_oldS T) 69 0 3 = T 3 := by
          rw [up1_miss (by omega)]
          unfold q_oldS
          rw [if_neg (by omega), if_neg (by omega)]
        have h6' : MS (m_up (m_up I4 167 70 (nI (T 69))) 167 69 (nI 0)) F1 (q_zp (up1 (q_oldS T) 69 0) 0) (q_age S sp (S 3)) := by rw [q_zp_0]; exact h6
        have key := r_zp0 (d := d) (n := n) (Q := Q) (v1 := nI (0 + r.1)) (v2 := v2) hl' (by rw [o3]; exact t3) (by omega) (T 3) 0 _ (by rw [o3, Nat.zero_add]) h6' (fun I7 h7 o7 => by
          have p119 := h7.1 119 (by omega)
          have e119 : q_zp (up1 (q_oldS T) 69 0) (up1 (q_oldS T) 69 0 3) 119 = T 119 := by
            rw [o3]
            unfold q_zp
            rw [if_neg (by omega), up1_miss (by omega)]
            unfold q_oldS
            rw [if_neg (by omega), if_neg (by omega)]
          rw [e119] at p119
          have h8 := MS_up (k := 119) (v := T 119 + 1) h7
          have ee : up1 (q_zp (up1 (q_oldS T) 69 0) (up1 (q_oldS T) 69 0 3)) 119 (T 119 + 1) = q_end T := by rw [o3]; rfl
          rw [ee] at h8
          have key := hQ _ F1 h8 (Om_trans o1 (Om_trans o2 (Om_trans (Om_up (by omega)) (Om_trans o4 (Om_trans (Om_up (by omega)) (Om_trans (Om_up (by omega)) (Om_trans o7 (Om_up (by omega)))))))))
          rw [Nat.zero_add]
          simp (disch := omega) only [e126_181, e126_181N, e126_182, e126_185, e126_187, e126_188, e126_189, e126_190, e126_191, e126_192, e126_193, true_or, m_psh_s, m_psh_n, m_kl_i, m_kl_f, m_kl_r, m_kl_n, m_kl_j, m_kl_l, m_kl_d, c_i, c_f, c_r, c_n, List.length_nil, List.length_cons, true_and, and_true, Nat.reduceAdd, Nat.reduceLeDiff, Nat.reduceSub, Nat.reduceEqDiff, Nat.reduceLT, ge_iff_le, gt_iff_lt, n_lit, m_in, m_nar0, m_nar1, and_self, not_false_eq_true, not_true_eq_false, ne_eq, reduceIte, ite_self, Nat.reduceMul, Nat.reduceDiv, Nat.reduceMod, Nat.reducePow, Nat.zero_add, Nat.add_zero, Nat.one_mul, Nat.mul_one, n_in, n_min, n_clamp, n_eq_t, n_eq_f, n_eq, n_le_t, n_le_f, n_le, n_lt_t, n_lt_f, n_lt, n_sub0, n_sublt, n_suble, n_negsub, m_up_hit, m_up_miss, m_row_hit, m_row_miss, n_eqm, n_meq, n_meqm, n_ltm, n_lem, n_mlt, n_mle, n_sub, n_div, n_and1, n_shl, n_shr, n_inc, n_mul, n_rem, z_lt, z_le, z_nlt, z_nle, Nat.not_lt_zero, Nat.le_zero_eq, Nat.zero_le, if_true, if_false, m0', m7, r0, p119]
          exact key)
        rw [Nat.zero_add] at key ⊢
        simp (disch := omega) only [e126_130, e126_130N, e126_131, e126_134, e126_136, e126_136N, e126_137, e126_140, e126_142, e126_143, e126_144, e126_144N, e126_145, e126_148, e126_150, e126_151, e126_152, e126_153, true_or, m_psh_s, m_psh_n, m_kl_i, m_kl_f, m_kl_r, m_kl_n, m_kl_j, m_kl_l, m_kl_d, c_i, c_f, c_r, c_n, List.length_nil, List.length_cons, true_and, and_true, Nat.reduceAdd, Nat.reduceLeDiff, Nat.reduceSub, Nat.reduceEqDiff, Nat.reduceLT, ge_iff_le, gt_iff_lt, n_lit, m_in, m_nar0, m_nar1, and_self, not_false_eq_true, not_true_eq_false, ne_eq, reduceIte, ite_self, Nat.reduceMul, Nat.reduceDiv, Nat.reduceMod, Nat.reducePow, Nat.zero_add, Nat.add_zero, Nat.one_mul, Nat.mul_one, n_in, n_min, n_clamp, n_eq_t, n_eq_f, n_eq, n_le_t, n_le_f, n_le, n_lt_t, n_lt_f, n_lt, n_sub0, n_sublt, n_suble, n_negsub, m_up_hit, m_up_miss, m_row_hit, m_row_miss, n_eqm, n_meq, n_meqm, n_ltm, n_lem, n_mlt, n_mle, n_sub, n_div, n_and1, n_shl, n_shr, n_inc, n_mul, n_rem, z_lt, z_le, z_nlt, z_nle, Nat.not_lt_zero, Nat.le_zero_eq, Nat.zero_le, if_true, if_false, m0', m7, r0, p69]
        exact key)
      rw [Nat.zero_add] at key ⊢
      simp (disch := omega) only [e126_87, e126_87N, e126_88, e126_91, e126_93, e126_94, e126_95, e126_96, e126_97, e126_98, e126_99, true_or, m_psh_s, m_psh_n, m_kl_i, m_kl_f, m_kl_r, m_kl_n, m_kl_j, m_kl_l, m_kl_d, c_i, c_f, c_r, c_n, List.length_nil, List.length_cons, true_and, and_true, Nat.reduceAdd, Nat.reduceLeDiff, Nat.reduceSub, Nat.reduceEqDiff, Nat.reduceLT, ge_iff_le, gt_iff_lt, n_lit, m_in, m_nar0, m_nar1, and_self, not_false_eq_true, not_true_eq_false, ne_eq, reduceIte, ite_self, Nat.reduceMul, Nat.reduceDiv, Nat.reduceMod, Nat.reducePow, Nat.zero_add, Nat.add_zero, Nat.one_mul, Nat.mul_one, n_in, n_min, n_clamp, n_eq_t, n_eq_f, n_eq, n_le_t, n_le_f, n_le, n_lt_t, n_lt_f, n_lt, n_sub0, n_sublt, n_suble, n_negsub, m_up_hit, m_up_miss, m_row_hit, m_row_miss, n_eqm, n_meq, n_meqm, n_ltm, n_lem, n_mlt, n_mle, n_sub, n_div, n_and1, n_shl, n_shr, n_inc, n_mul, n_rem, z_lt, z_le, z_nlt, z_nle, Nat.not_lt_zero, Nat.le_zero_eq, Nat.zero_le, if_true, if_false, m0', m7, r0, p121]
      exact key
    have key := fun v3 I2 h2 hq => r_nights0 (lay := lay) (d := d) (n := n) (F := F1) (R := R) (Q := Q) (sp := q_age S sp (S 3)) (m0 := S 0) hl' hd h0 (S 0) S 0 v3 I2 w hc9 hc2 hD hz ao2 rfl (Nat.zero_add _) h2 hq
    by_cases c0 : S 0 = 0
    · have kk := key m_j I h1 (fun I' v2 v3 t1 t2 => fin I' v2 v3 t1 t2)
      rw [c0] at kk s0
      simp only [q_oj, q_oI] at kk
      simp (disch := omega) only [e126_20, e126_21, e126_22, e126_23, e126_23N, e126_24, e126_27, e126_28, e126_29, e126_32, e126_32N, e126_33, e126_36, e126_39, e126_41, true_or, m_psh_s, m_psh_n, m_kl_i, m_kl_f, m_kl_r, m_kl_n, m_kl_j, m_kl_l, m_kl_d, c_i, c_f, c_r, c_n, List.length_nil, List.length_cons, true_and, and_true, Nat.reduceAdd, Nat.reduceLeDiff, Nat.reduceSub, Nat.reduceEqDiff, Nat.reduceLT, ge_iff_le, gt_iff_lt, n_lit, m_in, m_nar0, m_nar1, and_self, not_false_eq_true, not_true_eq_false, ne_eq, reduceIte, ite_self, Nat.reduceMul, Nat.reduceDiv, Nat.reduceMod, Nat.reducePow, Nat.zero_add, Nat.add_zero, Nat.one_mul, Nat.mul_one, n_in, n_min, n_clamp, n_eq_t, n_eq_f, n_eq, n_le_t, n_le_f, n_le, n_lt_t, n_lt_f, n_lt, n_sub0, n_sublt, n_suble, n_negsub, m_up_hit, m_up_miss, m_row_hit, m_row_miss, n_eqm, n_meq, n_meqm, n_ltm, n_lem, n_mlt, n_mle, n_sub, n_div, n_and1, n_shl, n_shr, n_inc, n_mul, n_rem, z_lt, z_le, z_nlt, z_nle, Nat.not_lt_zero, Nat.le_zero_eq, Nat.zero_le, if_true, if_false, m0', m7, r0, s0]
      exact kk
    · have kb : ∀ (Q : mP), _ → _ := fun Q hQ => r_best (d := d - 1) (n := n) (Q := Q) hl' h1 w hc9 hc2 hD hz ao2 (by omega) hQ
      simp (disch := omega) only [e126_20, e126_21, e126_22, e126_23, e126_23N, e126_24, e126_27, e126_28, e126_29, e126_32, e126_32N, e126_33, true_or, m_psh_s, m_psh_n, m_kl_i, m_kl_f, m_kl_r, m_kl_n, m_kl_j, m_kl_l, m_kl_d, c_i, c_f, c_r, c_n, List.length_nil, List.length_cons, true_and, and_true, Nat.reduceAdd, Nat.reduceLeDiff, Nat.reduceSub, Nat.reduceEqDiff, Nat.reduceLT, ge_iff_le, gt_iff_lt, n_lit, m_in, m_nar0, m_nar1, and_self, not_false_eq_true, not_true_eq_false, ne_eq, reduceIte, ite_self, Nat.reduceMul, Nat.reduceDiv, Nat.reduceMod, Nat.reducePow, Nat.zero_add, Nat.add_zero, Nat.one_mul, Nat.mul_one, n_in, n_min, n_clamp, n_eq_t, n_eq_f, n_eq, n_le_t, n_le_f, n_le, n_lt_t, n_lt_f, n_lt, n_sub0, n_sublt, n_suble, n_negsub, m_up_hit, m_up_miss, m_row_hit, m_row_miss, n_eqm, n_meq, n_meqm, n_ltm, n_lem, n_mlt, n_mle, n_sub, n_div, n_and1, n_shl, n_shr, n_inc, n_mul, n_rem, z_lt, z_le, z_nlt, z_nle, Nat.not_lt_zero, Nat.le_zero_eq, Nat.zero_le, if_true, if_false, m0', m7, r0, s0]
      apply kb
      intro I2 h2 o2
      have kk := key m_j I2 h2 (fun I' v2 v3 t1 t2 => fin I' v2 v3 t1 (Om_trans o2 t2))
      obtain ⟨m, hm⟩ : ∃ m, S 0 = m + 1 := ⟨S 0 - 1, by omega⟩
      rw [hm] at kk
      simp only [q_oj] at kk
      simp (disch := omega) only [e126_36, e126_39, e126_41, true_or, m_psh_s, m_psh_n, m_kl_i, m_kl_f, m_kl_r, m_kl_n, m_kl_j, m_kl_l, m_kl_d, c_i, c_f, c_r, c_n, List.length_nil, List.length_cons, true_and, and_true, Nat.reduceAdd, Nat.reduceLeDiff, Nat.reduceSub, Nat.reduceEqDiff, Nat.reduceLT, ge_iff_le, gt_iff_lt, n_lit, m_in, m_nar0, m_nar1, and_self, not_false_eq_true, not_true_eq_false, ne_eq, reduceIte, ite_self, Nat.reduceMul, Nat.reduceDiv, Nat.reduceMod, Nat.reducePow, Nat.zero_add, Nat.add_zero, Nat.one_mul, Nat.mul_one, n_in, n_min, n_clamp, n_eq_t, n_eq_f, n_eq, n_le_t, n_le_f, n_le, n_lt_t, n_lt_f, n_lt, n_sub0, n_sublt, n_suble, n_negsub, m_up_hit, m_up_miss, m_row_hit, m_row_miss, n_eqm, n_meq, n_meqm, n_ltm, n_lem, n_mlt, n_mle, n_sub, n_div, n_and1, n_shl, n_shr, n_inc, n_mul, n_rem, z_lt, z_le, z_nlt, z_nle, Nat.not_lt_zero, Nat.le_zero_eq, Nat.zero_le, if_true, if_false]
      exact kk
theorem r_adds {x : Int32} (hl : ML lay R) (h : MS I F S sp) (w : Wsh S) (hsp : ∀ g, g < 16 → S 3 ≤ g → sp g = 0) (hd : 3 ≤ d) (hQ : ∀ I' F', MS I' F' (q_add S x).2 sp → Om I F R I' F' → Q (some (.int (q_add S x).1)) I' F' R n) : Ev lay d 105 0 [.ref 166, .int x, m_j] [] I F R n Q := by
  have hl' := hl
  have ki : ∀ (x : Int32) (Q : mP), _ := fun x Q => r_isSlot (lay := lay) (x := x) (d := d - 1) (I := I) (F := F) (R := R) (n := n) (Q := Q) (by omega)
  have w1 := w.1
  unfold q_add at hQ
  by_cases c : isS x
  · rw [if_pos c] at hQ
    obtain ⟨k, k1, k2, k3⟩ := isS_to c
    rw [k3] at hQ
    simp (disch := omega) only [e105_0, e105_1, e105_4, e105_7, e105_8, true_or, m_psh_s, m_psh_n, m_kl_i, m_kl_f, m_kl_r, m_kl_n, m_kl_j, m_kl_l, m_kl_d, c_i, c_f, c_r, c_n, List.length_nil, List.length_cons, true_and, and_true, Nat.reduceAdd, Nat.reduceLeDiff, Nat.reduceSub, Nat.reduceEqDiff, Nat.reduceLT, ge_iff_le, gt_iff_lt, n_lit, m_in, m_nar0, m_nar1, and_self, not_false_eq_true, not_true_eq_false, ne_eq, reduceIte, ite_self, Nat.reduceMul, Nat.reduceDiv, Nat.reduceMod, Nat.reducePow, Nat.zero_add, Nat.add_zero, Nat.one_mul, Nat.mul_one, n_in, n_min, n_clamp, n_eq_t, n_eq_f, n_eq, n_le_t, n_le_f, n_le, n_lt_t, n_lt_f, n_lt, n_sub0, n_sublt, n_suble, n_negsub, m_up_hit, m_up_miss, m_row_hit, m_row_miss, n_eqm, n_meq, n_meqm, n_ltm, n_lem, n_mlt, n_mle, n_sub, n_div, n_and1, n_shl, n_shr, n_inc, n_mul, n_rem, z_lt, z_le, z_nlt, z_nle, Nat.not_lt_zero, Nat.le_zero_eq, Nat.zero_le, if_true, if_false, ki, if_pos c]
    subst k2
    have kg : ∀ (Q : mP), _ := fun Q => r_goodIn (d := d - 1) (n := n) (Q := Q) hl' h w k1 (by omega)
    have h3 := h.1 3 (by omega)
    by_cases c1 : q_gi S k = none
    · rw [if_neg (fun z => z c1)] at hQ
      rw [c1] at kg
      simp only [q_oI] at kg
      by_cases c2 : 16 ≤ S 3
      · rw [if_pos c2] at hQ
        have key := hQ I F h Om_refl
        have c3 : S 3 = 16 := by omega
        rw [c3] at h3
        obtain ⟨hm0, hm1, hm2, hm3, hm4, hm5, hm6, hm7, hm8, hm9, hm10, hm11, hm12, hm13, hm14, hm15, hm16, hm17, hm18, hm19, hm20, hm21, hm22, hm23, hm24, hm25, hm26⟩ := hl
        simp (disch := omega) only [e105_9, e105_9N, e105_10, e105_11, e105_14, e105_16, e105_19, e105_21, e105_22, e105_22N, e105_23, e105_26, e105_27, e105_28, e105_30, e105_33, e105_35, true_or, m_psh_s, m_psh_n, m_kl_i, m_kl_f, m_kl_r, m_kl_n, m_kl_j, m_kl_l, m_kl_d, c_i, c_f, c_r, c_n, List.length_nil, List.length_cons, true_and, and_true, Nat.reduceAdd, Nat.reduceLeDiff, Nat.reduceSub, Nat.reduceEqDiff, Nat.reduceLT, ge_iff_le, gt_iff_lt, n_lit, m_in, m_nar0, m_nar1, and_self, not_false_eq_true, not_true_eq_false, ne_eq, reduceIte, ite_self, Nat.reduceMul, Nat.reduceDiv, Nat.reduceMod, Nat.reducePow, Nat.zero_add, Nat.add_zero, Nat.one_mul, Nat.mul_one, n_in, n_min, n_clamp, n_eq_t, n_eq_f, n_eq, n_le_t, n_le_f, n_le, n_lt_t, n_lt_f, n_lt, n_sub0, n_sublt, n_suble, n_negsub, m_up_hit, m_up_miss, m_row_hit, m_row_miss, n_eqm, n_meq, n_meqm, n_ltm, n_lem, n_mlt, n_mle, n_sub, n_div, n_and1, n_shl, n_shr, n_inc, n_mul, n_rem, z_lt, z_le, z_nlt, z_nle, Nat.not_lt_zero, Nat.le_zero_eq, Nat.zero_le, if_true, if_false, hm0, hm1, hm2, hm3, hm4, hm5, hm6, hm7, hm8, hm9, hm10, hm11, hm12, hm13, hm14, hm15, hm16, hm17, hm18, hm19, hm20, hm21, hm22, hm23, hm24, hm25, hm26, kg, h3]
        exact key
      · rw [if_neg c2] at hQ
        have hM : MS (m_up (m_up I 167 (4 + 4 * S 3) (nI k)) 167 3 (nI (S 3 + 1))) (m_up F 168 (S 3) 0) (up1 (up1 S (4 + 4 * S 3) k) 3 (S 3 + 1)) sp := by
          have := MS_up (k := 3) (v := S 3 + 1) (MS_up (k := 4 + 4 * S 3) (v := k) h)
          refine ⟨this.1, fun g hg => ?_⟩
          by_cases e : g = S 3
          · subst e; rw [m_up_at, hsp _ hg (Nat.le_refl _)]
          · rw [m_up_miss (by omega)]; exact h.2 g hg
        have key := hQ _ _ hM (Om_trans (Om_trans (Om_up (by omega)) (Om_up (by omega))) Om_F)
        obtain ⟨hm0, hm1, hm2, hm3, hm4, hm5, hm6, hm7, hm8, hm9, hm10, hm11, hm12, hm13, hm14, hm15, hm16, hm17, hm18, hm19, hm20, hm21, hm22, hm23, hm24, hm25, hm26⟩ := hl
        simp (disch := omega) only [e105_9, e105_9N, e105_10, e105_11, e105_14, e105_16, e105_19, e105_21, e105_22, e105_22N, e105_23, e105_26, e105_27, e105_28, e105_30, e105_33, e105_35, e105_36, e105_36N, e105_37, e105_40, e105_41, e105_42, e105_43, e105_43N, e105_44, e105_47, e105_48, e105_49, e105_52, e105_53, e105_54, e105_54N, e105_55, e105_58, e105_59, e105_60, e105_61, e105_61N, e105_62, e105_65, e105_66, e105_67, e105_68, e105_69, e105_70, e105_71, e105_72, true_or, m_psh_s, m_psh_n, m_kl_i, m_kl_f, m_kl_r, m_kl_n, m_kl_j, m_kl_l, m_kl_d, c_i, c_f, c_r, c_n, List.length_nil, List.length_cons, true_and, and_true, Nat.reduceAdd, Nat.reduceLeDiff, Nat.reduceSub, Nat.reduceEqDiff, Nat.reduceLT, ge_iff_le, gt_iff_lt, n_lit, m_in, m_nar0, m_nar1, and_self, not_false_eq_true, not_true_eq_false, ne_eq, reduceIte, ite_self, Nat.reduceMul, Nat.reduceDiv, Nat.reduceMod, Nat.reducePow, Nat.zero_add, Nat.add_zero, Nat.one_mul, Nat.mul_one, n_in, n_min, n_clamp, n_eq_t, n_eq_f, n_eq, n_le_t, n_le_f, n_le, n_lt_t, n_lt_f, n_lt, n_sub0, n_sublt, n_suble, n_negsub, m_up_hit, m_up_miss, m_row_hit, m_row_miss, n_eqm, n_meq, n_meqm, n_ltm, n_lem, n_mlt, n_mle, n_sub, n_div, n_and1, n_shl, n_shr, n_inc, n_mul, n_rem, z_lt, z_le, z_nlt, z_nle, Nat.not_lt_zero, Nat.le_zero_eq, Nat.zero_le, if_true, if_false, hm0, hm1, hm2, hm3, hm4, hm5, hm6, hm7, hm8, hm9, hm10, hm11, hm12, hm13, hm14, hm15, hm16, hm17, hm18, hm19, hm20, hm21, hm22, hm23, hm24, hm25, hm26, kg, h3, r_ofGood]
        exact key
    · rw [if_pos c1] at hQ
      have key := hQ I F h Om_refl
      cases e : q_gi S k with
      | none => exact absurd e c1
      | some g =>
        have hg := q_gi_lt16 w1 e
        rw [e] at kg
        simp only [q_oI] at kg
        obtain ⟨hm0, hm1, hm2, hm3, hm4, hm5, hm6, hm7, hm8, hm9, hm10, hm11, hm12, hm13, hm14, hm15, hm16, hm17, hm18, hm19, hm20, hm21, hm22, hm23, hm24, hm25, hm26⟩ := hl
        simp (disch := omega) only [e105_9, e105_9N, e105_10, e105_11, e105_14, e105_16, e105_19, e105_21, true_or, m_psh_s, m_psh_n, m_kl_i, m_kl_f, m_kl_r, m_kl_n, m_kl_j, m_kl_l, m_kl_d, c_i, c_f, c_r, c_n, List.length_nil, List.length_cons, true_and, and_true, Nat.reduceAdd, Nat.reduceLeDiff, Nat.reduceSub, Nat.reduceEqDiff, Nat.reduceLT, ge_iff_le, gt_iff_lt, n_lit, m_in, m_nar0, m_nar1, and_self, not_false_eq_true, not_true_eq_false, ne_eq, reduceIte, ite_self, Nat.reduceMul, Nat.reduceDiv, Nat.reduceMod, Nat.reducePow, Nat.zero_add, Nat.add_zero, Nat.one_mul, Nat.mul_one, n_in, n_min, n_clamp, n_eq_t, n_eq_f, n_eq, n_le_t, n_le_f, n_le, n_lt_t, n_lt_f, n_lt, n_sub0, n_sublt, n_suble, n_negsub, m_up_hit, m_up_miss, m_row_hit, m_row_miss, n_eqm, n_meq, n_meqm, n_ltm, n_lem, n_mlt, n_mle, n_sub, n_div, n_and1, n_shl, n_shr, n_inc, n_mul, n_rem, z_lt, z_le, z_nlt, z_nle, Nat.not_lt_zero, Nat.le_zero_eq, Nat.zero_le, if_true, if_false, hm0, hm1, hm2, hm3, hm4, hm5, hm6, hm7, hm8, hm9, hm10, hm11, hm12, hm13, hm14, hm15, hm16, hm17, hm18, hm19, hm20, hm21, hm22, hm23, hm24, hm25, hm26, kg]
        exact key
  · rw [if_neg c] at hQ
    have key := hQ I F h Om_refl
    simp (disch := omega) only [e105_0, e105_1, e105_4, e105_7, e105_8, true_or, m_psh_s, m_psh_n, m_kl_i, m_kl_f, m_kl_r, m_kl_n, m_kl_j, m_kl_l, m_kl_d, c_i, c_f, c_r, c_n, List.length_nil, List.length_cons, true_and, and_true, Nat.reduceAdd, Nat.reduceLeDiff, Nat.reduceSub, Nat.reduceEqDiff, Nat.reduceLT, ge_iff_le, gt_iff_lt, n_lit, m_in, m_nar0, m_nar1, and_self, not_false_eq_true, not_true_eq_false, ne_eq, reduceIte, ite_self, Nat.reduceMul, Nat.reduceDiv, Nat.reduceMod, Nat.reducePow, Nat.zero_add, Nat.add_zero, Nat.one_mul, Nat.mul_one, n_in, n_min, n_clamp, n_eq_t, n_eq_f, n_eq, n_le_t, n_le_f, n_le, n_lt_t, n_lt_f, n_lt, n_sub0, n_sublt, n_suble, n_negsub, m_up_hit, m_up_miss, m_row_hit, m_row_miss, n_eqm, n_meq, n_meqm, n_ltm, n_lem, n_mlt, n_mle, n_sub, n_div, n_and1, n_shl, n_shr, n_inc, n_mul, n_rem, z_lt, z_le, z_nlt, z_nle, Nat.not_lt_zero, Nat.le_zero_eq, Nat.zero_le, if_true, if_false, ki, if_neg c]
    exact key
theorem r_closes {x : Int32} (hl : ML lay R) (h : MS I F S sp) (hc2 : S 68 < 1073741824) (hd : 2 ≤ d) (hQ : ∀ I', MS I' F (q_cls S x).2 sp → Om I F R I' F → Q (some (.int (q_cls S x).1)) I' F R n) : Ev lay d 115 0 [.ref 166, .int x] [] I F R n Q := by
  have ki : ∀ (x : Int32) (Q : mP), _ := fun x Q => r_isSlot (lay := lay) (x := x) (d := d - 1) (I := I) (F := F) (R := R) (n := n) (Q := Q) (by omega)
  unfold q_cls at hQ
  by_cases c : isS x
  · rw [if_pos c] at hQ
    obtain ⟨k, k1, k2, k3⟩ := isS_to c
    rw [k3] at hQ
    simp (disch := omega) only [e115_0, e115_1, e115_4, e115_7, e115_8, true_or, m_psh_s, m_psh_n, m_kl_i, m_kl_f, m_kl_r, m_kl_n, m_kl_j, m_kl_l, m_kl_d, c_i, c_f, c_r, c_n, List.length_nil, List.length_cons, true_and, and_true, Nat.reduceAdd, Nat.reduceLeDiff, Nat.reduceSub, Nat.reduceEqDiff, Nat.reduceLT, ge_iff_le, gt_iff_lt, n_lit, m_in, m_nar0, m_nar1, and_self, not_false_eq_true, not_true_eq_false, ne_eq, reduceIte, ite_self, Nat.reduceMul, Nat.reduceDiv, Nat.reduceMod, Nat.reducePow, Nat.zero_add, Nat.add_zero, Nat.one_mul, Nat.mul_one, n_in, n_min, n_clamp, n_eq_t, n_eq_f, n_eq, n_le_t, n_le_f, n_le, n_lt_t, n_lt_f, n_lt, n_sub0, n_sublt, n_suble, n_negsub, m_up_hit, m_up_miss, m_row_hit, m_row_miss, n_eqm, n_meq, n_meqm, n_ltm, n_lem, n_mlt, n_mle, n_sub, n_div, n_and1, n_shl, n_shr, n_inc, n_mul, n_rem, z_lt, z_le, z_nlt, z_nle, Nat.not_lt_zero, Nat.le_zero_eq, Nat.zero_le, if_true, if_false, ki, if_pos c]
    subst k2
    have h68 := h.1 68 (by omega)
    have key := hQ _ (MS_up h) (Om_up (by omega))
    have hx : S 68 ^^^ 2 ^ k < 2 ^ 30 := Nat.xor_lt_two_pow (n := 30) hc2 (Nat.pow_lt_pow_right (by decide) k1)
    have esh : nI 1 <<< (nI k &&& nI 31) = nI (2 ^ k) := by
      have h2 : (2 : Nat) ^ k ≤ 2 ^ 30 := Nat.pow_le_pow_right (by decide) (by omega)
      have := n_shl (x := 1) (k := k) (by omega) (by omega)
      rw [Nat.one_mul] at this
      exact this
    obtain ⟨hm0, hm1, hm2, hm3, hm4, hm5, hm6, hm7, hm8, hm9, hm10, hm11, hm12, hm13, hm14, hm15, hm16, hm17, hm18, hm19, hm20, hm21, hm22, hm23, hm24, hm25, hm26⟩ := hl
    simp (disch := omega) only [e115_9, e115_9N, e115_10, e115_13, e115_15, e115_16, e115_17, e115_18, e115_19, e115_20, e115_21, e115_22, e115_22N, e115_23, e115_26, e115_28, e115_29, e115_30, e115_31, e115_32, e115_33, true_or, m_psh_s, m_psh_n, m_kl_i, m_kl_f, m_kl_r, m_kl_n, m_kl_j, m_kl_l, m_kl_d, c_i, c_f, c_r, c_n, List.length_nil, List.length_cons, true_and, and_true, Nat.reduceAdd, Nat.reduceLeDiff, Nat.reduceSub, Nat.reduceEqDiff, Nat.reduceLT, ge_iff_le, gt_iff_lt, n_lit, m_in, m_nar0, m_nar1, and_self, not_false_eq_true, not_true_eq_false, ne_eq, reduceIte, ite_self, Nat.reduceMul, Nat.reduceDiv, Nat.reduceMod, Nat.reducePow, Nat.zero_add, Nat.add_zero, Nat.one_mul, Nat.mul_one, n_in, n_min, n_clamp, n_eq_t, n_eq_f, n_eq, n_le_t, n_le_f, n_le, n_lt_t, n_lt_f, n_lt, n_sub0, n_sublt, n_suble, n_negsub, m_up_hit, m_up_miss, m_row_hit, m_row_miss, n_eqm, n_meq, n_meqm, n_ltm, n_lem, n_mlt, n_mle, n_sub, n_div, n_and1, n_shl, n_shr, n_inc, n_mul, n_rem, z_lt, z_le, z_nlt, z_nle, Nat.not_lt_zero, Nat.le_zero_eq, Nat.zero_le, if_true, if_false, hm0, hm1, hm2, hm3, hm4, hm5, hm6, hm7, hm8, hm9, hm10, hm11, hm12, hm13, hm14, hm15, hm16, hm17, hm18, hm19, hm20, hm21, hm22, hm23, hm24, hm25, hm26, h68, esh, n_xor]
    exact key
  · rw [if_neg c] at hQ
    have key := hQ I h Om_refl
    simp (disch := omega) only [e115_0, e115_1, e115_4, e115_7, e115_8, true_or, m_psh_s, m_psh_n, m_kl_i, m_kl_f, m_kl_r, m_kl_n, m_kl_j, m_kl_l, m_kl_d, c_i, c_f, c_r, c_n, List.length_nil, List.length_cons, true_and, and_true, Nat.reduceAdd, Nat.reduceLeDiff, Nat.reduceSub, Nat.reduceEqDiff, Nat.reduceLT, ge_iff_le, gt_iff_lt, n_lit, m_in, m_nar0, m_nar1, and_self, not_false_eq_true, not_true_eq_false, ne_eq, reduceIte, ite_self, Nat.reduceMul, Nat.reduceDiv, Nat.reduceMod, Nat.reducePow, Nat.zero_add, Nat.add_zero, Nat.one_mul, Nat.mul_one, n_in, n_min, n_clamp, n_eq_t, n_eq_f, n_eq, n_le_t, n_le_f, n_le, n_lt_t, n_lt_f, n_lt, n_sub0, n_sublt, n_suble, n_negsub, m_up_hit, m_up_miss, m_row_hit, m_row_miss, n_eqm, n_meq, n_meqm, n_ltm, n_lem, n_mlt, n_mle, n_sub, n_div, n_and1, n_shl, n_shr, n_inc, n_mul, n_rem, z_lt, z_le, z_nlt, z_nle, Nat.not_lt_zero, Nat.le_zero_eq, Nat.zero_le, if_true, if_false, ki, if_neg c]
    exact key
end MODELE
