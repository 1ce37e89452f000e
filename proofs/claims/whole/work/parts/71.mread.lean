section MREAD
variable {lay : mL} {d a n n' : Nat} {I I' : mI} {F F' : mF} {R R' : mR} {Q : mP} {S : Nat → Nat} {sp : Nat → UInt32} {hi : List Nat} {pm pm' pl : Nat} {hs : List St} {pc : Nat → Nat} {sv : Nat → Option St}
theorem rng_ok {x : Int32} {m : Nat} (hm : m < 2147483648) : (nI 0 ≤ x ∧ x ≤ nI m - nI 1) ↔ ¬ (x < nI 0 ∨ m ≤ q_N x) := by
  rcases n_g x with ⟨k, hk, rfl⟩ | hx
  · rw [q_N_n hk, n_lt hk (by omega), n_le (by omega) hk]
    by_cases c : m = 0
    · subst c
      have e : nI 0 - nI 1 = -nI 1 := by decide
      rw [e, n_lem hk (by omega) (by omega)]
      constructor
      · intro z; exact z.2.elim
      · intro z; exact absurd (Or.inr (Nat.zero_le _)) z
    · rw [n_sub (by omega), n_le hk (by omega)]
      omega
  · rw [n_g2 hx (by omega)]
    constructor
    · intro z; exact z.1.elim
    · intro z; exact absurd (Or.inl hx) z
theorem m_of {x y : Int32} (hl : ML lay R) (h : MS I F S sp) (w : Wsh S) (ok : ∀ g, g < S 3 → fOK (sp g)) (hd : 2 ≤ d) (hQ : Q (some (.int (q_of S sp x y))) I F R n) : Ev lay d 132 0 [.ref 166, .int x, .int y] [] I F R n Q := by
  have hl' := hl
  have w1 := w.1
  have h3 := h.1 3 (by omega)
  have ki : ∀ (d : Nat) (v lo hi' : Int32) (Q : mP), _ := fun d v lo hi' Q => r_in (lay := lay) (d := d) (v := v) (lo := lo) (hi' := hi') (I := I) (F := F) (R := R) (n := n) (Q := Q)
  have er := rng_ok (x := x) (m := S 3) (by omega)
  unfold q_of at hQ
  by_cases c : x < nI 0 ∨ S 3 ≤ q_N x
  · rw [if_pos c] at hQ
    have nr : ¬ (nI 0 ≤ x ∧ x ≤ nI (S 3) - nI 1) := fun z => er.mp z c
    obtain ⟨hm0, hm1, hm2, hm3, hm4, hm5, hm6, hm7, hm8, hm9, hm10, hm11, hm12, hm13, hm14, hm15, hm16, hm17, hm18, hm19, hm20, hm21, hm22, hm23, hm24, hm25, hm26⟩ := hl
    simp (disch := omega) only [e132_0, e132_0N, e132_1, e132_2, e132_5, e132_8, e132_9, e133_0, e133_1, e133_2, e133_2N, e133_3, e133_6, e133_7, e133_8, e133_9, e133_10, e133_13, true_or, m_psh_s, m_psh_n, m_kl_i, m_kl_f, m_kl_r, m_kl_n, m_kl_j, m_kl_l, m_kl_d, c_i, c_f, c_r, c_n, List.length_nil, List.length_cons, true_and, and_true, Nat.reduceAdd, Nat.reduceLeDiff, Nat.reduceSub, Nat.reduceEqDiff, Nat.reduceLT, ge_iff_le, gt_iff_lt, n_lit, m_in, m_nar0, m_nar1, and_self, not_false_eq_true, not_true_eq_false, ne_eq, reduceIte, ite_self, Nat.reduceMul, Nat.reduceDiv, Nat.reduceMod, Nat.reducePow, Nat.zero_add, Nat.add_zero, Nat.one_mul, Nat.mul_one, n_in, n_min, n_clamp, n_eq_t, n_eq_f, n_eq, n_le_t, n_le_f, n_le, n_lt_t, n_lt_f, n_lt, n_sub0, n_sublt, n_suble, n_negsub, m_up_hit, m_up_miss, m_row_hit, m_row_miss, n_eqm, n_meq, n_meqm, n_ltm, n_lem, n_mlt, n_mle, n_sub, n_div, n_and1, n_shl, n_shr, n_inc, n_mul, n_rem, z_lt, z_le, z_nlt, z_nle, Nat.not_lt_zero, Nat.le_zero_eq, Nat.zero_le, if_true, if_false, hm0, hm1, hm2, hm3, hm4, hm5, hm6, hm7, hm8, hm9, hm10, hm11, hm12, hm13, hm14, hm15, hm16, hm17, hm18, hm19, hm20, hm21, hm22, hm23, hm24, hm25, hm26, h3, ki, if_neg nr]
    exact hQ
  · rw [if_neg c] at hQ
    obtain ⟨k, hk, rfl⟩ : ∃ k : Nat, k < 2147483648 ∧ x = nI k := by
      rcases n_g x with h | h
      · exact h
      · exact absurd (Or.inl h) c
    rw [q_N_n hk] at hQ c
    have ck : k < S 3 := by omega
    have nr : nI 0 ≤ nI k ∧ nI k ≤ nI (S 3 - 1) := by
      rw [n_le (by omega) hk, n_le hk (by omega)]
      omega
    have nr1 : nI 0 ≤ nI k ↔ True := n_le_t (by omega) hk
    have ks : ∀ (d : Nat) (Q : mP), 1 ≤ d → (_ ↔ _) := fun d Q hd => r_slotOf (g := k) (d := d) (n := n) (Q := Q) hl' h (by omega) hd
    have kf : ∀ (d : Nat) (Q : mP), 1 ≤ d → (_ ↔ _) := fun d Q hd => r_far (d := d) (n := n) (Q := Q) hl' h (w.2.1 k ck) hd
    have kb : ∀ (Q : mP), _ := fun Q => s_bitsOf (lay := lay) (d := d - 1) (I := I) (F := F) (R := R) (n := n) (Q := Q) (ok k ck)
    have pF := h.2 k (by omega)
    have p5 : I 167 (4 + 4 * k + 1) = nI (S (5 + 4 * k)) := by rw [show 4 + 4 * k + 1 = 5 + 4 * k by omega]; exact h.1 _ (by omega)
    have p6 : I 167 (4 + 4 * k + 2) = nI (S (6 + 4 * k)) := by rw [show 4 + 4 * k + 2 = 6 + 4 * k by omega]; exact h.1 _ (by omega)
    have p7 : I 167 (4 + 4 * k + 3) = nI (S (7 + 4 * k)) := by rw [show 4 + 4 * k + 3 = 7 + 4 * k by omega]; exact h.1 _ (by omega)
    obtain ⟨hm0, hm1, hm2, hm3, hm4, hm5, hm6, hm7, hm8, hm9, hm10, hm11, hm12, hm13, hm14, hm15, hm16, hm17, hm18, hm19, hm20, hm21, hm22, hm23, hm24, hm25, hm26⟩ := hl
    simp (disch := omega) only [e132_0, e132_0N, e132_1, e132_2, e132_5, e132_8, e132_9, e133_0, e133_1, e133_2, e133_2N, e133_3, e133_6, e133_7, e133_8, e133_9, e133_10, e133_13, true_or, m_psh_s, m_psh_n, m_kl_i, m_kl_f, m_kl_r, m_kl_n, m_kl_j, m_kl_l, m_kl_d, c_i, c_f, c_r, c_n, List.length_nil, List.length_cons, true_and, and_true, Nat.reduceAdd, Nat.reduceLeDiff, Nat.reduceSub, Nat.reduceEqDiff, Nat.reduceLT, ge_iff_le, gt_iff_lt, n_lit, m_in, m_nar0, m_nar1, and_self, not_false_eq_true, not_true_eq_false, ne_eq, reduceIte, ite_self, Nat.reduceMul, Nat.reduceDiv, Nat.reduceMod, Nat.reducePow, Nat.zero_add, Nat.add_zero, Nat.one_mul, Nat.mul_one, n_in, n_min, n_clamp, n_eq_t, n_eq_f, n_eq, n_le_t, n_le_f, n_le, n_lt_t, n_lt_f, n_lt, n_sub0, n_sublt, n_suble, n_negsub, m_up_hit, m_up_miss, m_row_hit, m_row_miss, n_eqm, n_meq, n_meqm, n_ltm, n_lem, n_mlt, n_mle, n_sub, n_div, n_and1, n_shl, n_shr, n_inc, n_mul, n_rem, z_lt, z_le, z_nlt, z_nle, Nat.not_lt_zero, Nat.le_zero_eq, Nat.zero_le, if_true, if_false, hm0, hm1, hm2, hm3, hm4, hm5, hm6, hm7, hm8, hm9, hm10, hm11, hm12, hm13, hm14, hm15, hm16, hm17, hm18, hm19, hm20, hm21, hm22, hm23, hm24, hm25, hm26, h3, ki]
    rcases sw_6 y with rfl | rfl | rfl | rfl | rfl | rfl | ⟨e0, e1, e2, e3, e4, e5⟩
    · simp (disch := omega) only [n_eq_t, n_eq_f, if_true, if_false] at hQ
      simp (disch := omega) only [e132_10, e132_11, e132_48, e132_48N, e132_49, e132_50, e132_53, e132_54, e132_54N, e132_55, e132_58, e132_59, e132_60, e132_63, e132_64, e132_64N, e132_65, e132_68, e132_69, e132_70, e132_71, e132_72, e132_75, e132_76, e132_77, e132_77N, e132_78, e132_78N, e132_79, e132_80, e132_83, e132_86, e132_87, e132_87N, e132_88, e132_91, e132_92, e132_93, e132_96, e132_97, e132_98, e132_100, true_or, m_psh_s, m_psh_n, m_kl_i, m_kl_f, m_kl_r, m_kl_n, m_kl_j, m_kl_l, m_kl_d, c_i, c_f, c_r, c_n, List.length_nil, List.length_cons, true_and, and_true, Nat.reduceAdd, Nat.reduceLeDiff, Nat.reduceSub, Nat.reduceEqDiff, Nat.reduceLT, ge_iff_le, gt_iff_lt, n_lit, m_in, m_nar0, m_nar1, and_self, not_false_eq_true, not_true_eq_false, ne_eq, reduceIte, ite_self, Nat.reduceMul, Nat.reduceDiv, Nat.reduceMod, Nat.reducePow, Nat.zero_add, Nat.add_zero, Nat.one_mul, Nat.mul_one, n_in, n_min, n_clamp, n_eq_t, n_eq_f, n_eq, n_le_t, n_le_f, n_le, n_lt_t, n_lt_f, n_lt, n_sub0, n_sublt, n_suble, n_negsub, m_up_hit, m_up_miss, m_row_hit, m_row_miss, n_eqm, n_meq, n_meqm, n_ltm, n_lem, n_mlt, n_mle, n_sub, n_div, n_and1, n_shl, n_shr, n_inc, n_mul, n_rem, z_lt, z_le, z_nlt, z_nle, Nat.not_lt_zero, Nat.le_zero_eq, Nat.zero_le, if_true, if_false, hm0, hm1, hm2, hm3, hm4, hm5, hm6, hm7, hm8, hm9, hm10, hm11, hm12, hm13, hm14, hm15, hm16, hm17, hm18, hm19, hm20, hm21, hm22, hm23, hm24, hm25, hm26, ks, kf, kb, pF, r_ofGood, p5, p6, p7]
      exact hQ
    · simp (disch := omega) only [n_eq_t, n_eq_f, if_true, if_false] at hQ
      simp (disch := omega) only [e132_10, e132_11, e132_48, e132_48N, e132_49, e132_50, e132_53, e132_54, e132_54N, e132_55, e132_58, e132_59, e132_60, e132_63, e132_64, e132_64N, e132_65, e132_68, e132_69, e132_70, e132_71, e132_72, e132_75, e132_76, e132_77, e132_77N, e132_78, e132_78N, e132_79, e132_80, e132_83, e132_86, e132_87, e132_87N, e132_88, e132_91, e132_92, e132_93, e132_96, e132_97, e132_98, e132_100, true_or, m_psh_s, m_psh_n, m_kl_i, m_kl_f, m_kl_r, m_kl_n, m_kl_j, m_kl_l, m_kl_d, c_i, c_f, c_r, c_n, List.length_nil, List.length_cons, true_and, and_true, Nat.reduceAdd, Nat.reduceLeDiff, Nat.reduceSub, Nat.reduceEqDiff, Nat.reduceLT, ge_iff_le, gt_iff_lt, n_lit, m_in, m_nar0, m_nar1, and_self, not_false_eq_true, not_true_eq_false, ne_eq, reduceIte, ite_self, Nat.reduceMul, Nat.reduceDiv, Nat.reduceMod, Nat.reducePow, Nat.zero_add, Nat.add_zero, Nat.one_mul, Nat.mul_one, n_in, n_min, n_clamp, n_eq_t, n_eq_f, n_eq, n_le_t, n_le_f, n_le, n_lt_t, n_lt_f, n_lt, n_sub0, n_sublt, n_suble, n_negsub, m_up_hit, m_up_miss, m_row_hit, m_row_miss, n_eqm, n_meq, n_meqm, n_ltm, n_lem, n_mlt, n_mle, n_sub, n_div, n_and1, n_shl, n_shr, n_inc, n_mul, n_rem, z_lt, z_le, z_nlt, z_nle, Nat.not_lt_zero, Nat.le_zero_eq, Nat.zero_le, if_true, if_false, hm0, hm1, hm2, hm3, hm4, hm5, hm6, hm7, hm8, hm9, hm10, hm11, hm12, hm13, hm14, hm15, hm16, hm17, hm18, hm19, hm20, hm21, hm22, hm23, hm24, hm25, hm26, ks, kf, kb, pF, r_ofGood, p5, p6, p7]
      exact hQ
    · simp (disch := omega) only [n_eq_t, n_eq_f, if_true, if_false] at hQ
      simp (disch := omega) only [e132_10, e132_11, e132_48, e132_48N, e132_49, e132_50, e132_53, e132_54, e132_54N, e132_55, e132_58, e132_59, e132_60, e132_63, e132_64, e132_64N, e132_65, e132_68, e132_69, e132_70, e132_71, e132_72, e132_75, e132_76, e132_77, e132_77N, e132_78, e132_78N, e132_79, e132_80, e132_83, e132_86, e132_87, e132_87N, e132_88, e132_91, e132_92, e132_93, e132_96, e132_97, e132_98, e132_100, true_or, m_psh_s, m_psh_n, m_kl_i, m_kl_f, m_kl_r, m_kl_n, m_kl_j, m_kl_l, m_kl_d, c_i, c_f, c_r, c_n, List.length_nil, List.length_cons, true_and, and_true, Nat.reduceAdd, Nat.reduceLeDiff, Nat.reduceSub, Nat.reduceEqDiff, Nat.reduceLT, ge_iff_le, gt_iff_lt, n_lit, m_in, m_nar0, m_nar1, and_self, not_false_eq_true, not_true_eq_false, ne_eq, reduceIte, ite_self, Nat.reduceMul, Nat.reduceDiv, Nat.reduceMod, Nat.reducePow, Nat.zero_add, Nat.add_zero, Nat.one_mul, Nat.mul_one, n_in, n_min, n_clamp, n_eq_t, n_eq_f, n_eq, n_le_t, n_le_f, n_le, n_lt_t, n_lt_f, n_lt, n_sub0, n_sublt, n_suble, n_negsub, m_up_hit, m_up_miss, m_row_hit, m_row_miss, n_eqm, n_meq, n_meqm, n_ltm, n_lem, n_mlt, n_mle, n_sub, n_div, n_and1, n_shl, n_shr, n_inc, n_mul, n_rem, z_lt, z_le, z_nlt, z_nle, Nat.not_lt_zero, Nat.le_zero_eq, Nat.zero_le, if_true, if_false, hm0, hm1, hm2, hm3, hm4, hm5, hm6, hm7, hm8, hm9, hm10, hm11, hm12, hm13, hm14, hm15, hm16, hm17, hm18, hm19, hm20, hm21, hm22, hm23, hm24, hm25, hm26, ks, kf, kb, pF, r_ofGood, p5, p6, p7]
      exact hQ
    · simp (disch := omega) only [n_eq_t, n_eq_f, if_true, if_false] at hQ
      simp (disch := omega) only [e132_10, e132_11, e132_48, e132_48N, e132_49, e132_50, e132_53, e132_54, e132_54N, e132_55, e132_58, e132_59, e132_60, e132_63, e132_64, e132_64N, e132_65, e132_68, e132_69, e132_70, e132_71, e132_72, e132_75, e132_76, e132_77, e132_77N, e132_78, e132_78N, e132_79, e132_80, e132_83, e132_86, e132_87, e132_87N, e132_88, e132_91, e132_92, e132_93, e132_96, e132_97, e132_98, e132_100, true_or, m_psh_s, m_psh_n, m_kl_i, m_kl_f, m_kl_r, m_kl_n, m_kl_j, m_kl_l, m_kl_d, c_i, c_f, c_r, c_n, List.length_nil, List.length_cons, true_and, and_true, Nat.reduceAdd, Nat.reduceLeDiff, Nat.reduceSub, Nat.reduceEqDiff, Nat.reduceLT, ge_iff_le, gt_iff_lt, n_lit, m_in, m_nar0, m_nar1, and_self, not_false_eq_true, not_true_eq_false, ne_eq, reduceIte, ite_self, Nat.reduceMul, Nat.reduceDiv, Nat.reduceMod, Nat.reducePow, Nat.zero_add, Nat.add_zero, Nat.one_mul, Nat.mul_one, n_in, n_min, n_clamp, n_eq_t, n_eq_f, n_eq, n_le_t, n_le_f, n_le, n_lt_t, n_lt_f, n_lt, n_sub0, n_sublt, n_suble, n_negsub, m_up_hit, m_up_miss, m_row_hit, m_row_miss, n_eqm, n_meq, n_meqm, n_ltm, n_lem, n_mlt, n_mle, n_sub, n_div, n_and1, n_shl, n_shr, n_inc, n_mul, n_rem, z_lt, z_le, z_nlt, z_nle, Nat.not_lt_zero, Nat.le_zero_eq, Nat.zero_le, if_true, if_false, hm0, hm1, hm2, hm3, hm4, hm5, hm6, hm7, hm8, hm9, hm10, hm11, hm12, hm13, hm14, hm15, hm16, hm17, hm18, hm19, hm20, hm21, hm22, hm23, hm24, hm25, hm26, ks, kf, kb, pF, r_ofGood, p5, p6, p7]
      exact hQ
    · simp (disch := omega) only [n_eq_t, n_eq_f, if_true, if_false] at hQ
      simp (disch := omega) only [e132_10, e132_11, e132_48, e132_48N, e132_49, e132_50, e132_53, e132_54, e132_54N, e132_55, e132_58, e132_59, e132_60, e132_63, e132_64, e132_64N, e132_65, e132_68, e132_69, e132_70, e132_71, e132_72, e132_75, e132_76, e132_77, e132_77N, e132_78, e132_78N, e132_79, e132_80, e132_83, e132_86, e132_87, e132_87N, e132_88, e132_91, e132_92, e132_93, e132_96, e132_97, e132_98, e132_100, true_or, m_psh_s, m_psh_n, m_kl_i, m_kl_f, m_kl_r, m_kl_n, m_kl_j, m_kl_l, m_kl_d, c_i, c_f, c_r, c_n, List.length_nil, List.length_cons, true_and, and_true, Nat.reduceAdd, Nat.reduceLeDiff, Nat.reduceSub, Nat.reduceEqDiff, Nat.reduceLT, ge_iff_le, gt_iff_lt, n_lit, m_in, m_nar0, m_nar1, and_self, not_false_eq_true, not_true_eq_false, ne_eq, reduceIte, ite_self, Nat.reduceMul, Nat.reduceDiv, Nat.reduceMod, Nat.reducePow, Nat.zero_add, Nat.add_zero, Nat.one_mul, Nat.mul_one, n_in, n_min, n_clamp, n_eq_t, n_eq_f, n_eq, n_le_t, n_le_f, n_le, n_lt_t, n_lt_f, n_lt, n_sub0, n_sublt, n_suble, n_negsub, m_up_hit, m_up_miss, m_row_hit, m_row_miss, n_eqm, n_meq, n_meqm, n_ltm, n_lem, n_mlt, n_mle, n_sub, n_div, n_and1, n_shl, n_shr, n_inc, n_mul, n_rem, z_lt, z_le, z_nlt, z_nle, Nat.not_lt_zero, Nat.le_zero_eq, Nat.zero_le, if_true, if_false, hm0, hm1, hm2, hm3, hm4, hm5, hm6, hm7, hm8, hm9, hm10, hm11, hm12, hm13, hm14, hm15, hm16, hm17, hm18, hm19, hm20, hm21, hm22, hm23, hm24, hm25, hm26, ks, kf, kb, pF, r_ofGood, p5, p6, p7]
      exact hQ
    · simp (disch := omega) only [n_eq_t, n_eq_f, if_true, if_false] at hQ
      simp (disch := omega) only [e132_10, e132_11, e132_48, e132_48N, e132_49, e132_50, e132_53, e132_54, e132_54N, e132_55, e132_58, e132_59, e132_60, e132_63, e132_64, e132_64N, e132_65, e132_68, e132_69, e132_70, e132_71, e132_72, e132_75, e132_76, e132_77, e132_77N, e132_78, e132_78N, e132_79, e132_80, e132_83, e132_86, e132_87, e132_87N, e132_88, e132_91, e132_92, e132_93, e132_96, e132_97, e132_98, e132_100, true_or, m_psh_s, m_psh_n, m_kl_i, m_kl_f, m_kl_r, m_kl_n, m_kl_j, m_kl_l, m_kl_d, c_i, c_f, c_r, c_n, List.length_nil, List.length_cons, true_and, and_true, Nat.reduceAdd, Nat.reduceLeDiff, Nat.reduceSub, Nat.reduceEqDiff, Nat.reduceLT, ge_iff_le, gt_iff_lt, n_lit, m_in, m_nar0, m_nar1, and_self, not_false_eq_true, not_true_eq_false, ne_eq, reduceIte, ite_self, Nat.reduceMul, Nat.reduceDiv, Nat.reduceMod, Nat.reducePow, Nat.zero_add, Nat.add_zero, Nat.one_mul, Nat.mul_one, n_in, n_min, n_clamp, n_eq_t, n_eq_f, n_eq, n_le_t, n_le_f, n_le, n_lt_t, n_lt_f, n_lt, n_sub0, n_sublt, n_suble, n_negsub, m_up_hit, m_up_miss, m_row_hit, m_row_miss, n_eqm, n_meq, n_meqm, n_ltm, n_lem, n_mlt, n_mle, n_sub, n_div, n_and1, n_shl, n_shr, n_inc, n_mul, n_rem, z_lt, z_le, z_nlt, z_nle, Nat.not_lt_zero, Nat.le_zero_eq, Nat.zero_le, if_true, if_false, hm0, hm1, hm2, hm3, hm4, hm5, hm6, hm7, hm8, hm9, hm10, hm11, hm12, hm13, hm14, hm15, hm16, hm17, hm18, hm19, hm20, hm21, hm22, hm23, hm24, hm25, hm26, ks, kf, kb, pF, r_ofGood, p5, p6, p7]
      exact hQ
    · simp only [e0, e1, e2, e3, e4, e5, if_false] at hQ
      simp (disch := omega) only [e132_10, e132_11, e132_48, e132_48N, e132_49, e132_50, e132_53, e132_54, e132_54N, e132_55, e132_58, e132_59, e132_60, e132_63, e132_64, e132_64N, e132_65, e132_68, e132_69, e132_70, e132_71, e132_72, e132_75, e132_76, e132_77, e132_77N, e132_78, e132_78N, e132_79, e132_80, e132_83, e132_86, e132_87, e132_87N, e132_88, e132_91, e132_92, e132_93, e132_96, e132_97, e132_98, e132_100, true_or, m_psh_s, m_psh_n, m_kl_i, m_kl_f, m_kl_r, m_kl_n, m_kl_j, m_kl_l, m_kl_d, c_i, c_f, c_r, c_n, List.length_nil, List.length_cons, true_and, and_true, Nat.reduceAdd, Nat.reduceLeDiff, Nat.reduceSub, Nat.reduceEqDiff, Nat.reduceLT, ge_iff_le, gt_iff_lt, n_lit, m_in, m_nar0, m_nar1, and_self, not_false_eq_true, not_true_eq_false, ne_eq, reduceIte, ite_self, Nat.reduceMul, Nat.reduceDiv, Nat.reduceMod, Nat.reducePow, Nat.zero_add, Nat.add_zero, Nat.one_mul, Nat.mul_one, n_in, n_min, n_clamp, n_eq_t, n_eq_f, n_eq, n_le_t, n_le_f, n_le, n_lt_t, n_lt_f, n_lt, n_sub0, n_sublt, n_suble, n_negsub, m_up_hit, m_up_miss, m_row_hit, m_row_miss, n_eqm, n_meq, n_meqm, n_ltm, n_lem, n_mlt, n_mle, n_sub, n_div, n_and1, n_shl, n_shr, n_inc, n_mul, n_rem, z_lt, z_le, z_nlt, z_nle, Nat.not_lt_zero, Nat.le_zero_eq, Nat.zero_le, if_true, if_false, hm0, hm1, hm2, hm3, hm4, hm5, hm6, hm7, hm8, hm9, hm10, hm11, hm12, hm13, hm14, hm15, hm16, hm17, hm18, hm19, hm20, hm21, hm22, hm23, hm24, hm25, hm26, e0, e1, e2, e3, e4, e5]
      exact hQ
theorem m_ofSlot {x y : Int32} (hl : ML lay R) (h : MS I F S sp) (w : Wsh S) (hc2 : S 68 < 1073741824) (hd : 3 ≤ d) (hQ : Q (some (.int (q_ofS S x y))) I F R n) : Ev lay d 135 0 [.ref 166, .int x, .int y] [] I F R n Q := by
  have hl' := hl
  have m0 := hl.1
  have ki : ∀ (x : Int32) (Q : mP), _ := fun x Q => r_isSlot (lay := lay) (x := x) (d := d - 1) (I := I) (F := F) (R := R) (n := n) (Q := Q) (by omega)
  unfold q_ofS at hQ
  by_cases c : isS x
  · obtain ⟨k, k1, k2, k3⟩ := isS_to c
    rw [if_pos c, k3] at hQ
    have kg : ∀ (Q : mP), _ := fun Q => r_goodIn (d := d - 1) (n := n) (Q := Q) hl' h w k1 (by omega)
    have kf : ∀ (Q : mP), _ := fun Q => r_far (d := d - 1) (n := n) (Q := Q) hl' h k1 (by omega)
    have ko : ∀ (Q : mP), _ := fun Q => r_isOpen (d := d - 1) (n := n) (Q := Q) hl' h k1 hc2
    simp (disch := omega) only [e135_0, e135_1, e135_4, e135_7, e135_8, e135_9, true_or, m_psh_s, m_psh_n, m_kl_i, m_kl_f, m_kl_r, m_kl_n, m_kl_j, m_kl_l, m_kl_d, c_i, c_f, c_r, c_n, List.length_nil, List.length_cons, true_and, and_true, Nat.reduceAdd, Nat.reduceLeDiff, Nat.reduceSub, Nat.reduceEqDiff, Nat.reduceLT, ge_iff_le, gt_iff_lt, n_lit, m_in, m_nar0, m_nar1, and_self, not_false_eq_true, not_true_eq_false, ne_eq, reduceIte, ite_self, Nat.reduceMul, Nat.reduceDiv, Nat.reduceMod, Nat.reducePow, Nat.zero_add, Nat.add_zero, Nat.one_mul, Nat.mul_one, n_in, n_min, n_clamp, n_eq_t, n_eq_f, n_eq, n_le_t, n_le_f, n_le, n_lt_t, n_lt_f, n_lt, n_sub0, n_sublt, n_suble, n_negsub, m_up_hit, m_up_miss, m_row_hit, m_row_miss, n_eqm, n_meq, n_meqm, n_ltm, n_lem, n_mlt, n_mle, n_sub, n_div, n_and1, n_shl, n_shr, n_inc, n_mul, n_rem, z_lt, z_le, z_nlt, z_nle, Nat.not_lt_zero, Nat.le_zero_eq, Nat.zero_le, if_true, if_false, ki, if_pos c]
    subst k2
    rcases sw_3 y with rfl | rfl | rfl | ⟨e0, e1, e2⟩
    · simp (disch := omega) only [n_eq_t, n_eq_f, if_true, if_false] at hQ
      simp (disch := omega) only [e135_10, e135_36, e135_36N, e135_37, e135_38, e135_41, e135_42, e135_42N, e135_43, e135_44, e135_47, e135_48, e135_48N, e135_49, e135_50, e135_53, e135_56, e135_57, e135_60, e135_61, e135_62, e135_64, true_or, m_psh_s, m_psh_n, m_kl_i, m_kl_f, m_kl_r, m_kl_n, m_kl_j, m_kl_l, m_kl_d, c_i, c_f, c_r, c_n, List.length_nil, List.length_cons, true_and, and_true, Nat.reduceAdd, Nat.reduceLeDiff, Nat.reduceSub, Nat.reduceEqDiff, Nat.reduceLT, ge_iff_le, gt_iff_lt, n_lit, m_in, m_nar0, m_nar1, and_self, not_false_eq_true, not_true_eq_false, ne_eq, reduceIte, ite_self, Nat.reduceMul, Nat.reduceDiv, Nat.reduceMod, Nat.reducePow, Nat.zero_add, Nat.add_zero, Nat.one_mul, Nat.mul_one, n_in, n_min, n_clamp, n_eq_t, n_eq_f, n_eq, n_le_t, n_le_f, n_le, n_lt_t, n_lt_f, n_lt, n_sub0, n_sublt, n_suble, n_negsub, m_up_hit, m_up_miss, m_row_hit, m_row_miss, n_eqm, n_meq, n_meqm, n_ltm, n_lem, n_mlt, n_mle, n_sub, n_div, n_and1, n_shl, n_shr, n_inc, n_mul, n_rem, z_lt, z_le, z_nlt, z_nle, Nat.not_lt_zero, Nat.le_zero_eq, Nat.zero_le, if_true, if_false, m0, kg]
      exact hQ
    · simp (disch := omega) only [n_eq_t, n_eq_f, if_true, if_false] at hQ
      simp (disch := omega) only [e135_10, e135_36, e135_36N, e135_37, e135_38, e135_41, e135_42, e135_42N, e135_43, e135_44, e135_47, e135_48, e135_48N, e135_49, e135_50, e135_53, e135_56, e135_57, e135_60, e135_61, e135_62, e135_64, true_or, m_psh_s, m_psh_n, m_kl_i, m_kl_f, m_kl_r, m_kl_n, m_kl_j, m_kl_l, m_kl_d, c_i, c_f, c_r, c_n, List.length_nil, List.length_cons, true_and, and_true, Nat.reduceAdd, Nat.reduceLeDiff, Nat.reduceSub, Nat.reduceEqDiff, Nat.reduceLT, ge_iff_le, gt_iff_lt, n_lit, m_in, m_nar0, m_nar1, and_self, not_false_eq_true, not_true_eq_false, ne_eq, reduceIte, ite_self, Nat.reduceMul, Nat.reduceDiv, Nat.reduceMod, Nat.reducePow, Nat.zero_add, Nat.add_zero, Nat.one_mul, Nat.mul_one, n_in, n_min, n_clamp, n_eq_t, n_eq_f, n_eq, n_le_t, n_le_f, n_le, n_lt_t, n_lt_f, n_lt, n_sub0, n_sublt, n_suble, n_negsub, m_up_hit, m_up_miss, m_row_hit, m_row_miss, n_eqm, n_meq, n_meqm, n_ltm, n_lem, n_mlt, n_mle, n_sub, n_div, n_and1, n_shl, n_shr, n_inc, n_mul, n_rem, z_lt, z_le, z_nlt, z_nle, Nat.not_lt_zero, Nat.le_zero_eq, Nat.zero_le, if_true, if_false, m0, kf]
      exact hQ
    · simp (disch := omega) only [n_eq_t, n_eq_f, if_true, if_false] at hQ
      have hm : S 68 / 2 ^ k % 2 = 0 ∨ S 68 / 2 ^ k % 2 = 1 := by omega
      rcases hm with hm | hm
      · rw [hm] at hQ ko
        simp (disch := omega) only [e135_10, e135_36, e135_36N, e135_37, e135_38, e135_41, e135_42, e135_42N, e135_43, e135_44, e135_47, e135_48, e135_48N, e135_49, e135_50, e135_53, e135_56, e135_57, e135_60, e135_61, e135_62, e135_64, true_or, m_psh_s, m_psh_n, m_kl_i, m_kl_f, m_kl_r, m_kl_n, m_kl_j, m_kl_l, m_kl_d, c_i, c_f, c_r, c_n, List.length_nil, List.length_cons, true_and, and_true, Nat.reduceAdd, Nat.reduceLeDiff, Nat.reduceSub, Nat.reduceEqDiff, Nat.reduceLT, ge_iff_le, gt_iff_lt, n_lit, m_in, m_nar0, m_nar1, and_self, not_false_eq_true, not_true_eq_false, ne_eq, reduceIte, ite_self, Nat.reduceMul, Nat.reduceDiv, Nat.reduceMod, Nat.reducePow, Nat.zero_add, Nat.add_zero, Nat.one_mul, Nat.mul_one, n_in, n_min, n_clamp, n_eq_t, n_eq_f, n_eq, n_le_t, n_le_f, n_le, n_lt_t, n_lt_f, n_lt, n_sub0, n_sublt, n_suble, n_negsub, m_up_hit, m_up_miss, m_row_hit, m_row_miss, n_eqm, n_meq, n_meqm, n_ltm, n_lem, n_mlt, n_mle, n_sub, n_div, n_and1, n_shl, n_shr, n_inc, n_mul, n_rem, z_lt, z_le, z_nlt, z_nle, Nat.not_lt_zero, Nat.le_zero_eq, Nat.zero_le, if_true, if_false, m0, ko]
        exact hQ
      · rw [hm] at hQ ko
        simp (disch := omega) only [e135_10, e135_36, e135_36N, e135_37, e135_38, e135_41, e135_42, e135_42N, e135_43, e135_44, e135_47, e135_48, e135_48N, e135_49, e135_50, e135_53, e135_56, e135_57, e135_60, e135_61, e135_62, e135_64, true_or, m_psh_s, m_psh_n, m_kl_i, m_kl_f, m_kl_r, m_kl_n, m_kl_j, m_kl_l, m_kl_d, c_i, c_f, c_r, c_n, List.length_nil, List.length_cons, true_and, and_true, Nat.reduceAdd, Nat.reduceLeDiff, Nat.reduceSub, Nat.reduceEqDiff, Nat.reduceLT, ge_iff_le, gt_iff_lt, n_lit, m_in, m_nar0, m_nar1, and_self, not_false_eq_true, not_true_eq_false, ne_eq, reduceIte, ite_self, Nat.reduceMul, Nat.reduceDiv, Nat.reduceMod, Nat.reducePow, Nat.zero_add, Nat.add_zero, Nat.one_mul, Nat.mul_one, n_in, n_min, n_clamp, n_eq_t, n_eq_f, n_eq, n_le_t, n_le_f, n_le, n_lt_t, n_lt_f, n_lt, n_sub0, n_sublt, n_suble, n_negsub, m_up_hit, m_up_miss, m_row_hit, m_row_miss, n_eqm, n_meq, n_meqm, n_ltm, n_lem, n_mlt, n_mle, n_sub, n_div, n_and1, n_shl, n_shr, n_inc, n_mul, n_rem, z_lt, z_le, z_nlt, z_nle, Nat.not_lt_zero, Nat.le_zero_eq, Nat.zero_le, if_true, if_false, m0, ko]
        exact hQ
    · simp only [e0, e1, e2, if_false] at hQ
      simp (disch := omega) only [e135_10, e135_36, e135_36N, e135_37, e135_38, e135_41, e135_42, e135_42N, e135_43, e135_44, e135_47, e135_48, e135_48N, e135_49, e135_50, e135_53, e135_56, e135_57, e135_60, e135_61, e135_62, e135_64, true_or, m_psh_s, m_psh_n, m_kl_i, m_kl_f, m_kl_r, m_kl_n, m_kl_j, m_kl_l, m_kl_d, c_i, c_f, c_r, c_n, List.length_nil, List.length_cons, true_and, and_true, Nat.reduceAdd, Nat.reduceLeDiff, Nat.reduceSub, Nat.reduceEqDiff, Nat.reduceLT, ge_iff_le, gt_iff_lt, n_lit, m_in, m_nar0, m_nar1, and_self, not_false_eq_true, not_true_eq_false, ne_eq, reduceIte, ite_self, Nat.reduceMul, Nat.reduceDiv, Nat.reduceMod, Nat.reducePow, Nat.zero_add, Nat.add_zero, Nat.one_mul, Nat.mul_one, n_in, n_min, n_clamp, n_eq_t, n_eq_f, n_eq, n_le_t, n_le_f, n_le, n_lt_t, n_lt_f, n_lt, n_sub0, n_sublt, n_suble, n_negsub, m_up_hit, m_up_miss, m_row_hit, m_row_miss, n_eqm, n_meq, n_meqm, n_ltm, n_lem, n_mlt, n_mle, n_sub, n_div, n_and1, n_shl, n_shr, n_inc, n_mul, n_rem, z_lt, z_le, z_nlt, z_nle, Nat.not_lt_zero, Nat.le_zero_eq, Nat.zero_le, if_true, if_false, e0, e1, e2]
      exact hQ
  · rw [if_neg c] at hQ
    simp (disch := omega) only [e135_0, e135_1, e135_4, e135_7, e135_8, e135_9, true_or, m_psh_s, m_psh_n, m_kl_i, m_kl_f, m_kl_r, m_kl_n, m_kl_j, m_kl_l, m_kl_d, c_i, c_f, c_r, c_n, List.length_nil, List.length_cons, true_and, and_true, Nat.reduceAdd, Nat.reduceLeDiff, Nat.reduceSub, Nat.reduceEqDiff, Nat.reduceLT, ge_iff_le, gt_iff_lt, n_lit, m_in, m_nar0, m_nar1, and_self, not_false_eq_true, not_true_eq_false, ne_eq, reduceIte, ite_self, Nat.reduceMul, Nat.reduceDiv, Nat.reduceMod, Nat.reducePow, Nat.zero_add, Nat.add_zero, Nat.one_mul, Nat.mul_one, n_in, n_min, n_clamp, n_eq_t, n_eq_f, n_eq, n_le_t, n_le_f, n_le, n_lt_t, n_lt_f, n_lt, n_sub0, n_sublt, n_suble, n_negsub, m_up_hit, m_up_miss, m_row_hit, m_row_miss, n_eqm, n_meq, n_meqm, n_ltm, n_lem, n_mlt, n_mle, n_sub, n_div, n_and1, n_shl, n_shr, n_inc, n_mul, n_rem, z_lt, z_le, z_nlt, z_nle, Nat.not_lt_zero, Nat.le_zero_eq, Nat.zero_le, if_true, if_false, ki, if_neg c]
    exact hQ
theorem m_steps {x y : Int32} (hl : ML lay R) (h : MS I F S sp) (hd : 2 ≤ d) (hQ : Q (some (.int (q_sps S x y))) I F R n) : Ev lay d 136 0 [.ref 166, .int x, .int y] [] I F R n Q := by
  have hl' := hl
  have m0 := hl.1
  have ki : ∀ (x : Int32) (Q : mP), _ := fun x Q => r_isSlot (lay := lay) (x := x) (d := d - 1) (I := I) (F := F) (R := R) (n := n) (Q := Q) (by omega)
  unfold q_sps at hQ
  by_cases c : isS x
  · by_cases c2 : isS y
    · rw [if_pos ⟨c, c2⟩] at hQ
      obtain ⟨k, k1, k2, k3⟩ := isS_to c
      obtain ⟨j, j1, j2, j3⟩ := isS_to c2
      have ks : ∀ (Q : mP), _ := fun Q => r_stepsOf (d := d - 1) (n := n) (Q := Q) hl' h k1 j1
      rw [k3, j3] at hQ
      simp (disch := omega) only [e136_0, e136_1, e136_4, e136_7, e136_8, e136_11, true_or, m_psh_s, m_psh_n, m_kl_i, m_kl_f, m_kl_r, m_kl_n, m_kl_j, m_kl_l, m_kl_d, c_i, c_f, c_r, c_n, List.length_nil, List.length_cons, true_and, and_true, Nat.reduceAdd, Nat.reduceLeDiff, Nat.reduceSub, Nat.reduceEqDiff, Nat.reduceLT, ge_iff_le, gt_iff_lt, n_lit, m_in, m_nar0, m_nar1, and_self, not_false_eq_true, not_true_eq_false, ne_eq, reduceIte, ite_self, Nat.reduceMul, Nat.reduceDiv, Nat.reduceMod, Nat.reducePow, Nat.zero_add, Nat.add_zero, Nat.one_mul, Nat.mul_one, n_in, n_min, n_clamp, n_eq_t, n_eq_f, n_eq, n_le_t, n_le_f, n_le, n_lt_t, n_lt_f, n_lt, n_sub0, n_sublt, n_suble, n_negsub, m_up_hit, m_up_miss, m_row_hit, m_row_miss, n_eqm, n_meq, n_meqm, n_ltm, n_lem, n_mlt, n_mle, n_sub, n_div, n_and1, n_shl, n_shr, n_inc, n_mul, n_rem, z_lt, z_le, z_nlt, z_nle, Nat.not_lt_zero, Nat.le_zero_eq, Nat.zero_le, if_true, if_false, ki, if_pos c, if_pos c2]
      subst k2
      subst j2
      simp (disch := omega) only [e136_14, e136_14N, e136_15, e136_16, e136_17, e136_20, e136_23, e136_24, true_or, m_psh_s, m_psh_n, m_kl_i, m_kl_f, m_kl_r, m_kl_n, m_kl_j, m_kl_l, m_kl_d, c_i, c_f, c_r, c_n, List.length_nil, List.length_cons, true_and, and_true, Nat.reduceAdd, Nat.reduceLeDiff, Nat.reduceSub, Nat.reduceEqDiff, Nat.reduceLT, ge_iff_le, gt_iff_lt, n_lit, m_in, m_nar0, m_nar1, and_self, not_false_eq_true, not_true_eq_false, ne_eq, reduceIte, ite_self, Nat.reduceMul, Nat.reduceDiv, Nat.reduceMod, Nat.reducePow, Nat.zero_add, Nat.add_zero, Nat.one_mul, Nat.mul_one, n_in, n_min, n_clamp, n_eq_t, n_eq_f, n_eq, n_le_t, n_le_f, n_le, n_lt_t, n_lt_f, n_lt, n_sub0, n_sublt, n_suble, n_negsub, m_up_hit, m_up_miss, m_row_hit, m_row_miss, n_eqm, n_meq, n_meqm, n_ltm, n_lem, n_mlt, n_mle, n_sub, n_div, n_and1, n_shl, n_shr, n_inc, n_mul, n_rem, z_lt, z_le, z_nlt, z_nle, Nat.not_lt_zero, Nat.le_zero_eq, Nat.zero_le, if_true, if_false, m0, ks]
      exact hQ
    · rw [if_neg (fun z => c2 z.2)] at hQ
      simp (disch := omega) only [e136_0, e136_1, e136_4, e136_7, e136_8, e136_11, e136_14, e136_14N, e136_15, e136_16, e136_17, e136_20, e136_23, e136_24, true_or, m_psh_s, m_psh_n, m_kl_i, m_kl_f, m_kl_r, m_kl_n, m_kl_j, m_kl_l, m_kl_d, c_i, c_f, c_r, c_n, List.length_nil, List.length_cons, true_and, and_true, Nat.reduceAdd, Nat.reduceLeDiff, Nat.reduceSub, Nat.reduceEqDiff, Nat.reduceLT, ge_iff_le, gt_iff_lt, n_lit, m_in, m_nar0, m_nar1, and_self, not_false_eq_true, not_true_eq_false, ne_eq, reduceIte, ite_self, Nat.reduceMul, Nat.reduceDiv, Nat.reduceMod, Nat.reducePow, Nat.zero_add, Nat.add_zero, Nat.one_mul, Nat.mul_one, n_in, n_min, n_clamp, n_eq_t, n_eq_f, n_eq, n_le_t, n_le_f, n_le, n_lt_t, n_lt_f, n_lt, n_sub0, n_sublt, n_suble, n_negsub, m_up_hit, m_up_miss, m_row_hit, m_row_miss, n_eqm, n_meq, n_meqm, n_ltm, n_lem, n_mlt, n_mle, n_sub, n_div, n_and1, n_shl, n_shr, n_inc, n_mul, n_rem, z_lt, z_le, z_nlt, z_nle, Nat.not_lt_zero, Nat.le_zero_eq, Nat.zero_le, if_true, if_false, ki, if_pos c, if_neg c2]
      exact hQ
  · rw [if_neg (fun z => c z.1)] at hQ
    simp (disch := omega) only [e136_0, e136_1, e136_4, e136_7, e136_8, e136_11, e136_14, e136_14N, e136_15, e136_16, e136_17, e136_20, e136_23, e136_24, true_or, m_psh_s, m_psh_n, m_kl_i, m_kl_f, m_kl_r, m_kl_n, m_kl_j, m_kl_l, m_kl_d, c_i, c_f, c_r, c_n, List.length_nil, List.length_cons, true_and, and_true, Nat.reduceAdd, Nat.reduceLeDiff, Nat.reduceSub, Nat.reduceEqDiff, Nat.reduceLT, ge_iff_le, gt_iff_lt, n_lit, m_in, m_nar0, m_nar1, and_self, not_false_eq_true, not_true_eq_false, ne_eq, reduceIte, ite_self, Nat.reduceMul, Nat.reduceDiv, Nat.reduceMod, Nat.reducePow, Nat.zero_add, Nat.add_zero, Nat.one_mul, Nat.mul_one, n_in, n_min, n_clamp, n_eq_t, n_eq_f, n_eq, n_le_t, n_le_f, n_le, n_lt_t, n_lt_f, n_lt, n_sub0, n_sublt, n_suble, n_negsub, m_up_hit, m_up_miss, m_row_hit, m_row_miss, n_eqm, n_meq, n_meqm, n_ltm, n_lem, n_mlt, n_mle, n_sub, n_div, n_and1, n_shl, n_shr, n_inc, n_mul, n_rem, z_lt, z_le, z_nlt, z_nle, Nat.not_lt_zero, Nat.le_zero_eq, Nat.zero_le, if_true, if_false, ki, if_neg c]
    exact hQ
theorem q_err_lt {x : Int32} (h : q_err S x ≠ nI 0) : q_err S x < nI 0 := by
  unfold q_err at h ⊢
  split
  · decide
  · split
    · decide
    · rename_i h1 h2
      rw [if_neg h1, if_neg h2] at h
      exact absurd rfl h
theorem m_often {x : Int32} (hl : ML lay R) (h : MS I F S sp) (hM : Mch I pm (I 167 123) hi) (hpm : pm ≤ 2048) (w1 : S 3 ≤ 16) (hhi : ∀ x, x ∈ hi → x < 65536) (hd : 2 ≤ d) (hQ : Q (some (.int (q_oft S hi x))) I F R n) : Ev lay d 138 0 [.ref 166, .int x, m_j] [] I F R n Q := by
  have m0 := hl.1
  have ke : ∀ (Q : mP), _ := fun Q => r_errorOf (d := d - 1) (n := n) (Q := Q) (x := x) hl h w1 (by omega)
  unfold q_oft at hQ
  by_cases c : q_err S x = nI 0
  · obtain ⟨b1, b2, b3⟩ := q_err_ok w1 c
    rw [if_pos c] at hQ
    rw [c] at ke
    have ko : ∀ (Q : mP), _ := fun Q => r_oftenOf (d := d - 1) (F := F) (n := n) (Q := Q) hl b1.1 hhi hpm hM
    rw [← b2] at ko
    simp (disch := omega) only [e138_0, e138_0N, e138_1, e138_2, e138_5, e138_6, e138_7, e138_10, e138_11, e138_14, e138_14N, e138_15, e138_16, e138_19, true_or, m_psh_s, m_psh_n, m_kl_i, m_kl_f, m_kl_r, m_kl_n, m_kl_j, m_kl_l, m_kl_d, c_i, c_f, c_r, c_n, List.length_nil, List.length_cons, true_and, and_true, Nat.reduceAdd, Nat.reduceLeDiff, Nat.reduceSub, Nat.reduceEqDiff, Nat.reduceLT, ge_iff_le, gt_iff_lt, n_lit, m_in, m_nar0, m_nar1, and_self, not_false_eq_true, not_true_eq_false, ne_eq, reduceIte, ite_self, Nat.reduceMul, Nat.reduceDiv, Nat.reduceMod, Nat.reducePow, Nat.zero_add, Nat.add_zero, Nat.one_mul, Nat.mul_one, n_in, n_min, n_clamp, n_eq_t, n_eq_f, n_eq, n_le_t, n_le_f, n_le, n_lt_t, n_lt_f, n_lt, n_sub0, n_sublt, n_suble, n_negsub, m_up_hit, m_up_miss, m_row_hit, m_row_miss, n_eqm, n_meq, n_meqm, n_ltm, n_lem, n_mlt, n_mle, n_sub, n_div, n_and1, n_shl, n_shr, n_inc, n_mul, n_rem, z_lt, z_le, z_nlt, z_nle, Nat.not_lt_zero, Nat.le_zero_eq, Nat.zero_le, if_true, if_false, m0, ke, ko]
    exact hQ
  · rw [if_neg c] at hQ
    have hn := q_err_lt c
    simp (disch := omega) only [e138_0, e138_0N, e138_1, e138_2, e138_5, e138_6, e138_7, e138_10, e138_11, e138_14, e138_14N, e138_15, e138_16, e138_19, true_or, m_psh_s, m_psh_n, m_kl_i, m_kl_f, m_kl_r, m_kl_n, m_kl_j, m_kl_l, m_kl_d, c_i, c_f, c_r, c_n, List.length_nil, List.length_cons, true_and, and_true, Nat.reduceAdd, Nat.reduceLeDiff, Nat.reduceSub, Nat.reduceEqDiff, Nat.reduceLT, ge_iff_le, gt_iff_lt, n_lit, m_in, m_nar0, m_nar1, and_self, not_false_eq_true, not_true_eq_false, ne_eq, reduceIte, ite_self, Nat.reduceMul, Nat.reduceDiv, Nat.reduceMod, Nat.reducePow, Nat.zero_add, Nat.add_zero, Nat.one_mul, Nat.mul_one, n_in, n_min, n_clamp, n_eq_t, n_eq_f, n_eq, n_le_t, n_le_f, n_le, n_lt_t, n_lt_f, n_lt, n_sub0, n_sublt, n_suble, n_negsub, m_up_hit, m_up_miss, m_row_hit, m_row_miss, n_eqm, n_meq, n_meqm, n_ltm, n_lem, n_mlt, n_mle, n_sub, n_div, n_and1, n_shl, n_shr, n_inc, n_mul, n_rem, z_lt, z_le, z_nlt, z_nle, Nat.not_lt_zero, Nat.le_zero_eq, Nat.zero_le, if_true, if_false, m0, ke, hn, n_g2]
    exact hQ
theorem m_walk {x : Int32} (hl : ML lay R) (h : MS I F S sp) (w : Wsh S) (hc9 : S 2 ≤ 9) (hd : 4 ≤ d) (hQ : Q (some (.int (q_wlk S x))) I F R n) : Ev lay d 144 0 [.ref 166, .int x, m_j] [] I F R n Q := by
  have m0 := hl.1
  have ke : ∀ (Q : mP), _ := fun Q => r_errorOf (d := d - 1) (n := n) (Q := Q) (x := x) hl h w.1 (by omega)
  unfold q_wlk at hQ
  by_cases c : q_err S x = nI 0
  · obtain ⟨b1, b2, b3⟩ := q_err_ok w.1 c
    rw [if_pos c] at hQ
    rw [c] at ke
    have ko : ∀ (Q : mP), _ := fun Q => r_walkOf (d := d - 1) (n := n) (Q := Q) hl h w hc9 (by omega) b1 (fun e => by rw [e] at b3; exact absurd b3 (by decide))
    rw [← b2] at ko
    simp (disch := omega) only [e144_0, e144_0N, e144_1, e144_2, e144_5, e144_6, e144_7, e144_10, e144_11, e144_14, e144_14N, e144_15, e144_16, e144_19, true_or, m_psh_s, m_psh_n, m_kl_i, m_kl_f, m_kl_r, m_kl_n, m_kl_j, m_kl_l, m_kl_d, c_i, c_f, c_r, c_n, List.length_nil, List.length_cons, true_and, and_true, Nat.reduceAdd, Nat.reduceLeDiff, Nat.reduceSub, Nat.reduceEqDiff, Nat.reduceLT, ge_iff_le, gt_iff_lt, n_lit, m_in, m_nar0, m_nar1, and_self, not_false_eq_true, not_true_eq_false, ne_eq, reduceIte, ite_self, Nat.reduceMul, Nat.reduceDiv, Nat.reduceMod, Nat.reducePow, Nat.zero_add, Nat.add_zero, Nat.one_mul, Nat.mul_one, n_in, n_min, n_clamp, n_eq_t, n_eq_f, n_eq, n_le_t, n_le_f, n_le, n_lt_t, n_lt_f, n_lt, n_sub0, n_sublt, n_suble, n_negsub, m_up_hit, m_up_miss, m_row_hit, m_row_miss, n_eqm, n_meq, n_meqm, n_ltm, n_lem, n_mlt, n_mle, n_sub, n_div, n_and1, n_shl, n_shr, n_inc, n_mul, n_rem, z_lt, z_le, z_nlt, z_nle, Nat.not_lt_zero, Nat.le_zero_eq, Nat.zero_le, if_true, if_false, m0, ke, ko]
    exact hQ
  · rw [if_neg c] at hQ
    have hn := q_err_lt c
    simp (disch := omega) only [e144_0, e144_0N, e144_1, e144_2, e144_5, e144_6, e144_7, e144_10, e144_11, e144_14, e144_14N, e144_15, e144_16, e144_19, true_or, m_psh_s, m_psh_n, m_kl_i, m_kl_f, m_kl_r, m_kl_n, m_kl_j, m_kl_l, m_kl_d, c_i, c_f, c_r, c_n, List.length_nil, List.length_cons, true_and, and_true, Nat.reduceAdd, Nat.reduceLeDiff, Nat.reduceSub, Nat.reduceEqDiff, Nat.reduceLT, ge_iff_le, gt_iff_lt, n_lit, m_in, m_nar0, m_nar1, and_self, not_false_eq_true, not_true_eq_false, ne_eq, reduceIte, ite_self, Nat.reduceMul, Nat.reduceDiv, Nat.reduceMod, Nat.reducePow, Nat.zero_add, Nat.add_zero, Nat.one_mul, Nat.mul_one, n_in, n_min, n_clamp, n_eq_t, n_eq_f, n_eq, n_le_t, n_le_f, n_le, n_lt_t, n_lt_f, n_lt, n_sub0, n_sublt, n_suble, n_negsub, m_up_hit, m_up_miss, m_row_hit, m_row_miss, n_eqm, n_meq, n_meqm, n_ltm, n_lem, n_mlt, n_mle, n_sub, n_div, n_and1, n_shl, n_shr, n_inc, n_mul, n_rem, z_lt, z_le, z_nlt, z_nle, Nat.not_lt_zero, Nat.le_zero_eq, Nat.zero_le, if_true, if_false, m0, ke, hn, n_g2]
    exact hQ
/-- the rank of a walk, step by step -/
theorem m_stop0 {vb ve : Int32} (hl : ML lay R) (h : MS I F S sp) (w : Wsh S) (hc9 : S 2 ≤ 9) (hd : 3 ≤ d) {r : Nat} (hr : r < 16) (j : Nat) : ∀ (k b s : Nat) (g : Nat), k + j = r → b < 65536 → (∀ g, g < 16 → b / 2 ^ g % 2 = 1 → g < S 3) → j < q_on b 16 → q_nx (fun g => q_stp (S 2) s (q_pos S g)) b 16 = some g → (Ev lay d 145 45 [.ref 166, .int vb, .int (nI r), .int ve, .int (nI b), .int (nI g), .int (nI k)] [] I F R n Q ↔ Q (some (.int (nI (q_vi (S 2) (q_pos S) j b s)))) I F R n) := by
  have hl' := hl
  have m0 := hl.1
  have w1 := w.1
  induction j with
  | zero =>
    intro k b s g hk hb hg hj hn
    have hk2 : k = r := by omega
    subst hk2
    rw [e145_45, q_vi, hn]
    simp (disch := omega) only [e145_47, e145_48, e145_76, e145_78, true_or, m_psh_s, m_psh_n, m_kl_i, m_kl_f, m_kl_r, m_kl_n, m_kl_j, m_kl_l, m_kl_d, c_i, c_f, c_r, c_n, List.length_nil, List.length_cons, true_and, and_true, Nat.reduceAdd, Nat.reduceLeDiff, Nat.reduceSub, Nat.reduceEqDiff, Nat.reduceLT, ge_iff_le, gt_iff_lt, n_lit, m_in, m_nar0, m_nar1, and_self, not_false_eq_true, not_true_eq_false, ne_eq, reduceIte, ite_self, Nat.reduceMul, Nat.reduceDiv, Nat.reduceMod, Nat.reducePow, Nat.zero_add, Nat.add_zero, Nat.one_mul, Nat.mul_one, n_in, n_min, n_clamp, n_eq_t, n_eq_f, n_eq, n_le_t, n_le_f, n_le, n_lt_t, n_lt_f, n_lt, n_sub0, n_sublt, n_suble, n_negsub, m_up_hit, m_up_miss, m_row_hit, m_row_miss, n_eqm, n_meq, n_meqm, n_ltm, n_lem, n_mlt, n_mle, n_sub, n_div, n_and1, n_shl, n_shr, n_inc, n_mul, n_rem, z_lt, z_le, z_nlt, z_nle, Nat.not_lt_zero, Nat.le_zero_eq, Nat.zero_le, if_true, if_false]
    rfl
  | succ j ih =>
    intro k b s g hk hb hg hj hn
    have gg := q_nx_bit hn
    have hg3 := hg g gg.1 gg.2
    have hlt : b ^^^ 2 ^ g < 65536 := b_lt hb gg.1
    have hon := q_on_x (k := 16) gg.2
    rw [if_pos gg.1] at hon
    have hg' : ∀ x, x < 16 → (b ^^^ 2 ^ g) / 2 ^ x % 2 = 1 → x < S 3 := fun x hx hb2 => by
      rw [b_xor] at hb2
      by_cases e : x = g
      · subst e; rw [if_pos rfl, gg.2] at hb2; omega
      · rw [if_neg e] at hb2
        exact hg x hx hb2
    have esh : nI 1 <<< (nI g &&& nI 31) = nI (2 ^ g) := by
      have h2 : (2 : Nat) ^ g ≤ 2 ^ 16 := Nat.pow_le_pow_right (by decide) (by omega)
      have := n_shl (x := 1) (k := g) (by omega) (by omega)
      rw [Nat.one_mul] at this
      exact this
    have kn : ∀ (Q : mP), _ := fun Q => r_nearest (d := d - 1) (n := n) (Q := Q) (o := some g) hl' h w hc9 hlt hg' (fun x hx => by cases hx; exact hg3) (by omega)
    cases hn2 : q_nx (fun x => q_stp (S 2) (q_pos S g) (q_pos S x)) (b ^^^ 2 ^ g) 16 with
    | none =>
      have := q_nx_none hn2
      omega
    | some g2 =>
      have kn2 : q_nx (fun x => q_stp (S 2) (q_at S (some g)) (q_pos S x)) (b ^^^ 2 ^ g) 16 = some g2 := hn2
      rw [kn2] at kn
      simp only [q_oI] at kn
      have key := ih (k + 1) (b ^^^ 2 ^ g) (q_pos S g) g2 (by omega) hlt hg' (by omega) hn2
      have ev : q_vi (S 2) (q_pos S) (j + 1) b s = q_vi (S 2) (q_pos S) j (b ^^^ 2 ^ g) (q_pos S g) := by
        rw [q_vi, hn]
      rw [ev, e145_45]
      simp (disch := omega) only [e145_47, e145_48, e145_51, e145_53, e145_54, e145_56, e145_57, e145_58, e145_60, e145_60N, e145_61, e145_63, e145_65, e145_68, e145_70, e145_73, true_or, m_psh_s, m_psh_n, m_kl_i, m_kl_f, m_kl_r, m_kl_n, m_kl_j, m_kl_l, m_kl_d, c_i, c_f, c_r, c_n, List.length_nil, List.length_cons, true_and, and_true, Nat.reduceAdd, Nat.reduceLeDiff, Nat.reduceSub, Nat.reduceEqDiff, Nat.reduceLT, ge_iff_le, gt_iff_lt, n_lit, m_in, m_nar0, m_nar1, and_self, not_false_eq_true, not_true_eq_false, ne_eq, reduceIte, ite_self, Nat.reduceMul, Nat.reduceDiv, Nat.reduceMod, Nat.reducePow, Nat.zero_add, Nat.add_zero, Nat.one_mul, Nat.mul_one, n_in, n_min, n_clamp, n_eq_t, n_eq_f, n_eq, n_le_t, n_le_f, n_le, n_lt_t, n_lt_f, n_lt, n_sub0, n_sublt, n_suble, n_negsub, m_up_hit, m_up_miss, m_row_hit, m_row_miss, n_eqm, n_meq, n_meqm, n_ltm, n_lem, n_mlt, n_mle, n_sub, n_div, n_and1, n_shl, n_shr, n_inc, n_mul, n_rem, z_lt, z_le, z_nlt, z_nle, Nat.not_lt_zero, Nat.le_zero_eq, Nat.zero_le, if_true, if_false, m0, esh, n_xor, kn]
      exact key
theorem m_stop {x y : Int32} (hl : ML lay R) (h : MS I F S sp) (w : Wsh S) (hc9 : S 2 ≤ 9) (hd : 4 ≤ d) (hQ : Q (some (.int (q_stop S x y))) I F R n) : Ev lay d 145 0 [.ref 166, .int x, .int y, m_j, m_j, m_j, m_j] [] I F R n Q := by
  have m0 := hl.1
  have ke : ∀ (Q : mP), _ := fun Q => r_errorOf (d := d - 1) (n := n) (Q := Q) (x := x) hl h w.1 (by omega)
  have ki : ∀ (v lo hi' : Int32) (Q : mP), _ := fun v lo hi' Q => r_in (lay := lay) (d := d - 1) (v := v) (lo := lo) (hi' := hi') (I := I) (F := F) (R := R) (n := n) (Q := Q)
  unfold q_stop at hQ
  by_cases c : q_err S x = nI 0
  · obtain ⟨b1, b2, b3⟩ := q_err_ok w.1 c
    rw [if_pos c] at hQ
    rw [c] at ke
    generalize q_N x = b at *
    subst b2
    obtain ⟨b11, b12, b13⟩ := b1
    have ko : ∀ (d : Nat) (Q : mP), _ := fun d Q => r_ones (lay := lay) (d := d) (I := I) (F := F) (R := R) (n := n) (Q := Q) b11
    have er := rng_ok (x := y) (m := q_on b 16) (by omega)
    rw [n_sub (by omega)] at er
    by_cases c2 : y < nI 0 ∨ q_on b 16 ≤ q_N y
    · rw [if_pos c2] at hQ
      have nr : ¬ (nI 0 ≤ y ∧ y ≤ nI (q_on b 16 - 1)) := fun z => er.mp z c2
      simp (disch := omega) only [e145_0, e145_0N, e145_1, e145_2, e145_5, e145_6, e145_7, e145_10, e145_11, e145_12, e145_13, e145_14, e145_15, e145_18, e145_19, e145_20, e145_23, e145_26, e145_28, true_or, m_psh_s, m_psh_n, m_kl_i, m_kl_f, m_kl_r, m_kl_n, m_kl_j, m_kl_l, m_kl_d, c_i, c_f, c_r, c_n, List.length_nil, List.length_cons, true_and, and_true, Nat.reduceAdd, Nat.reduceLeDiff, Nat.reduceSub, Nat.reduceEqDiff, Nat.reduceLT, ge_iff_le, gt_iff_lt, n_lit, m_in, m_nar0, m_nar1, and_self, not_false_eq_true, not_true_eq_false, ne_eq, reduceIte, ite_self, Nat.reduceMul, Nat.reduceDiv, Nat.reduceMod, Nat.reducePow, Nat.zero_add, Nat.add_zero, Nat.one_mul, Nat.mul_one, n_in, n_min, n_clamp, n_eq_t, n_eq_f, n_eq, n_le_t, n_le_f, n_le, n_lt_t, n_lt_f, n_lt, n_sub0, n_sublt, n_suble, n_negsub, m_up_hit, m_up_miss, m_row_hit, m_row_miss, n_eqm, n_meq, n_meqm, n_ltm, n_lem, n_mlt, n_mle, n_sub, n_div, n_and1, n_shl, n_shr, n_inc, n_mul, n_rem, z_lt, z_le, z_nlt, z_nle, Nat.not_lt_zero, Nat.le_zero_eq, Nat.zero_le, if_true, if_false, m0, ke, ko, ki, if_neg nr]
      exact hQ
    · rw [if_neg c2] at hQ
      have nr : nI 0 ≤ y ∧ y ≤ nI (q_on b 16 - 1) := er.mpr c2
      obtain ⟨r, hr, rfl⟩ : ∃ r : Nat, r < 2147483648 ∧ y = nI r := by
        rcases n_g y with h | h
        · exact h
        · exact absurd (Or.inl h) c2
      rw [q_N_n hr] at hQ c2
      have kn : ∀ (Q : mP), _ := fun Q => r_nearest (d := d - 1) (n := n) (Q := Q) (o := none) hl h w hc9 b11 b13 (fun x hx => by cases hx) (by omega)
      cases hn2 : q_nx (fun x => q_stp (S 2) 0 (q_pos S x)) b 16 with
      | none =>
        have := q_nx_none hn2
        omega
      | some g =>
        have kn2 : q_nx (fun x => q_stp (S 2) (q_at S none) (q_pos S x)) b 16 = some g := hn2
        rw [kn2] at kn
        simp only [q_oI] at kn
        have key := (m_stop0 (lay := lay) (d := d) (n := n) (Q := Q) (vb := nI b) (ve := nI 0) hl h w hc9 (by omega) (r := r) (by omega) r 0 b 0 g (Nat.zero_add _) b11 b13 (by omega) hn2).mpr hQ
        simp (disch := omega) only [e145_0, e145_0N, e145_1, e145_2, e145_5, e145_6, e145_7, e145_10, e145_11, e145_12, e145_13, e145_14, e145_15, e145_18, e145_19, e145_20, e145_23, e145_26, e145_28, e145_29, e145_30, e145_32, e145_32N, e145_33, e145_35, e145_37, e145_40, e145_42, e145_43, true_or, m_psh_s, m_psh_n, m_kl_i, m_kl_f, m_kl_r, m_kl_n, m_kl_j, m_kl_l, m_kl_d, c_i, c_f, c_r, c_n, List.length_nil, List.length_cons, true_and, and_true, Nat.reduceAdd, Nat.reduceLeDiff, Nat.reduceSub, Nat.reduceEqDiff, Nat.reduceLT, ge_iff_le, gt_iff_lt, n_lit, m_in, m_nar0, m_nar1, and_self, not_false_eq_true, not_true_eq_false, ne_eq, reduceIte, ite_self, Nat.reduceMul, Nat.reduceDiv, Nat.reduceMod, Nat.reducePow, Nat.zero_add, Nat.add_zero, Nat.one_mul, Nat.mul_one, n_in, n_min, n_clamp, n_eq_t, n_eq_f, n_eq, n_le_t, n_le_f, n_le, n_lt_t, n_lt_f, n_lt, n_sub0, n_sublt, n_suble, n_negsub, m_up_hit, m_up_miss, m_row_hit, m_row_miss, n_eqm, n_meq, n_meqm, n_ltm, n_lem, n_mlt, n_mle, n_sub, n_div, n_and1, n_shl, n_shr, n_inc, n_mul, n_rem, z_lt, z_le, z_nlt, z_nle, Nat.not_lt_zero, Nat.le_zero_eq, Nat.zero_le, if_true, if_false, m0, ke, ko, ki, kn]
        exact key
  · rw [if_neg c] at hQ
    have hn := q_err_lt c
    simp (disch := omega) only [e145_0, e145_0N, e145_1, e145_2, e145_5, e145_6, e145_7, e145_10, e145_11, true_or, m_psh_s, m_psh_n, m_kl_i, m_kl_f, m_kl_r, m_kl_n, m_kl_j, m_kl_l, m_kl_d, c_i, c_f, c_r, c_n, List.length_nil, List.length_cons, true_and, and_true, Nat.reduceAdd, Nat.reduceLeDiff, Nat.reduceSub, Nat.reduceEqDiff, Nat.reduceLT, ge_iff_le, gt_iff_lt, n_lit, m_in, m_nar0, m_nar1, and_self, not_false_eq_true, not_true_eq_false, ne_eq, reduceIte, ite_self, Nat.reduceMul, Nat.reduceDiv, Nat.reduceMod, Nat.reducePow, Nat.zero_add, Nat.add_zero, Nat.one_mul, Nat.mul_one, n_in, n_min, n_clamp, n_eq_t, n_eq_f, n_eq, n_le_t, n_le_f, n_le, n_lt_t, n_lt_f, n_lt, n_sub0, n_sublt, n_suble, n_negsub, m_up_hit, m_up_miss, m_row_hit, m_row_miss, n_eqm, n_meq, n_meqm, n_ltm, n_lem, n_mlt, n_mle, n_sub, n_div, n_and1, n_shl, n_shr, n_inc, n_mul, n_rem, z_lt, z_le, z_nlt, z_nle, Nat.not_lt_zero, Nat.le_zero_eq, Nat.zero_le, if_true, if_false, m0, ke, hn, n_g2]
    exact hQ
end MREAD
