section GRAMMAR
variable {lay : mL} {d a n n' : Nat} {I I' : mI} {F F' : mF} {R R' : mR} {Q : mP}
-- the automaton: what is due (0 a letter, 1 a first digit, 2 a second one, 3 a mark), the mark that leads to a number, whether the order may end
theorem ch_all : ∀ v, v < 256 → (nI v).toUInt32.toUInt16.toUInt32.toInt32 = nI v ∧ fits .char (.int (nI v)) = true ∧ vp_nar .char (nI v) = nI v ∧ ((nI v).toUInt32 % 65536).toInt32 = nI v := by decide +kernel
theorem ch_nar {v : Nat} (h : v < 256) : narrow .char (.int (nI v)) = .int (nI v) := congrArg Value.int (ch_all v h).1
theorem ch_fit {v : Nat} (h : v < 256) : fits .char (.int (nI v)) = true := (ch_all v h).2.1
theorem ch_st {v : Nat} (h : v < 256) : vp_nar .char (nI v) = nI v := (ch_all v h).2.2.1
theorem ch_i2c {v : Nat} (h : v < 256) : ((nI v).toUInt32 % 65536).toInt32 = nI v := (ch_all v h).2.2.2
theorem s_isDigit {x : Nat} (hx : x < 2147483648) : Ev lay d 82 0 [.int (nI x)] [] I F R n Q ↔ Q (some (.int (nI (if 48 ≤ x ∧ x ≤ 57 then 1 else 0)))) I F R n := by
  by_cases c : 48 ≤ x
  · by_cases c2 : x ≤ 57
    · rw [if_pos ⟨c, c2⟩]
      simp (disch := omega) only [e82_0, e82_1, e82_3, e82_6, e82_7, e82_9, e82_12, e82_13, e82_16, e82_17, true_or, m_psh_s, m_psh_n, m_kl_i, m_kl_f, m_kl_r, m_kl_n, m_kl_j, m_kl_l, m_kl_d, c_i, c_f, c_r, c_n, List.length_nil, List.length_cons, true_and, and_true, Nat.reduceAdd, Nat.reduceLeDiff, Nat.reduceSub, Nat.reduceEqDiff, Nat.reduceLT, ge_iff_le, gt_iff_lt, n_lit, m_in, m_nar0, m_nar1, and_self, not_false_eq_true, not_true_eq_false, ne_eq, reduceIte, ite_self, Nat.reduceMul, Nat.reduceDiv, Nat.reduceMod, Nat.reducePow, Nat.zero_add, Nat.add_zero, Nat.one_mul, Nat.mul_one, n_in, n_min, n_clamp, n_eq_t, n_eq_f, n_eq, n_le_t, n_le_f, n_le, n_lt_t, n_lt_f, n_lt, n_sub0, n_sublt, n_suble, n_negsub, m_up_hit, m_up_miss, m_row_hit, m_row_miss, n_eqm, n_meq, n_meqm, n_ltm, n_lem, n_mlt, n_mle, n_sub, n_div, n_and1, n_shl, n_shr, n_inc, n_mul, n_rem, z_lt, z_le, z_nlt, z_nle, Nat.not_lt_zero, Nat.le_zero_eq, Nat.zero_le, if_true, if_false]
    · rw [if_neg (fun z => c2 z.2)]
      simp (disch := omega) only [e82_0, e82_1, e82_3, e82_6, e82_7, e82_9, e82_12, e82_13, e82_16, e82_17, true_or, m_psh_s, m_psh_n, m_kl_i, m_kl_f, m_kl_r, m_kl_n, m_kl_j, m_kl_l, m_kl_d, c_i, c_f, c_r, c_n, List.length_nil, List.length_cons, true_and, and_true, Nat.reduceAdd, Nat.reduceLeDiff, Nat.reduceSub, Nat.reduceEqDiff, Nat.reduceLT, ge_iff_le, gt_iff_lt, n_lit, m_in, m_nar0, m_nar1, and_self, not_false_eq_true, not_true_eq_false, ne_eq, reduceIte, ite_self, Nat.reduceMul, Nat.reduceDiv, Nat.reduceMod, Nat.reducePow, Nat.zero_add, Nat.add_zero, Nat.one_mul, Nat.mul_one, n_in, n_min, n_clamp, n_eq_t, n_eq_f, n_eq, n_le_t, n_le_f, n_le, n_lt_t, n_lt_f, n_lt, n_sub0, n_sublt, n_suble, n_negsub, m_up_hit, m_up_miss, m_row_hit, m_row_miss, n_eqm, n_meq, n_meqm, n_ltm, n_lem, n_mlt, n_mle, n_sub, n_div, n_and1, n_shl, n_shr, n_inc, n_mul, n_rem, z_lt, z_le, z_nlt, z_nle, Nat.not_lt_zero, Nat.le_zero_eq, Nat.zero_le, if_true, if_false]
  · rw [if_neg (fun z => c z.1)]
    simp (disch := omega) only [e82_0, e82_1, e82_3, e82_6, e82_7, e82_9, e82_12, e82_13, e82_16, e82_17, true_or, m_psh_s, m_psh_n, m_kl_i, m_kl_f, m_kl_r, m_kl_n, m_kl_j, m_kl_l, m_kl_d, c_i, c_f, c_r, c_n, List.length_nil, List.length_cons, true_and, and_true, Nat.reduceAdd, Nat.reduceLeDiff, Nat.reduceSub, Nat.reduceEqDiff, Nat.reduceLT, ge_iff_le, gt_iff_lt, n_lit, m_in, m_nar0, m_nar1, and_self, not_false_eq_true, not_true_eq_false, ne_eq, reduceIte, ite_self, Nat.reduceMul, Nat.reduceDiv, Nat.reduceMod, Nat.reducePow, Nat.zero_add, Nat.add_zero, Nat.one_mul, Nat.mul_one, n_in, n_min, n_clamp, n_eq_t, n_eq_f, n_eq, n_le_t, n_le_f, n_le, n_lt_t, n_lt_f, n_lt, n_sub0, n_sublt, n_suble, n_negsub, m_up_hit, m_up_miss, m_row_hit, m_row_miss, n_eqm, n_meq, n_meqm, n_ltm, n_lem, n_mlt, n_mle, n_sub, n_div, n_and1, n_shl, n_shr, n_inc, n_mul, n_rem, z_lt, z_le, z_nlt, z_nle, Nat.not_lt_zero, Nat.le_zero_eq, Nat.zero_le, if_true, if_false]
theorem m_narb {v : Nat} (h : v ≤ 1) : narrow .boolean (.int (nI v)) = .int (nI v) := by
  have : v = 0 ∨ v = 1 := by omega
  rcases this with rfl | rfl <;> rfl
theorem q_isL_le (x : Nat) : (if x = 103 ∨ x = 98 ∨ x = 109 ∨ x = 120 ∨ x = 110 then 1 else 0) ≤ 1 := by
  split <;> omega
/-- a state of the automaton: due, mark, whether it may end -/
abbrev Gs : Type := Nat × Nat × Nat
def GR (I : mI) (g : Gs) : Prop := I 35 0 = nI g.1 ∧ I 35 1 = nI g.2.1 ∧ I 35 2 = nI g.2.2
def GW (g : Gs) : Prop := g.1 ≤ 3 ∧ g.2.1 < 128 ∧ g.2.2 ≤ 1
def q_letter (x : Nat) : Gs := (if x = 110 then 3 else 1, if x = 98 then 44 else if x = 109 then 45 else 32, if x = 109 then 0 else 1)
def q_isL (x : Nat) : Nat := if x = 103 ∨ x = 98 ∨ x = 109 ∨ x = 120 ∨ x = 110 then 1 else 0
def q_mark (g : Gs) (x : Nat) : Nat × Gs := if x = 59 ∧ g.2.2 = 1 then (1, 0, g.2.1, g.2.2) else if x = g.2.1 then (1, 1, if x = 45 then 32 else g.2.1, if x = 45 then 1 else g.2.2) else (0, g)
def q_tk (g : Gs) (x : Nat) : Nat × Gs :=
  if g.1 = 0 then (q_isL x, q_letter x) else if g.1 = 1 then (if 48 ≤ x ∧ x ≤ 57 then 1 else 0, if x = 48 then 3 else 2, g.2.1, g.2.2) else if g.1 = 2 then (if 48 ≤ x ∧ x ≤ 57 then (1, 3, g.2.1, g.2.2) else q_mark (3, g.2.1, g.2.2) x) else q_mark g x
theorem q_mark_le (g : Gs) (x : Nat) : (q_mark g x).1 ≤ 1 := by
  unfold q_mark
  split
  · exact Nat.le_refl _
  · split
    · exact Nat.le_refl _
    · exact Nat.zero_le _
theorem GW_letter (x : Nat) : GW (q_letter x) := by
  unfold GW q_letter
  dsimp only
  repeat' split
  all_goals omega
theorem GW_mark {g : Gs} {x : Nat} (h : GW g) : GW (q_mark g x).2 := by
  obtain ⟨h1, h2, h3⟩ := h
  unfold GW q_mark
  by_cases c : x = 59 ∧ g.2.2 = 1
  · rw [if_pos c]; exact ⟨by dsimp only; omega, h2, h3⟩
  · rw [if_neg c]
    by_cases c2 : x = g.2.1
    · rw [if_pos c2]; refine ⟨by dsimp only; omega, ?_, ?_⟩
      · dsimp only; split <;> omega
      · dsimp only; split <;> omega
    · rw [if_neg c2]; exact ⟨h1, h2, h3⟩
theorem GW_tk {g : Gs} {x : Nat} (h : GW g) : GW (q_tk g x).2 := by
  have h' := h
  obtain ⟨h1, h2, h3⟩ := h
  unfold q_tk
  by_cases c0 : g.1 = 0
  · rw [if_pos c0]; exact GW_letter x
  · rw [if_neg c0]
    by_cases c1 : g.1 = 1
    · rw [if_pos c1]; refine ⟨?_, h2, h3⟩
      dsimp only; split <;> omega
    · rw [if_neg c1]
      by_cases c2 : g.1 = 2
      · rw [if_pos c2]
        by_cases c3 : 48 ≤ x ∧ x ≤ 57
        · rw [if_pos c3]; exact ⟨by dsimp only; omega, h2, h3⟩
        · rw [if_neg c3]; exact GW_mark ⟨by dsimp only; omega, h2, h3⟩
      · rw [if_neg c2]; exact GW_mark h'
theorem s_letter {x : Nat} (h35 : lay 35 = (6, 0)) (hx : x < 128) (hQ : ∀ I', GR I' (q_letter x) → Off 35 35 I F R I' F R → Q (some (.int (nI (q_isL x)))) I' F R n) : Ev lay d 81 0 [.ref 35, .int (nI x)] [] I F R n Q := by
  have key : ∀ (t u v k : Nat), q_letter x = (t, u, v) → q_isL x = k → Q (some (.int (nI k))) (m_up (m_up (m_up I 35 1 (nI u)) 35 2 (nI v)) 35 0 (nI t)) F R n := by
    intro t u v k e1 e2
    rw [e1, e2] at hQ
    refine hQ _ ⟨by rw [m_up_at], by rw [m_up_miss (by omega), m_up_miss (by omega), m_up_at], by rw [m_up_miss (by omega), m_up_at]⟩ (Off_trans (Off_trans (Off_I (by omega) (by omega)) (Off_I (by omega) (by omega))) (Off_I (by omega) (by omega)))
  have n1 := ch_nar (v := 32) (by omega)
  have n2 := ch_fit (v := 32) (by omega)
  have n3 := ch_nar (v := 44) (by omega)
  have n4 := ch_fit (v := 44) (by omega)
  have n5 := ch_nar (v := 45) (by omega)
  have n6 := ch_fit (v := 45) (by omega)
  by_cases c98 : x = 98
  · subst c98
    have k := key 1 44 1 1 rfl rfl
    simp (disch := omega) only [e81_0, e81_0N, e81_1, e81_2, e81_4, e81_7, e81_9, e81_12, e81_13, e81_15, e81_18, e81_20, e81_23, e81_25, e81_28, e81_28N, e81_29, e81_30, e81_32, e81_35, e81_36, e81_39, e81_40, e81_43, e81_43N, e81_44, e81_45, e81_47, e81_50, e81_51, e81_54, e81_55, e81_58, e81_59, e81_61, e81_64, e81_65, e81_67, e81_70, e81_71, e81_73, e81_76, e81_77, e81_79, e81_82, e81_83, e81_85, e81_88, e81_89, e81_92, e81_93, true_or, m_psh_s, m_psh_n, m_kl_i, m_kl_f, m_kl_r, m_kl_n, m_kl_j, m_kl_l, m_kl_d, c_i, c_f, c_r, c_n, List.length_nil, List.length_cons, true_and, and_true, Nat.reduceAdd, Nat.reduceLeDiff, Nat.reduceSub, Nat.reduceEqDiff, Nat.reduceLT, ge_iff_le, gt_iff_lt, n_lit, m_in, m_nar0, m_nar1, and_self, not_false_eq_true, not_true_eq_false, ne_eq, reduceIte, ite_self, Nat.reduceMul, Nat.reduceDiv, Nat.reduceMod, Nat.reducePow, Nat.zero_add, Nat.add_zero, Nat.one_mul, Nat.mul_one, n_in, n_min, n_clamp, n_eq_t, n_eq_f, n_eq, n_le_t, n_le_f, n_le, n_lt_t, n_lt_f, n_lt, n_sub0, n_sublt, n_suble, n_negsub, m_up_hit, m_up_miss, m_row_hit, m_row_miss, n_eqm, n_meq, n_meqm, n_ltm, n_lem, n_mlt, n_mle, n_sub, n_div, n_and1, n_shl, n_shr, n_inc, n_mul, n_rem, z_lt, z_le, z_nlt, z_nle, Nat.not_lt_zero, Nat.le_zero_eq, Nat.zero_le, if_true, if_false, h35, n1, n2, n3, n4, n5, n6, or_true, false_or]
    exact k
  · have d98 : (x = 98) = False := eq_false c98
    by_cases c109 : x = 109
    · subst c109
      have k := key 1 45 0 1 rfl rfl
      simp (disch := omega) only [e81_0, e81_0N, e81_1, e81_2, e81_4, e81_7, e81_9, e81_12, e81_13, e81_15, e81_18, e81_20, e81_23, e81_25, e81_28, e81_28N, e81_29, e81_30, e81_32, e81_35, e81_36, e81_39, e81_40, e81_43, e81_43N, e81_44, e81_45, e81_47, e81_50, e81_51, e81_54, e81_55, e81_58, e81_59, e81_61, e81_64, e81_65, e81_67, e81_70, e81_71, e81_73, e81_76, e81_77, e81_79, e81_82, e81_83, e81_85, e81_88, e81_89, e81_92, e81_93, true_or, m_psh_s, m_psh_n, m_kl_i, m_kl_f, m_kl_r, m_kl_n, m_kl_j, m_kl_l, m_kl_d, c_i, c_f, c_r, c_n, List.length_nil, List.length_cons, true_and, and_true, Nat.reduceAdd, Nat.reduceLeDiff, Nat.reduceSub, Nat.reduceEqDiff, Nat.reduceLT, ge_iff_le, gt_iff_lt, n_lit, m_in, m_nar0, m_nar1, and_self, not_false_eq_true, not_true_eq_false, ne_eq, reduceIte, ite_self, Nat.reduceMul, Nat.reduceDiv, Nat.reduceMod, Nat.reducePow, Nat.zero_add, Nat.add_zero, Nat.one_mul, Nat.mul_one, n_in, n_min, n_clamp, n_eq_t, n_eq_f, n_eq, n_le_t, n_le_f, n_le, n_lt_t, n_lt_f, n_lt, n_sub0, n_sublt, n_suble, n_negsub, m_up_hit, m_up_miss, m_row_hit, m_row_miss, n_eqm, n_meq, n_meqm, n_ltm, n_lem, n_mlt, n_mle, n_sub, n_div, n_and1, n_shl, n_shr, n_inc, n_mul, n_rem, z_lt, z_le, z_nlt, z_nle, Nat.not_lt_zero, Nat.le_zero_eq, Nat.zero_le, if_true, if_false, h35, n1, n2, n3, n4, n5, n6, or_true, false_or]
      exact k
    · have d109 : (x = 109) = False := eq_false c109
      by_cases c110 : x = 110
      · subst c110
        have k := key 3 32 1 1 rfl rfl
        simp (disch := omega) only [e81_0, e81_0N, e81_1, e81_2, e81_4, e81_7, e81_9, e81_12, e81_13, e81_15, e81_18, e81_20, e81_23, e81_25, e81_28, e81_28N, e81_29, e81_30, e81_32, e81_35, e81_36, e81_39, e81_40, e81_43, e81_43N, e81_44, e81_45, e81_47, e81_50, e81_51, e81_54, e81_55, e81_58, e81_59, e81_61, e81_64, e81_65, e81_67, e81_70, e81_71, e81_73, e81_76, e81_77, e81_79, e81_82, e81_83, e81_85, e81_88, e81_89, e81_92, e81_93, true_or, m_psh_s, m_psh_n, m_kl_i, m_kl_f, m_kl_r, m_kl_n, m_kl_j, m_kl_l, m_kl_d, c_i, c_f, c_r, c_n, List.length_nil, List.length_cons, true_and, and_true, Nat.reduceAdd, Nat.reduceLeDiff, Nat.reduceSub, Nat.reduceEqDiff, Nat.reduceLT, ge_iff_le, gt_iff_lt, n_lit, m_in, m_nar0, m_nar1, and_self, not_false_eq_true, not_true_eq_false, ne_eq, reduceIte, ite_self, Nat.reduceMul, Nat.reduceDiv, Nat.reduceMod, Nat.reducePow, Nat.zero_add, Nat.add_zero, Nat.one_mul, Nat.mul_one, n_in, n_min, n_clamp, n_eq_t, n_eq_f, n_eq, n_le_t, n_le_f, n_le, n_lt_t, n_lt_f, n_lt, n_sub0, n_sublt, n_suble, n_negsub, m_up_hit, m_up_miss, m_row_hit, m_row_miss, n_eqm, n_meq, n_meqm, n_ltm, n_lem, n_mlt, n_mle, n_sub, n_div, n_and1, n_shl, n_shr, n_inc, n_mul, n_rem, z_lt, z_le, z_nlt, z_nle, Nat.not_lt_zero, Nat.le_zero_eq, Nat.zero_le, if_true, if_false, h35, n1, n2, n3, n4, n5, n6, or_true, false_or]
        exact k
      · have d110 : (x = 110) = False := eq_false c110
        by_cases c103 : x = 103
        · subst c103
          have k := key 1 32 1 1 rfl rfl
          simp (disch := omega) only [e81_0, e81_0N, e81_1, e81_2, e81_4, e81_7, e81_9, e81_12, e81_13, e81_15, e81_18, e81_20, e81_23, e81_25, e81_28, e81_28N, e81_29, e81_30, e81_32, e81_35, e81_36, e81_39, e81_40, e81_43, e81_43N, e81_44, e81_45, e81_47, e81_50, e81_51, e81_54, e81_55, e81_58, e81_59, e81_61, e81_64, e81_65, e81_67, e81_70, e81_71, e81_73, e81_76, e81_77, e81_79, e81_82, e81_83, e81_85, e81_88, e81_89, e81_92, e81_93, true_or, m_psh_s, m_psh_n, m_kl_i, m_kl_f, m_kl_r, m_kl_n, m_kl_j, m_kl_l, m_kl_d, c_i, c_f, c_r, c_n, List.length_nil, List.length_cons, true_and, and_true, Nat.reduceAdd, Nat.reduceLeDiff, Nat.reduceSub, Nat.reduceEqDiff, Nat.reduceLT, ge_iff_le, gt_iff_lt, n_lit, m_in, m_nar0, m_nar1, and_self, not_false_eq_true, not_true_eq_false, ne_eq, reduceIte, ite_self, Nat.reduceMul, Nat.reduceDiv, Nat.reduceMod, Nat.reducePow, Nat.zero_add, Nat.add_zero, Nat.one_mul, Nat.mul_one, n_in, n_min, n_clamp, n_eq_t, n_eq_f, n_eq, n_le_t, n_le_f, n_le, n_lt_t, n_lt_f, n_lt, n_sub0, n_sublt, n_suble, n_negsub, m_up_hit, m_up_miss, m_row_hit, m_row_miss, n_eqm, n_meq, n_meqm, n_ltm, n_lem, n_mlt, n_mle, n_sub, n_div, n_and1, n_shl, n_shr, n_inc, n_mul, n_rem, z_lt, z_le, z_nlt, z_nle, Nat.not_lt_zero, Nat.le_zero_eq, Nat.zero_le, if_true, if_false, h35, n1, n2, n3, n4, n5, n6, or_true, false_or]
          exact k
        · have d103 : (x = 103) = False := eq_false c103
          by_cases c120 : x = 120
          · subst c120
            have k := key 1 32 1 1 rfl rfl
            simp (disch := omega) only [e81_0, e81_0N, e81_1, e81_2, e81_4, e81_7, e81_9, e81_12, e81_13, e81_15, e81_18, e81_20, e81_23, e81_25, e81_28, e81_28N, e81_29, e81_30, e81_32, e81_35, e81_36, e81_39, e81_40, e81_43, e81_43N, e81_44, e81_45, e81_47, e81_50, e81_51, e81_54, e81_55, e81_58, e81_59, e81_61, e81_64, e81_65, e81_67, e81_70, e81_71, e81_73, e81_76, e81_77, e81_79, e81_82, e81_83, e81_85, e81_88, e81_89, e81_92, e81_93, true_or, m_psh_s, m_psh_n, m_kl_i, m_kl_f, m_kl_r, m_kl_n, m_kl_j, m_kl_l, m_kl_d, c_i, c_f, c_r, c_n, List.length_nil, List.length_cons, true_and, and_true, Nat.reduceAdd, Nat.reduceLeDiff, Nat.reduceSub, Nat.reduceEqDiff, Nat.reduceLT, ge_iff_le, gt_iff_lt, n_lit, m_in, m_nar0, m_nar1, and_self, not_false_eq_true, not_true_eq_false, ne_eq, reduceIte, ite_self, Nat.reduceMul, Nat.reduceDiv, Nat.reduceMod, Nat.reducePow, Nat.zero_add, Nat.add_zero, Nat.one_mul, Nat.mul_one, n_in, n_min, n_clamp, n_eq_t, n_eq_f, n_eq, n_le_t, n_le_f, n_le, n_lt_t, n_lt_f, n_lt, n_sub0, n_sublt, n_suble, n_negsub, m_up_hit, m_up_miss, m_row_hit, m_row_miss, n_eqm, n_meq, n_meqm, n_ltm, n_lem, n_mlt, n_mle, n_sub, n_div, n_and1, n_shl, n_shr, n_inc, n_mul, n_rem, z_lt, z_le, z_nlt, z_nle, Nat.not_lt_zero, Nat.le_zero_eq, Nat.zero_le, if_true, if_false, h35, n1, n2, n3, n4, n5, n6, or_true, false_or]
            exact k
          · have d120 : (x = 120) = False := eq_false c120
            have k := key 1 32 1 0 (by simp only [q_letter, d98, d109, d110, d103, d120, if_false]) (by simp only [q_isL, d98, d109, d110, d103, d120, if_false, or_false])
            simp (disch := omega) only [e81_0, e81_0N, e81_1, e81_2, e81_4, e81_7, e81_9, e81_12, e81_13, e81_15, e81_18, e81_20, e81_23, e81_25, e81_28, e81_28N, e81_29, e81_30, e81_32, e81_35, e81_36, e81_39, e81_40, e81_43, e81_43N, e81_44, e81_45, e81_47, e81_50, e81_51, e81_54, e81_55, e81_58, e81_59, e81_61, e81_64, e81_65, e81_67, e81_70, e81_71, e81_73, e81_76, e81_77, e81_79, e81_82, e81_83, e81_85, e81_88, e81_89, e81_92, e81_93, true_or, m_psh_s, m_psh_n, m_kl_i, m_kl_f, m_kl_r, m_kl_n, m_kl_j, m_kl_l, m_kl_d, c_i, c_f, c_r, c_n, List.length_nil, List.length_cons, true_and, and_true, Nat.reduceAdd, Nat.reduceLeDiff, Nat.reduceSub, Nat.reduceEqDiff, Nat.reduceLT, ge_iff_le, gt_iff_lt, n_lit, m_in, m_nar0, m_nar1, and_self, not_false_eq_true, not_true_eq_false, ne_eq, reduceIte, ite_self, Nat.reduceMul, Nat.reduceDiv, Nat.reduceMod, Nat.reducePow, Nat.zero_add, Nat.add_zero, Nat.one_mul, Nat.mul_one, n_in, n_min, n_clamp, n_eq_t, n_eq_f, n_eq, n_le_t, n_le_f, n_le, n_lt_t, n_lt_f, n_lt, n_sub0, n_sublt, n_suble, n_negsub, m_up_hit, m_up_miss, m_row_hit, m_row_miss, n_eqm, n_meq, n_meqm, n_ltm, n_lem, n_mlt, n_mle, n_sub, n_div, n_and1, n_shl, n_shr, n_inc, n_mul, n_rem, z_lt, z_le, z_nlt, z_nle, Nat.not_lt_zero, Nat.le_zero_eq, Nat.zero_le, if_true, if_false, h35, n1, n2, or_true, false_or]
            exact k
theorem s_mark {g : Gs} {x : Nat} (h35 : lay 35 = (6, 0)) (hx : x < 128) (hg : GR I g) (gw : GW g) (hQ : ∀ I', GR I' (q_mark g x).2 → Off 35 35 I F R I' F R → Q (some (.int (nI (q_mark g x).1))) I' F R n) : Ev lay d 83 0 [.ref 35, .int (nI x)] [] I F R n Q := by
  have hg' := hg
  obtain ⟨g0, g1, g2⟩ := hg
  obtain ⟨u0, u1, u2⟩ := gw
  have n1 := ch_nar (v := 32) (by omega)
  have n2 := ch_fit (v := 32) (by omega)
  unfold q_mark at hQ
  have rest : ¬ (x = 59 ∧ g.2.2 = 1) → Ev lay d 83 20 [.ref 35, .int (nI x)] [] I F R n Q := by
    intro c
    rw [if_neg c] at hQ
    by_cases c2 : x = g.2.1
    · rw [if_pos c2] at hQ
      by_cases c3 : x = 45
      · rw [if_pos c3, if_pos c3] at hQ
        have key := hQ (m_up (m_up (m_up I 35 1 (nI 32)) 35 2 (nI 1)) 35 0 (nI 1)) ⟨by rw [m_up_at], by rw [m_up_miss (by omega), m_up_miss (by omega), m_up_at], by rw [m_up_miss (by omega), m_up_at]⟩ (Off_trans (Off_trans (Off_I (by omega) (by omega)) (Off_I (by omega) (by omega))) (Off_I (by omega) (by omega)))
        simp (disch := omega) only [e83_20, e83_21, e83_21N, e83_22, e83_25, e83_28, e83_29, e83_30, e83_31, e83_33, e83_36, e83_36N, e83_37, e83_39, e83_42, e83_42N, e83_43, e83_44, e83_47, e83_47N, e83_48, e83_49, e83_52, e83_53, true_or, m_psh_s, m_psh_n, m_kl_i, m_kl_f, m_kl_r, m_kl_n, m_kl_j, m_kl_l, m_kl_d, c_i, c_f, c_r, c_n, List.length_nil, List.length_cons, true_and, and_true, Nat.reduceAdd, Nat.reduceLeDiff, Nat.reduceSub, Nat.reduceEqDiff, Nat.reduceLT, ge_iff_le, gt_iff_lt, n_lit, m_in, m_nar0, m_nar1, and_self, not_false_eq_true, not_true_eq_false, ne_eq, reduceIte, ite_self, Nat.reduceMul, Nat.reduceDiv, Nat.reduceMod, Nat.reducePow, Nat.zero_add, Nat.add_zero, Nat.one_mul, Nat.mul_one, n_in, n_min, n_clamp, n_eq_t, n_eq_f, n_eq, n_le_t, n_le_f, n_le, n_lt_t, n_lt_f, n_lt, n_sub0, n_sublt, n_suble, n_negsub, m_up_hit, m_up_miss, m_row_hit, m_row_miss, n_eqm, n_meq, n_meqm, n_ltm, n_lem, n_mlt, n_mle, n_sub, n_div, n_and1, n_shl, n_shr, n_inc, n_mul, n_rem, z_lt, z_le, z_nlt, z_nle, Nat.not_lt_zero, Nat.le_zero_eq, Nat.zero_le, if_true, if_false, h35, g1, n1, n2, or_true, false_or]
        exact key
      · rw [if_neg c3, if_neg c3] at hQ
        have key := hQ (m_up I 35 0 (nI 1)) ⟨by rw [m_up_at], by rw [m_up_miss (by omega)]; exact g1, by rw [m_up_miss (by omega)]; exact g2⟩ (Off_I (by omega) (by omega))
        simp (disch := omega) only [e83_20, e83_21, e83_21N, e83_22, e83_25, e83_28, e83_29, e83_30, e83_31, e83_33, e83_36, e83_36N, e83_37, e83_39, e83_42, e83_42N, e83_43, e83_44, e83_47, e83_47N, e83_48, e83_49, e83_52, e83_53, true_or, m_psh_s, m_psh_n, m_kl_i, m_kl_f, m_kl_r, m_kl_n, m_kl_j, m_kl_l, m_kl_d, c_i, c_f, c_r, c_n, List.length_nil, List.length_cons, true_and, and_true, Nat.reduceAdd, Nat.reduceLeDiff, Nat.reduceSub, Nat.reduceEqDiff, Nat.reduceLT, ge_iff_le, gt_iff_lt, n_lit, m_in, m_nar0, m_nar1, and_self, not_false_eq_true, not_true_eq_false, ne_eq, reduceIte, ite_self, Nat.reduceMul, Nat.reduceDiv, Nat.reduceMod, Nat.reducePow, Nat.zero_add, Nat.add_zero, Nat.one_mul, Nat.mul_one, n_in, n_min, n_clamp, n_eq_t, n_eq_f, n_eq, n_le_t, n_le_f, n_le, n_lt_t, n_lt_f, n_lt, n_sub0, n_sublt, n_suble, n_negsub, m_up_hit, m_up_miss, m_row_hit, m_row_miss, n_eqm, n_meq, n_meqm, n_ltm, n_lem, n_mlt, n_mle, n_sub, n_div, n_and1, n_shl, n_shr, n_inc, n_mul, n_rem, z_lt, z_le, z_nlt, z_nle, Nat.not_lt_zero, Nat.le_zero_eq, Nat.zero_le, if_true, if_false, h35, g1, n1, n2, or_true, false_or]
        exact key
    · rw [if_neg c2] at hQ
      have key := hQ I hg' Off_refl
      simp (disch := omega) only [e83_20, e83_21, e83_21N, e83_22, e83_25, e83_28, e83_29, e83_30, e83_31, e83_33, e83_36, e83_36N, e83_37, e83_39, e83_42, e83_42N, e83_43, e83_44, e83_47, e83_47N, e83_48, e83_49, e83_52, e83_53, true_or, m_psh_s, m_psh_n, m_kl_i, m_kl_f, m_kl_r, m_kl_n, m_kl_j, m_kl_l, m_kl_d, c_i, c_f, c_r, c_n, List.length_nil, List.length_cons, true_and, and_true, Nat.reduceAdd, Nat.reduceLeDiff, Nat.reduceSub, Nat.reduceEqDiff, Nat.reduceLT, ge_iff_le, gt_iff_lt, n_lit, m_in, m_nar0, m_nar1, and_self, not_false_eq_true, not_true_eq_false, ne_eq, reduceIte, ite_self, Nat.reduceMul, Nat.reduceDiv, Nat.reduceMod, Nat.reducePow, Nat.zero_add, Nat.add_zero, Nat.one_mul, Nat.mul_one, n_in, n_min, n_clamp, n_eq_t, n_eq_f, n_eq, n_le_t, n_le_f, n_le, n_lt_t, n_lt_f, n_lt, n_sub0, n_sublt, n_suble, n_negsub, m_up_hit, m_up_miss, m_row_hit, m_row_miss, n_eqm, n_meq, n_meqm, n_ltm, n_lem, n_mlt, n_mle, n_sub, n_div, n_and1, n_shl, n_shr, n_inc, n_mul, n_rem, z_lt, z_le, z_nlt, z_nle, Nat.not_lt_zero, Nat.le_zero_eq, Nat.zero_le, if_true, if_false, h35, g1]
      exact key
  by_cases c : x = 59
  · by_cases c1 : g.2.2 = 1
    · rw [if_pos ⟨c, c1⟩] at hQ
      have key := hQ (m_up I 35 0 (nI 0)) ⟨by rw [m_up_at], by rw [m_up_miss (by omega)]; exact g1, by rw [m_up_miss (by omega)]; exact g2⟩ (Off_I (by omega) (by omega))
      simp (disch := omega) only [e83_0, e83_1, e83_3, e83_6, e83_6N, e83_7, e83_10, e83_13, e83_13N, e83_14, e83_15, e83_18, e83_19, true_or, m_psh_s, m_psh_n, m_kl_i, m_kl_f, m_kl_r, m_kl_n, m_kl_j, m_kl_l, m_kl_d, c_i, c_f, c_r, c_n, List.length_nil, List.length_cons, true_and, and_true, Nat.reduceAdd, Nat.reduceLeDiff, Nat.reduceSub, Nat.reduceEqDiff, Nat.reduceLT, ge_iff_le, gt_iff_lt, n_lit, m_in, m_nar0, m_nar1, and_self, not_false_eq_true, not_true_eq_false, ne_eq, reduceIte, ite_self, Nat.reduceMul, Nat.reduceDiv, Nat.reduceMod, Nat.reducePow, Nat.zero_add, Nat.add_zero, Nat.one_mul, Nat.mul_one, n_in, n_min, n_clamp, n_eq_t, n_eq_f, n_eq, n_le_t, n_le_f, n_le, n_lt_t, n_lt_f, n_lt, n_sub0, n_sublt, n_suble, n_negsub, m_up_hit, m_up_miss, m_row_hit, m_row_miss, n_eqm, n_meq, n_meqm, n_ltm, n_lem, n_mlt, n_mle, n_sub, n_div, n_and1, n_shl, n_shr, n_inc, n_mul, n_rem, z_lt, z_le, z_nlt, z_nle, Nat.not_lt_zero, Nat.le_zero_eq, Nat.zero_le, if_true, if_false, h35, g2]
      exact key
    · have key := rest (fun z => c1 z.2)
      simp (disch := omega) only [e83_0, e83_1, e83_3, e83_6, e83_6N, e83_7, e83_10, e83_13, e83_13N, e83_14, e83_15, e83_18, e83_19, true_or, m_psh_s, m_psh_n, m_kl_i, m_kl_f, m_kl_r, m_kl_n, m_kl_j, m_kl_l, m_kl_d, c_i, c_f, c_r, c_n, List.length_nil, List.length_cons, true_and, and_true, Nat.reduceAdd, Nat.reduceLeDiff, Nat.reduceSub, Nat.reduceEqDiff, Nat.reduceLT, ge_iff_le, gt_iff_lt, n_lit, m_in, m_nar0, m_nar1, and_self, not_false_eq_true, not_true_eq_false, ne_eq, reduceIte, ite_self, Nat.reduceMul, Nat.reduceDiv, Nat.reduceMod, Nat.reducePow, Nat.zero_add, Nat.add_zero, Nat.one_mul, Nat.mul_one, n_in, n_min, n_clamp, n_eq_t, n_eq_f, n_eq, n_le_t, n_le_f, n_le, n_lt_t, n_lt_f, n_lt, n_sub0, n_sublt, n_suble, n_negsub, m_up_hit, m_up_miss, m_row_hit, m_row_miss, n_eqm, n_meq, n_meqm, n_ltm, n_lem, n_mlt, n_mle, n_sub, n_div, n_and1, n_shl, n_shr, n_inc, n_mul, n_rem, z_lt, z_le, z_nlt, z_nle, Nat.not_lt_zero, Nat.le_zero_eq, Nat.zero_le, if_true, if_false, h35, g2]
      exact key
  · have key := rest (fun z => c z.1)
    simp (disch := omega) only [e83_0, e83_1, e83_3, e83_6, e83_6N, e83_7, e83_10, e83_13, e83_13N, e83_14, e83_15, e83_18, e83_19, true_or, m_psh_s, m_psh_n, m_kl_i, m_kl_f, m_kl_r, m_kl_n, m_kl_j, m_kl_l, m_kl_d, c_i, c_f, c_r, c_n, List.length_nil, List.length_cons, true_and, and_true, Nat.reduceAdd, Nat.reduceLeDiff, Nat.reduceSub, Nat.reduceEqDiff, Nat.reduceLT, ge_iff_le, gt_iff_lt, n_lit, m_in, m_nar0, m_nar1, and_self, not_false_eq_true, not_true_eq_false, ne_eq, reduceIte, ite_self, Nat.reduceMul, Nat.reduceDiv, Nat.reduceMod, Nat.reducePow, Nat.zero_add, Nat.add_zero, Nat.one_mul, Nat.mul_one, n_in, n_min, n_clamp, n_eq_t, n_eq_f, n_eq, n_le_t, n_le_f, n_le, n_lt_t, n_lt_f, n_lt, n_sub0, n_sublt, n_suble, n_negsub, m_up_hit, m_up_miss, m_row_hit, m_row_miss, n_eqm, n_meq, n_meqm, n_ltm, n_lem, n_mlt, n_mle, n_sub, n_div, n_and1, n_shl, n_shr, n_inc, n_mul, n_rem, z_lt, z_le, z_nlt, z_nle, Nat.not_lt_zero, Nat.le_zero_eq, Nat.zero_le, if_true, if_false, h35, g2]
    exact key
theorem s_takes0 {x : Nat} (h35 : lay 35 = (6, 0)) (hx : x < 128) (hd : 1 ≤ d) (h0 : I 35 0 = nI 0) (hQ : ∀ I', GR I' (q_letter x) → Off 35 35 I F R I' F R → Q (some (.int (nI (q_isL x)))) I' F R n) : Ev lay d 80 0 [.ref 35, .int (nI x)] [] I F R n Q := by
  have kl : ∀ (Q : mP), _ → _ := fun Q hQ => s_letter (d := d - 1) (I := I) (F := F) (R := R) (n := n) (Q := Q) h35 hx hQ
  simp (disch := omega) only [e80_0, e80_0N, e80_1, e80_4, e80_32, e80_32N, e80_33, e80_34, true_or, m_psh_s, m_psh_n, m_kl_i, m_kl_f, m_kl_r, m_kl_n, m_kl_j, m_kl_l, m_kl_d, c_i, c_f, c_r, c_n, List.length_nil, List.length_cons, true_and, and_true, Nat.reduceAdd, Nat.reduceLeDiff, Nat.reduceSub, Nat.reduceEqDiff, Nat.reduceLT, ge_iff_le, gt_iff_lt, n_lit, m_in, m_nar0, m_nar1, and_self, not_false_eq_true, not_true_eq_false, ne_eq, reduceIte, ite_self, Nat.reduceMul, Nat.reduceDiv, Nat.reduceMod, Nat.reducePow, Nat.zero_add, Nat.add_zero, Nat.one_mul, Nat.mul_one, n_in, n_min, n_clamp, n_eq_t, n_eq_f, n_eq, n_le_t, n_le_f, n_le, n_lt_t, n_lt_f, n_lt, n_sub0, n_sublt, n_suble, n_negsub, m_up_hit, m_up_miss, m_row_hit, m_row_miss, n_eqm, n_meq, n_meqm, n_ltm, n_lem, n_mlt, n_mle, n_sub, n_div, n_and1, n_shl, n_shr, n_inc, n_mul, n_rem, z_lt, z_le, z_nlt, z_nle, Nat.not_lt_zero, Nat.le_zero_eq, Nat.zero_le, if_true, if_false, h35, h0]
  apply kl
  intro I1 k1 k2
  have key := hQ I1 k1 k2
  simp (disch := omega) only [e80_37, true_or, m_psh_s, m_psh_n, m_kl_i, m_kl_f, m_kl_r, m_kl_n, m_kl_j, m_kl_l, m_kl_d, c_i, c_f, c_r, c_n, List.length_nil, List.length_cons, true_and, and_true, Nat.reduceAdd, Nat.reduceLeDiff, Nat.reduceSub, Nat.reduceEqDiff, Nat.reduceLT, ge_iff_le, gt_iff_lt, n_lit, m_in, m_nar0, m_nar1, and_self, not_false_eq_true, not_true_eq_false, ne_eq, reduceIte, ite_self, Nat.reduceMul, Nat.reduceDiv, Nat.reduceMod, Nat.reducePow, Nat.zero_add, Nat.add_zero, Nat.one_mul, Nat.mul_one, n_in, n_min, n_clamp, n_eq_t, n_eq_f, n_eq, n_le_t, n_le_f, n_le, n_lt_t, n_lt_f, n_lt, n_sub0, n_sublt, n_suble, n_negsub, m_up_hit, m_up_miss, m_row_hit, m_row_miss, n_eqm, n_meq, n_meqm, n_ltm, n_lem, n_mlt, n_mle, n_sub, n_div, n_and1, n_shl, n_shr, n_inc, n_mul, n_rem, z_lt, z_le, z_nlt, z_nle, Nat.not_lt_zero, Nat.le_zero_eq, Nat.zero_le, if_true, if_false]
  exact ⟨m_narb (q_isL_le x), key⟩
theorem s_takes {g : Gs} {x : Nat} (h35 : lay 35 = (6, 0)) (hx : x < 128) (hd : 1 ≤ d) (hg : GR I g) (gw : GW g) (hQ : ∀ I', GR I' (q_tk g x).2 → Off 35 35 I F R I' F R → Q (some (.int (nI (q_tk g x).1))) I' F R n) : Ev lay d 80 0 [.ref 35, .int (nI x)] [] I F R n Q := by
  have hg' := hg
  obtain ⟨g0, g1, g2⟩ := hg
  have gw' := gw
  obtain ⟨u0, u1, u2⟩ := gw
  unfold q_tk at hQ
  have kd : ∀ (I : mI) (d : Nat) (Q : mP), _ := fun I d Q => s_isDigit (lay := lay) (d := d) (I := I) (F := F) (R := R) (n := n) (Q := Q) (x := x) (by omega)
  by_cases c0 : g.1 = 0
  · rw [if_pos c0] at hQ
    exact s_takes0 h35 hx hd (by rw [g0, c0]) hQ
  · rw [if_neg c0] at hQ
    by_cases c1 : g.1 = 1
    · rw [if_pos c1] at hQ
      rw [c1] at g0
      by_cases c2 : x = 48
      · rw [if_pos c2, if_pos (show 48 ≤ x ∧ x ≤ 57 by omega)] at hQ
        have key := hQ (m_up I 35 0 (nI 3)) ⟨by rw [m_up_at], by rw [m_up_miss (by omega)]; exact g1, by rw [m_up_miss (by omega)]; exact g2⟩ (Off_I (by omega) (by omega))
        simp (disch := omega) only [e80_0, e80_0N, e80_1, e80_4, e80_32, e80_32N, e80_33, e80_34, e80_37, e80_38, e80_38N, e80_39, e80_40, e80_42, e80_45, e80_46, e80_49, e80_50, e80_53, e80_54, e80_57, e80_58, e80_58N, e80_59, e80_60, e80_63, e80_64, e80_67, e80_70, e80_70N, e80_71, e80_72, e80_75, e80_78, e80_79, e80_82, e80_83, e80_84, e80_84N, e80_85, e80_86, e80_89, true_or, m_psh_s, m_psh_n, m_kl_i, m_kl_f, m_kl_r, m_kl_n, m_kl_j, m_kl_l, m_kl_d, c_i, c_f, c_r, c_n, List.length_nil, List.length_cons, true_and, and_true, Nat.reduceAdd, Nat.reduceLeDiff, Nat.reduceSub, Nat.reduceEqDiff, Nat.reduceLT, ge_iff_le, gt_iff_lt, n_lit, m_in, m_nar0, m_nar1, and_self, not_false_eq_true, not_true_eq_false, ne_eq, reduceIte, ite_self, Nat.reduceMul, Nat.reduceDiv, Nat.reduceMod, Nat.reducePow, Nat.zero_add, Nat.add_zero, Nat.one_mul, Nat.mul_one, n_in, n_min, n_clamp, n_eq_t, n_eq_f, n_eq, n_le_t, n_le_f, n_le, n_lt_t, n_lt_f, n_lt, n_sub0, n_sublt, n_suble, n_negsub, m_up_hit, m_up_miss, m_row_hit, m_row_miss, n_eqm, n_meq, n_meqm, n_ltm, n_lem, n_mlt, n_mle, n_sub, n_div, n_and1, n_shl, n_shr, n_inc, n_mul, n_rem, z_lt, z_le, z_nlt, z_nle, Nat.not_lt_zero, Nat.le_zero_eq, Nat.zero_le, if_true, if_false, h35, g0, kd]
        exact key
      · rw [if_neg c2] at hQ
        have key := hQ (m_up I 35 0 (nI 2)) ⟨by rw [m_up_at], by rw [m_up_miss (by omega)]; exact g1, by rw [m_up_miss (by omega)]; exact g2⟩ (Off_I (by omega) (by omega))
        simp (disch := omega) only [e80_0, e80_0N, e80_1, e80_4, e80_32, e80_32N, e80_33, e80_34, e80_37, e80_38, e80_38N, e80_39, e80_40, e80_42, e80_45, e80_46, e80_49, e80_50, e80_53, e80_54, e80_57, e80_58, e80_58N, e80_59, e80_60, e80_63, e80_64, e80_67, e80_70, e80_70N, e80_71, e80_72, e80_75, e80_78, e80_79, e80_82, e80_83, e80_84, e80_84N, e80_85, e80_86, e80_89, true_or, m_psh_s, m_psh_n, m_kl_i, m_kl_f, m_kl_r, m_kl_n, m_kl_j, m_kl_l, m_kl_d, c_i, c_f, c_r, c_n, List.length_nil, List.length_cons, true_and, and_true, Nat.reduceAdd, Nat.reduceLeDiff, Nat.reduceSub, Nat.reduceEqDiff, Nat.reduceLT, ge_iff_le, gt_iff_lt, n_lit, m_in, m_nar0, m_nar1, and_self, not_false_eq_true, not_true_eq_false, ne_eq, reduceIte, ite_self, Nat.reduceMul, Nat.reduceDiv, Nat.reduceMod, Nat.reducePow, Nat.zero_add, Nat.add_zero, Nat.one_mul, Nat.mul_one, n_in, n_min, n_clamp, n_eq_t, n_eq_f, n_eq, n_le_t, n_le_f, n_le, n_lt_t, n_lt_f, n_lt, n_sub0, n_sublt, n_suble, n_negsub, m_up_hit, m_up_miss, m_row_hit, m_row_miss, n_eqm, n_meq, n_meqm, n_ltm, n_lem, n_mlt, n_mle, n_sub, n_div, n_and1, n_shl, n_shr, n_inc, n_mul, n_rem, z_lt, z_le, z_nlt, z_nle, Nat.not_lt_zero, Nat.le_zero_eq, Nat.zero_le, if_true, if_false, h35, g0, kd]
        exact ⟨m_narb (by split <;> omega), key⟩
    · rw [if_neg c1] at hQ
      by_cases c2 : g.1 = 2
      · rw [if_pos c2] at hQ
        rw [c2] at g0
        have gr3 : GR (m_up I 35 0 (nI 3)) (3, g.2.1, g.2.2) := ⟨by rw [m_up_at], by rw [m_up_miss (by omega)]; exact g1, by rw [m_up_miss (by omega)]; exact g2⟩
        by_cases c3 : 48 ≤ x ∧ x ≤ 57
        · rw [if_pos c3] at hQ
          rw [if_pos c3] at kd
          have key := hQ _ gr3 (Off_I (by omega) (by omega))
          simp (disch := omega) only [e80_0, e80_0N, e80_1, e80_4, e80_32, e80_32N, e80_33, e80_34, e80_37, e80_38, e80_38N, e80_39, e80_40, e80_42, e80_45, e80_46, e80_49, e80_50, e80_53, e80_54, e80_57, e80_58, e80_58N, e80_59, e80_60, e80_63, e80_64, e80_67, e80_70, e80_70N, e80_71, e80_72, e80_75, e80_78, e80_79, e80_82, e80_83, e80_84, e80_84N, e80_85, e80_86, e80_89, true_or, m_psh_s, m_psh_n, m_kl_i, m_kl_f, m_kl_r, m_kl_n, m_kl_j, m_kl_l, m_kl_d, c_i, c_f, c_r, c_n, List.length_nil, List.length_cons, true_and, and_true, Nat.reduceAdd, Nat.reduceLeDiff, Nat.reduceSub, Nat.reduceEqDiff, Nat.reduceLT, ge_iff_le, gt_iff_lt, n_lit, m_in, m_nar0, m_nar1, and_self, not_false_eq_true, not_true_eq_false, ne_eq, reduceIte, ite_self, Nat.reduceMul, Nat.reduceDiv, Nat.reduceMod, Nat.reducePow, Nat.zero_add, Nat.add_zero, Nat.one_mul, Nat.mul_one, n_in, n_min, n_clamp, n_eq_t, n_eq_f, n_eq, n_le_t, n_le_f, n_le, n_lt_t, n_lt_f, n_lt, n_sub0, n_sublt, n_suble, n_negsub, m_up_hit, m_up_miss, m_row_hit, m_row_miss, n_eqm, n_meq, n_meqm, n_ltm, n_lem, n_mlt, n_mle, n_sub, n_div, n_and1, n_shl, n_shr, n_inc, n_mul, n_rem, z_lt, z_le, z_nlt, z_nle, Nat.not_lt_zero, Nat.le_zero_eq, Nat.zero_le, if_true, if_false, h35, g0, kd]
          exact key
        · rw [if_neg c3] at hQ
          rw [if_neg c3] at kd
          have km : ∀ (Q : mP), _ → _ := fun Q hQ => s_mark (d := d - 1) (F := F) (R := R) (n := n) (Q := Q) h35 hx gr3 ⟨by dsimp only; omega, u1, u2⟩ hQ
          simp (disch := omega) only [e80_0, e80_0N, e80_1, e80_4, e80_32, e80_32N, e80_33, e80_34, e80_37, e80_38, e80_38N, e80_39, e80_40, e80_42, e80_45, e80_46, e80_49, e80_50, e80_53, e80_54, e80_57, e80_58, e80_58N, e80_59, e80_60, e80_63, e80_64, e80_67, e80_70, e80_70N, e80_71, e80_72, true_or, m_psh_s, m_psh_n, m_kl_i, m_kl_f, m_kl_r, m_kl_n, m_kl_j, m_kl_l, m_kl_d, c_i, c_f, c_r, c_n, List.length_nil, List.length_cons, true_and, and_true, Nat.reduceAdd, Nat.reduceLeDiff, Nat.reduceSub, Nat.reduceEqDiff, Nat.reduceLT, ge_iff_le, gt_iff_lt, n_lit, m_in, m_nar0, m_nar1, and_self, not_false_eq_true, not_true_eq_false, ne_eq, reduceIte, ite_self, Nat.reduceMul, Nat.reduceDiv, Nat.reduceMod, Nat.reducePow, Nat.zero_add, Nat.add_zero, Nat.one_mul, Nat.mul_one, n_in, n_min, n_clamp, n_eq_t, n_eq_f, n_eq, n_le_t, n_le_f, n_le, n_lt_t, n_lt_f, n_lt, n_sub0, n_sublt, n_suble, n_negsub, m_up_hit, m_up_miss, m_row_hit, m_row_miss, n_eqm, n_meq, n_meqm, n_ltm, n_lem, n_mlt, n_mle, n_sub, n_div, n_and1, n_shl, n_shr, n_inc, n_mul, n_rem, z_lt, z_le, z_nlt, z_nle, Nat.not_lt_zero, Nat.le_zero_eq, Nat.zero_le, if_true, if_false, h35, g0, kd]
          apply km
          intro I1 k1 k2
          have key := hQ I1 k1 (Off_trans (Off_I (by omega) (by omega)) k2)
          have hm : (q_mark (3, g.2.1, g.2.2) x).1 = 0 ∨ (q_mark (3, g.2.1, g.2.2) x).1 = 1 := by
            unfold q_mark
            split
            · exact Or.inr rfl
            · split
              · exact Or.inr rfl
              · exact Or.inl rfl
          rcases hm with hm | hm
          · rw [hm] at key ⊢
            simp (disch := omega) only [e80_75, e80_78, e80_79, e80_82, e80_83, e80_84, e80_84N, e80_85, e80_86, e80_89, true_or, m_psh_s, m_psh_n, m_kl_i, m_kl_f, m_kl_r, m_kl_n, m_kl_j, m_kl_l, m_kl_d, c_i, c_f, c_r, c_n, List.length_nil, List.length_cons, true_and, and_true, Nat.reduceAdd, Nat.reduceLeDiff, Nat.reduceSub, Nat.reduceEqDiff, Nat.reduceLT, ge_iff_le, gt_iff_lt, n_lit, m_in, m_nar0, m_nar1, and_self, not_false_eq_true, not_true_eq_false, ne_eq, reduceIte, ite_self, Nat.reduceMul, Nat.reduceDiv, Nat.reduceMod, Nat.reducePow, Nat.zero_add, Nat.add_zero, Nat.one_mul, Nat.mul_one, n_in, n_min, n_clamp, n_eq_t, n_eq_f, n_eq, n_le_t, n_le_f, n_le, n_lt_t, n_lt_f, n_lt, n_sub0, n_sublt, n_suble, n_negsub, m_up_hit, m_up_miss, m_row_hit, m_row_miss, n_eqm, n_meq, n_meqm, n_ltm, n_lem, n_mlt, n_mle, n_sub, n_div, n_and1, n_shl, n_shr, n_inc, n_mul, n_rem, z_lt, z_le, z_nlt, z_nle, Nat.not_lt_zero, Nat.le_zero_eq, Nat.zero_le, if_true, if_false]
            exact key
          · rw [hm] at key ⊢
            simp (disch := omega) only [e80_75, e80_78, e80_79, e80_82, e80_83, e80_84, e80_84N, e80_85, e80_86, e80_89, true_or, m_psh_s, m_psh_n, m_kl_i, m_kl_f, m_kl_r, m_kl_n, m_kl_j, m_kl_l, m_kl_d, c_i, c_f, c_r, c_n, List.length_nil, List.length_cons, true_and, and_true, Nat.reduceAdd, Nat.reduceLeDiff, Nat.reduceSub, Nat.reduceEqDiff, Nat.reduceLT, ge_iff_le, gt_iff_lt, n_lit, m_in, m_nar0, m_nar1, and_self, not_false_eq_true, not_true_eq_false, ne_eq, reduceIte, ite_self, Nat.reduceMul, Nat.reduceDiv, Nat.reduceMod, Nat.reducePow, Nat.zero_add, Nat.add_zero, Nat.one_mul, Nat.mul_one, n_in, n_min, n_clamp, n_eq_t, n_eq_f, n_eq, n_le_t, n_le_f, n_le, n_lt_t, n_lt_f, n_lt, n_sub0, n_sublt, n_suble, n_negsub, m_up_hit, m_up_miss, m_row_hit, m_row_miss, n_eqm, n_meq, n_meqm, n_ltm, n_lem, n_mlt, n_mle, n_sub, n_div, n_and1, n_shl, n_shr, n_inc, n_mul, n_rem, z_lt, z_le, z_nlt, z_nle, Nat.not_lt_zero, Nat.le_zero_eq, Nat.zero_le, if_true, if_false]
            exact key
      · rw [if_neg c2] at hQ
        have c3 : g.1 = 3 := by omega
        rw [c3] at g0
        have km : ∀ (Q : mP), _ → _ := fun Q hQ => s_mark (d := d - 1) (F := F) (R := R) (n := n) (Q := Q) h35 hx hg' gw' hQ
        simp (disch := omega) only [e80_0, e80_0N, e80_1, e80_4, e80_32, e80_32N, e80_33, e80_34, e80_84, e80_84N, e80_85, e80_86, true_or, m_psh_s, m_psh_n, m_kl_i, m_kl_f, m_kl_r, m_kl_n, m_kl_j, m_kl_l, m_kl_d, c_i, c_f, c_r, c_n, List.length_nil, List.length_cons, true_and, and_true, Nat.reduceAdd, Nat.reduceLeDiff, Nat.reduceSub, Nat.reduceEqDiff, Nat.reduceLT, ge_iff_le, gt_iff_lt, n_lit, m_in, m_nar0, m_nar1, and_self, not_false_eq_true, not_true_eq_false, ne_eq, reduceIte, ite_self, Nat.reduceMul, Nat.reduceDiv, Nat.reduceMod, Nat.reducePow, Nat.zero_add, Nat.add_zero, Nat.one_mul, Nat.mul_one, n_in, n_min, n_clamp, n_eq_t, n_eq_f, n_eq, n_le_t, n_le_f, n_le, n_lt_t, n_lt_f, n_lt, n_sub0, n_sublt, n_suble, n_negsub, m_up_hit, m_up_miss, m_row_hit, m_row_miss, n_eqm, n_meq, n_meqm, n_ltm, n_lem, n_mlt, n_mle, n_sub, n_div, n_and1, n_shl, n_shr, n_inc, n_mul, n_rem, z_lt, z_le, z_nlt, z_nle, Nat.not_lt_zero, Nat.le_zero_eq, Nat.zero_le, if_true, if_false, h35, g0]
        apply km
        intro I1 k1 k2
        have key := hQ I1 k1 k2
        simp (disch := omega) only [e80_89, true_or, m_psh_s, m_psh_n, m_kl_i, m_kl_f, m_kl_r, m_kl_n, m_kl_j, m_kl_l, m_kl_d, c_i, c_f, c_r, c_n, List.length_nil, List.length_cons, true_and, and_true, Nat.reduceAdd, Nat.reduceLeDiff, Nat.reduceSub, Nat.reduceEqDiff, Nat.reduceLT, ge_iff_le, gt_iff_lt, n_lit, m_in, m_nar0, m_nar1, and_self, not_false_eq_true, not_true_eq_false, ne_eq, reduceIte, ite_self, Nat.reduceMul, Nat.reduceDiv, Nat.reduceMod, Nat.reducePow, Nat.zero_add, Nat.add_zero, Nat.one_mul, Nat.mul_one, n_in, n_min, n_clamp, n_eq_t, n_eq_f, n_eq, n_le_t, n_le_f, n_le, n_lt_t, n_lt_f, n_lt, n_sub0, n_sublt, n_suble, n_negsub, m_up_hit, m_up_miss, m_row_hit, m_row_miss, n_eqm, n_meq, n_meqm, n_ltm, n_lem, n_mlt, n_mle, n_sub, n_div, n_and1, n_shl, n_shr, n_inc, n_mul, n_rem, z_lt, z_le, z_nlt, z_nle, Nat.not_lt_zero, Nat.le_zero_eq, Nat.zero_le, if_true, if_false]
        exact ⟨m_narb (q_mark_le g x), key⟩
theorem s_mayStop {g : Gs} (h35 : lay 35 = (6, 0)) (hg : GR I g) (gw : GW g) : Ev lay d 84 0 [.ref 35] [] I F R n Q ↔ Q (some (.int (nI (if g.2.2 = 1 ∧ (g.1 = 2 ∨ g.1 = 3) then 1 else 0)))) I F R n := by
  obtain ⟨g0, g1, g2⟩ := hg
  obtain ⟨u0, u1, u2⟩ := gw
  by_cases c : g.2.2 = 1
  · by_cases c2 : g.1 = 2
    · rw [if_pos ⟨c, Or.inl c2⟩]
      simp (disch := omega) only [e84_0, e84_0N, e84_1, e84_4, e84_7, e84_7N, e84_8, e84_11, e84_12, e84_15, e84_15N, e84_16, e84_19, e84_20, e84_23, e84_24, e84_27, e84_28, true_or, m_psh_s, m_psh_n, m_kl_i, m_kl_f, m_kl_r, m_kl_n, m_kl_j, m_kl_l, m_kl_d, c_i, c_f, c_r, c_n, List.length_nil, List.length_cons, true_and, and_true, Nat.reduceAdd, Nat.reduceLeDiff, Nat.reduceSub, Nat.reduceEqDiff, Nat.reduceLT, ge_iff_le, gt_iff_lt, n_lit, m_in, m_nar0, m_nar1, and_self, not_false_eq_true, not_true_eq_false, ne_eq, reduceIte, ite_self, Nat.reduceMul, Nat.reduceDiv, Nat.reduceMod, Nat.reducePow, Nat.zero_add, Nat.add_zero, Nat.one_mul, Nat.mul_one, n_in, n_min, n_clamp, n_eq_t, n_eq_f, n_eq, n_le_t, n_le_f, n_le, n_lt_t, n_lt_f, n_lt, n_sub0, n_sublt, n_suble, n_negsub, m_up_hit, m_up_miss, m_row_hit, m_row_miss, n_eqm, n_meq, n_meqm, n_ltm, n_lem, n_mlt, n_mle, n_sub, n_div, n_and1, n_shl, n_shr, n_inc, n_mul, n_rem, z_lt, z_le, z_nlt, z_nle, Nat.not_lt_zero, Nat.le_zero_eq, Nat.zero_le, if_true, if_false, h35, g0, g2]
    · by_cases c3 : g.1 = 3
      · rw [if_pos ⟨c, Or.inr c3⟩]
        simp (disch := omega) only [e84_0, e84_0N, e84_1, e84_4, e84_7, e84_7N, e84_8, e84_11, e84_12, e84_15, e84_15N, e84_16, e84_19, e84_20, e84_23, e84_24, e84_27, e84_28, true_or, m_psh_s, m_psh_n, m_kl_i, m_kl_f, m_kl_r, m_kl_n, m_kl_j, m_kl_l, m_kl_d, c_i, c_f, c_r, c_n, List.length_nil, List.length_cons, true_and, and_true, Nat.reduceAdd, Nat.reduceLeDiff, Nat.reduceSub, Nat.reduceEqDiff, Nat.reduceLT, ge_iff_le, gt_iff_lt, n_lit, m_in, m_nar0, m_nar1, and_self, not_false_eq_true, not_true_eq_false, ne_eq, reduceIte, ite_self, Nat.reduceMul, Nat.reduceDiv, Nat.reduceMod, Nat.reducePow, Nat.zero_add, Nat.add_zero, Nat.one_mul, Nat.mul_one, n_in, n_min, n_clamp, n_eq_t, n_eq_f, n_eq, n_le_t, n_le_f, n_le, n_lt_t, n_lt_f, n_lt, n_sub0, n_sublt, n_suble, n_negsub, m_up_hit, m_up_miss, m_row_hit, m_row_miss, n_eqm, n_meq, n_meqm, n_ltm, n_lem, n_mlt, n_mle, n_sub, n_div, n_and1, n_shl, n_shr, n_inc, n_mul, n_rem, z_lt, z_le, z_nlt, z_nle, Nat.not_lt_zero, Nat.le_zero_eq, Nat.zero_le, if_true, if_false, h35, g0, g2]
      · rw [if_neg (by omega)]
        simp (disch := omega) only [e84_0, e84_0N, e84_1, e84_4, e84_7, e84_7N, e84_8, e84_11, e84_12, e84_15, e84_15N, e84_16, e84_19, e84_20, e84_23, e84_24, e84_27, e84_28, true_or, m_psh_s, m_psh_n, m_kl_i, m_kl_f, m_kl_r, m_kl_n, m_kl_j, m_kl_l, m_kl_d, c_i, c_f, c_r, c_n, List.length_nil, List.length_cons, true_and, and_true, Nat.reduceAdd, Nat.reduceLeDiff, Nat.reduceSub, Nat.reduceEqDiff, Nat.reduceLT, ge_iff_le, gt_iff_lt, n_lit, m_in, m_nar0, m_nar1, and_self, not_false_eq_true, not_true_eq_false, ne_eq, reduceIte, ite_self, Nat.reduceMul, Nat.reduceDiv, Nat.reduceMod, Nat.reducePow, Nat.zero_add, Nat.add_zero, Nat.one_mul, Nat.mul_one, n_in, n_min, n_clamp, n_eq_t, n_eq_f, n_eq, n_le_t, n_le_f, n_le, n_lt_t, n_lt_f, n_lt, n_sub0, n_sublt, n_suble, n_negsub, m_up_hit, m_up_miss, m_row_hit, m_row_miss, n_eqm, n_meq, n_meqm, n_ltm, n_lem, n_mlt, n_mle, n_sub, n_div, n_and1, n_shl, n_shr, n_inc, n_mul, n_rem, z_lt, z_le, z_nlt, z_nle, Nat.not_lt_zero, Nat.le_zero_eq, Nat.zero_le, if_true, if_false, h35, g0, g2]
  · rw [if_neg (fun z => c z.1)]
    simp (disch := omega) only [e84_0, e84_0N, e84_1, e84_4, e84_7, e84_7N, e84_8, e84_11, e84_12, e84_15, e84_15N, e84_16, e84_19, e84_20, e84_23, e84_24, e84_27, e84_28, true_or, m_psh_s, m_psh_n, m_kl_i, m_kl_f, m_kl_r, m_kl_n, m_kl_j, m_kl_l, m_kl_d, c_i, c_f, c_r, c_n, List.length_nil, List.length_cons, true_and, and_true, Nat.reduceAdd, Nat.reduceLeDiff, Nat.reduceSub, Nat.reduceEqDiff, Nat.reduceLT, ge_iff_le, gt_iff_lt, n_lit, m_in, m_nar0, m_nar1, and_self, not_false_eq_true, not_true_eq_false, ne_eq, reduceIte, ite_self, Nat.reduceMul, Nat.reduceDiv, Nat.reduceMod, Nat.reducePow, Nat.zero_add, Nat.add_zero, Nat.one_mul, Nat.mul_one, n_in, n_min, n_clamp, n_eq_t, n_eq_f, n_eq, n_le_t, n_le_f, n_le, n_lt_t, n_lt_f, n_lt, n_sub0, n_sublt, n_suble, n_negsub, m_up_hit, m_up_miss, m_row_hit, m_row_miss, n_eqm, n_meq, n_meqm, n_ltm, n_lem, n_mlt, n_mle, n_sub, n_div, n_and1, n_shl, n_shr, n_inc, n_mul, n_rem, z_lt, z_le, z_nlt, z_nle, Nat.not_lt_zero, Nat.le_zero_eq, Nat.zero_le, if_true, if_false, h35, g0, g2]
end GRAMMAR
