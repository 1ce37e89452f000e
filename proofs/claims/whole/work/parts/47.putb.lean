section PUTB
variable {lay : mL} {d a n n' : Nat} {I I' : mI} {F F' : mF} {R R' : mR} {Q : mP} {S : Nat → Nat} {sp : Nat → UInt32} {hi : List Nat} {nx pl : Nat} {hs : List St} {pc : Nat → Nat} {sv : Nat → Option St}
theorem padOK_put {u : Nat} (h : padOK pl pc) : padOK (q_ptl pl u) (q_ptc pl pc u) := by
  unfold q_ptl q_ptc
  cases e : q_scan u 8 0 with
  | none => exact h
  | some m =>
    cases m with
    | zero => exact h
    | succ m =>
      obtain ⟨-, h2, h3⟩ := q_scan_le 8 0 _ e
      intro k hk
      dsimp only at hk ⊢
      by_cases c : pl ≤ k
      · rw [if_pos c]
        refine h3 _ (by omega) ?_
        split at hk <;> omega
      · rw [if_neg c]
        exact h k (by omega)
theorem f_put {u : Nat} (h : XS lay I F R n S sp hi nx hs pl pc sv) (hu : u < 18446744073709551616) (hd : 1 ≤ d) (hQ : ∀ I' F' R', XS lay I' F' R' n S sp hi nx hs (q_ptl pl u) (q_ptc pl pc u) sv → FrM n I F R I' F' R' → Q (some (.int (q_put pl u))) I' F' R' n) : Ev lay d 73 0 [.ref 1, .long (lN u), m_j] [] I F R n Q := by
  have hX := h
  have hP := h.2.2.2.2.1
  have hpl := hP.2.1
  have p1 := hP.1
  obtain ⟨⟨x1, x2, x3, x4, x5, x6, x7, x8, x9⟩, ⟨xw1, xw2, xw3⟩, ⟨xv1, xv2⟩, ⟨xp1, xp2, xp3, xp4, xp5⟩, ⟨xh1, xh2, xh3, xh4⟩, xs1, xs2, xs3⟩ := h.1
  have hu0 : u / 2 ^ (8 * 0) = u := by rw [Nat.mul_zero, Nat.pow_zero, Nat.div_one]
  simp (disch := omega) only [e73_0, e73_0N, e73_1, e73_4, e73_5, e74_0, e74_1, e74_2, e74_3, true_or, m_psh_s, m_psh_n, m_kl_i, m_kl_f, m_kl_r, m_kl_n, m_kl_j, m_kl_l, m_kl_d, c_i, c_f, c_r, c_n, List.length_nil, List.length_cons, true_and, and_true, Nat.reduceAdd, Nat.reduceLeDiff, Nat.reduceSub, Nat.reduceEqDiff, Nat.reduceLT, ge_iff_le, gt_iff_lt, n_lit, m_in, m_nar0, m_nar1, and_self, not_false_eq_true, not_true_eq_false, ne_eq, reduceIte, ite_self, Nat.reduceMul, Nat.reduceDiv, Nat.reduceMod, Nat.reducePow, Nat.zero_add, Nat.add_zero, Nat.one_mul, Nat.mul_one, n_in, n_min, n_clamp, n_eq_t, n_eq_f, n_eq, n_le_t, n_le_f, n_le, n_lt_t, n_lt_f, n_lt, n_sub0, n_sublt, n_suble, n_negsub, m_up_hit, m_up_miss, m_row_hit, m_row_miss, n_eqm, n_meq, n_meqm, n_ltm, n_lem, n_mlt, n_mle, n_sub, n_div, n_and1, n_shl, n_shr, n_inc, n_mul, n_rem, z_lt, z_le, z_nlt, z_nle, Nat.not_lt_zero, Nat.le_zero_eq, Nat.zero_le, if_true, if_false, x1, x2, x3, x4, x5, x6, x7, x8, x9, xw1, xv1, xp1, xp2, xp3, xp4, xp5, xh1, xs1, xs2]
  have key := s_scan (lay := lay) (d := d - 1) (I := I) (F := F) (R := R) (n := n) (Q := fun v I F R n => Ev lay d 73 8 [.ref 1, .long (lN u), m_j] (m_psh v []) I F R n Q) hu 8 0 m_j rfl ?_ ?_
  · rw [hu0] at key
    exact key
  · intro e
    unfold q_put q_ptl q_ptc at hQ
    rw [e] at hQ
    have key := hQ I F R hX FrM_refl
    simp (disch := omega) only [e73_8, true_or, m_psh_s, m_psh_n, m_kl_i, m_kl_f, m_kl_r, m_kl_n, m_kl_j, m_kl_l, m_kl_d, c_i, c_f, c_r, c_n, List.length_nil, List.length_cons, true_and, and_true, Nat.reduceAdd, Nat.reduceLeDiff, Nat.reduceSub, Nat.reduceEqDiff, Nat.reduceLT, ge_iff_le, gt_iff_lt, n_lit, m_in, m_nar0, m_nar1, and_self, not_false_eq_true, not_true_eq_false, ne_eq, reduceIte, ite_self, Nat.reduceMul, Nat.reduceDiv, Nat.reduceMod, Nat.reducePow, Nat.zero_add, Nat.add_zero, Nat.one_mul, Nat.mul_one, n_in, n_min, n_clamp, n_eq_t, n_eq_f, n_eq, n_le_t, n_le_f, n_le, n_lt_t, n_lt_f, n_lt, n_sub0, n_sublt, n_suble, n_negsub, m_up_hit, m_up_miss, m_row_hit, m_row_miss, n_eqm, n_meq, n_meqm, n_ltm, n_lem, n_mlt, n_mle, n_sub, n_div, n_and1, n_shl, n_shr, n_inc, n_mul, n_rem, z_lt, z_le, z_nlt, z_nle, Nat.not_lt_zero, Nat.le_zero_eq, Nat.zero_le, if_true, if_false]
    exact key
  · intro m v6 e
    obtain ⟨-, h2, h3⟩ := q_scan_le 8 0 _ e
    unfold q_put q_ptl q_ptc at hQ
    rw [e] at hQ
    cases m with
    | zero =>
      have key := hQ I F R hX FrM_refl
      simp (disch := omega) only [e73_8, e74_61, e74_62, e74_65, e74_67, e74_68, e74_69, e74_72, e74_74, true_or, m_psh_s, m_psh_n, m_kl_i, m_kl_f, m_kl_r, m_kl_n, m_kl_j, m_kl_l, m_kl_d, c_i, c_f, c_r, c_n, List.length_nil, List.length_cons, true_and, and_true, Nat.reduceAdd, Nat.reduceLeDiff, Nat.reduceSub, Nat.reduceEqDiff, Nat.reduceLT, ge_iff_le, gt_iff_lt, n_lit, m_in, m_nar0, m_nar1, and_self, not_false_eq_true, not_true_eq_false, ne_eq, reduceIte, ite_self, Nat.reduceMul, Nat.reduceDiv, Nat.reduceMod, Nat.reducePow, Nat.zero_add, Nat.add_zero, Nat.one_mul, Nat.mul_one, n_in, n_min, n_clamp, n_eq_t, n_eq_f, n_eq, n_le_t, n_le_f, n_le, n_lt_t, n_lt_f, n_lt, n_sub0, n_sublt, n_suble, n_negsub, m_up_hit, m_up_miss, m_row_hit, m_row_miss, n_eqm, n_meq, n_meqm, n_ltm, n_lem, n_mlt, n_mle, n_sub, n_div, n_and1, n_shl, n_shr, n_inc, n_mul, n_rem, z_lt, z_le, z_nlt, z_nle, Nat.not_lt_zero, Nat.le_zero_eq, Nat.zero_le, if_true, if_false]
      exact key
    | succ m =>
      dsimp only at hQ
      by_cases c : 80 < pl + (m + 1)
      · rw [if_pos c, if_pos c] at hQ
        have key := hQ I F R (XS_pad hX ⟨p1, hpl, fun k hk => by dsimp only; rw [if_neg (by omega)]; exact hP.2.2 k hk⟩ Off_refl) FrM_refl
        simp (disch := omega) only [e73_8, e74_61, e74_62, e74_65, e74_67, e74_68, e74_69, e74_72, e74_74, e74_75, e74_75N, e74_76, e74_79, e74_80, e74_81, e74_83, e74_86, e74_88, true_or, m_psh_s, m_psh_n, m_kl_i, m_kl_f, m_kl_r, m_kl_n, m_kl_j, m_kl_l, m_kl_d, c_i, c_f, c_r, c_n, List.length_nil, List.length_cons, true_and, and_true, Nat.reduceAdd, Nat.reduceLeDiff, Nat.reduceSub, Nat.reduceEqDiff, Nat.reduceLT, ge_iff_le, gt_iff_lt, n_lit, m_in, m_nar0, m_nar1, and_self, not_false_eq_true, not_true_eq_false, ne_eq, reduceIte, ite_self, Nat.reduceMul, Nat.reduceDiv, Nat.reduceMod, Nat.reducePow, Nat.zero_add, Nat.add_zero, Nat.one_mul, Nat.mul_one, n_in, n_min, n_clamp, n_eq_t, n_eq_f, n_eq, n_le_t, n_le_f, n_le, n_lt_t, n_lt_f, n_lt, n_sub0, n_sublt, n_suble, n_negsub, m_up_hit, m_up_miss, m_row_hit, m_row_miss, n_eqm, n_meq, n_meqm, n_ltm, n_lem, n_mlt, n_mle, n_sub, n_div, n_and1, n_shl, n_shr, n_inc, n_mul, n_rem, z_lt, z_le, z_nlt, z_nle, Nat.not_lt_zero, Nat.le_zero_eq, Nat.zero_le, if_true, if_false, l_lit, l_cmp, xp1, p1]
        exact key
      · rw [if_neg c, if_neg c] at hQ
        have key := s_app0 (d := d - 1) (F := F) (n := n) (u := u) (m := m) (pl := pl) (pc := pc) (v3 := .int (nI (m + 1))) (v4 := .long (lN 0)) (Q := fun v I F R n => Ev lay d 73 8 [.ref 1, .long (lN u), m_j] (m_psh v []) I F R n Q) xp1 xp2 xp4 hu (by omega) (by omega) (m + 1) I (Nat.le_refl _) (by rw [Nat.sub_self]; exact p1) (fun k hk => by rw [Nat.sub_self] at hk; rw [if_neg (by omega)]; exact hP.2.2 k hk) (fun I' k1 k2 => by
          have key := hQ I' F R (XS_pad hX k1 k2) (FrM_pad k2)
          simp (disch := omega) only [e73_8, true_or, m_psh_s, m_psh_n, m_kl_i, m_kl_f, m_kl_r, m_kl_n, m_kl_j, m_kl_l, m_kl_d, c_i, c_f, c_r, c_n, List.length_nil, List.length_cons, true_and, and_true, Nat.reduceAdd, Nat.reduceLeDiff, Nat.reduceSub, Nat.reduceEqDiff, Nat.reduceLT, ge_iff_le, gt_iff_lt, n_lit, m_in, m_nar0, m_nar1, and_self, not_false_eq_true, not_true_eq_false, ne_eq, reduceIte, ite_self, Nat.reduceMul, Nat.reduceDiv, Nat.reduceMod, Nat.reducePow, Nat.zero_add, Nat.add_zero, Nat.one_mul, Nat.mul_one, n_in, n_min, n_clamp, n_eq_t, n_eq_f, n_eq, n_le_t, n_le_f, n_le, n_lt_t, n_lt_f, n_lt, n_sub0, n_sublt, n_suble, n_negsub, m_up_hit, m_up_miss, m_row_hit, m_row_miss, n_eqm, n_meq, n_meqm, n_ltm, n_lem, n_mlt, n_mle, n_sub, n_div, n_and1, n_shl, n_shr, n_inc, n_mul, n_rem, z_lt, z_le, z_nlt, z_nle, Nat.not_lt_zero, Nat.le_zero_eq, Nat.zero_le, if_true, if_false]
          exact key)
        simp (disch := omega) only [e74_61, e74_62, e74_65, e74_67, e74_68, e74_69, e74_72, e74_74, e74_75, e74_75N, e74_76, e74_79, e74_80, e74_81, e74_83, e74_86, e74_88, e74_89, e74_90, e74_91, e74_92, true_or, m_psh_s, m_psh_n, m_kl_i, m_kl_f, m_kl_r, m_kl_n, m_kl_j, m_kl_l, m_kl_d, c_i, c_f, c_r, c_n, List.length_nil, List.length_cons, true_and, and_true, Nat.reduceAdd, Nat.reduceLeDiff, Nat.reduceSub, Nat.reduceEqDiff, Nat.reduceLT, ge_iff_le, gt_iff_lt, n_lit, m_in, m_nar0, m_nar1, and_self, not_false_eq_true, not_true_eq_false, ne_eq, reduceIte, ite_self, Nat.reduceMul, Nat.reduceDiv, Nat.reduceMod, Nat.reducePow, Nat.zero_add, Nat.add_zero, Nat.one_mul, Nat.mul_one, n_in, n_min, n_clamp, n_eq_t, n_eq_f, n_eq, n_le_t, n_le_f, n_le, n_lt_t, n_lt_f, n_lt, n_sub0, n_sublt, n_suble, n_negsub, m_up_hit, m_up_miss, m_row_hit, m_row_miss, n_eqm, n_meq, n_meqm, n_ltm, n_lem, n_mlt, n_mle, n_sub, n_div, n_and1, n_shl, n_shr, n_inc, n_mul, n_rem, z_lt, z_le, z_nlt, z_nle, Nat.not_lt_zero, Nat.le_zero_eq, Nat.zero_le, if_true, if_false, l_lit, l_cmp, xp1, p1, Nat.add_sub_cancel]
        exact key
end PUTB
