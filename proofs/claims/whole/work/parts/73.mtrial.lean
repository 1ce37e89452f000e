section MTRIAL
variable {lay : mL} {d a n n' : Nat} {I I' : mI} {F F' : mF} {R R' : mR} {Q : mP} {S : Nat → Nat} {sp : Nat → UInt32} {hi : List Nat} {pm pm' pl : Nat} {hs : List St} {pc : Nat → Nat} {sv : Nat → Option St}
theorem r_putBack {st : St} (h : MX lay I F R S sp hi pm hs pl pc sv) (ha : AM I F pm st) (hQ : ∀ I' F', MX lay I' F' R st.1 st.2.1 st.2.2 pm hs pl pc sv → FrR I F I' F' → Q none I' F' R n) : Ev lay d 150 0 [.ref 166, m_j] [] I F R n Q := by
  obtain ⟨h1, h2, h3, h4, h5, h6, h7⟩ := h
  have key := l_back (d := d) (n := n) (F := F) (Q := Q) h1 124 0 I rfl (fun W a1 a2 a3 => by
    have key := l_backF (d := d) (n := n) (I := W) (Q := Q) h1 16 0 F rfl (fun V b1 b2 b3 => by
      have ch : ∀ k, k < pm → W 176 k = I 176 k ∧ W 177 k = I 177 k := fun k _ => by rw [a2 176 (by omega), a2 177 (by omega)]; exact ⟨rfl, rfl⟩
      obtain ⟨c1, c2, c3⟩ := ha
      have key := hQ W V ⟨h1, ⟨fun k hk => by rw [a1 k (by omega) (by omega)]; have := c1 k hk; rw [Nat.zero_add] at this; exact this, fun g hg => by rw [b1 g (by omega) hg]; have := c2 g hg; rw [Nat.zero_add] at this; exact this⟩, by rw [a1 123 (by omega) (by omega)]; rw [Nat.zero_add] at c3; exact Mch_off c3 (Nat.le_refl _) ch, by rw [a2 166 (by omega)]; exact h4, HM_sm h5 (Nat.le_refl _) (by rw [a2 166 (by omega)]) (a2 171 (by omega)) (b2 172 (by omega)) ch, VM_sm h6 (Nat.le_refl _) (by rw [a2 166 (by omega)]) (a2 173 (by omega)) (b2 174 (by omega)) ch, PM_sm h7 (by rw [a2 166 (by omega)]) (a2 175 (by omega))⟩ (fun x hx => ⟨a2 x (by omega), b2 x (by omega)⟩)
      simp (disch := omega) only [e150_52, true_or, m_psh_s, m_psh_n, m_kl_i, m_kl_f, m_kl_r, m_kl_n, m_kl_j, m_kl_l, m_kl_d, c_i, c_f, c_r, c_n, List.length_nil, List.length_cons, true_and, and_true, Nat.reduceAdd, Nat.reduceLeDiff, Nat.reduceSub, Nat.reduceEqDiff, Nat.reduceLT, ge_iff_le, gt_iff_lt, n_lit, m_in, m_nar0, m_nar1, and_self, not_false_eq_true, not_true_eq_false, ne_eq, reduceIte, ite_self, Nat.reduceMul, Nat.reduceDiv, Nat.reduceMod, Nat.reducePow, Nat.zero_add, Nat.add_zero, Nat.one_mul, Nat.mul_one, n_in, n_min, n_clamp, n_eq_t, n_eq_f, n_eq, n_le_t, n_le_f, n_le, n_lt_t, n_lt_f, n_lt, n_sub0, n_sublt, n_suble, n_negsub, m_up_hit, m_up_miss, m_row_hit, m_row_miss, n_eqm, n_meq, n_meqm, n_ltm, n_lem, n_mlt, n_mle, n_sub, n_div, n_and1, n_shl, n_shr, n_inc, n_mul, n_rem, z_lt, z_le, z_nlt, z_nle, Nat.not_lt_zero, Nat.le_zero_eq, Nat.zero_le, if_true, if_false]
      exact key)
    simp (disch := omega) only [e150_26, e150_27, true_or, m_psh_s, m_psh_n, m_kl_i, m_kl_f, m_kl_r, m_kl_n, m_kl_j, m_kl_l, m_kl_d, c_i, c_f, c_r, c_n, List.length_nil, List.length_cons, true_and, and_true, Nat.reduceAdd, Nat.reduceLeDiff, Nat.reduceSub, Nat.reduceEqDiff, Nat.reduceLT, ge_iff_le, gt_iff_lt, n_lit, m_in, m_nar0, m_nar1, and_self, not_false_eq_true, not_true_eq_false, ne_eq, reduceIte, ite_self, Nat.reduceMul, Nat.reduceDiv, Nat.reduceMod, Nat.reducePow, Nat.zero_add, Nat.add_zero, Nat.one_mul, Nat.mul_one, n_in, n_min, n_clamp, n_eq_t, n_eq_f, n_eq, n_le_t, n_le_f, n_le, n_lt_t, n_lt_f, n_lt, n_sub0, n_sublt, n_suble, n_negsub, m_up_hit, m_up_miss, m_row_hit, m_row_miss, n_eqm, n_meq, n_meqm, n_ltm, n_lem, n_mlt, n_mle, n_sub, n_div, n_and1, n_shl, n_shr, n_inc, n_mul, n_rem, z_lt, z_le, z_nlt, z_nle, Nat.not_lt_zero, Nat.le_zero_eq, Nat.zero_le, if_true, if_false]
    exact key)
  simp (disch := omega) only [e150_0, e150_1, true_or, m_psh_s, m_psh_n, m_kl_i, m_kl_f, m_kl_r, m_kl_n, m_kl_j, m_kl_l, m_kl_d, c_i, c_f, c_r, c_n, List.length_nil, List.length_cons, true_and, and_true, Nat.reduceAdd, Nat.reduceLeDiff, Nat.reduceSub, Nat.reduceEqDiff, Nat.reduceLT, ge_iff_le, gt_iff_lt, n_lit, m_in, m_nar0, m_nar1, and_self, not_false_eq_true, not_true_eq_false, ne_eq, reduceIte, ite_self, Nat.reduceMul, Nat.reduceDiv, Nat.reduceMod, Nat.reducePow, Nat.zero_add, Nat.add_zero, Nat.one_mul, Nat.mul_one, n_in, n_min, n_clamp, n_eq_t, n_eq_f, n_eq, n_le_t, n_le_f, n_le, n_lt_t, n_lt_f, n_lt, n_sub0, n_sublt, n_suble, n_negsub, m_up_hit, m_up_miss, m_row_hit, m_row_miss, n_eqm, n_meq, n_meqm, n_ltm, n_lem, n_mlt, n_mle, n_sub, n_div, n_and1, n_shl, n_shr, n_inc, n_mul, n_rem, z_lt, z_le, z_nlt, z_nle, Nat.not_lt_zero, Nat.le_zero_eq, Nat.zero_le, if_true, if_false]
  exact key
theorem m_bestSwap {y : Int32} (h : MX lay I F R S sp hi pm hs pl pc sv) (wf : Wf S sp hi) (ao : q_aok S sp) (wo : allW S (q_age S sp (S 3))) (hd : 6 ≤ d) (hQ : ∀ I' F', MX lay I' F' R S sp hi pm hs pl pc sv → FrR I F I' F' → Q (some (.int (q_bsw S sp y))) I' F' R n) : Ev lay d 149 0 [.ref 166, .int y, m_j] [] I F R n Q := by
  have m0 := h.1.1
  have ki : ∀ (v lo hi' : Int32) (I : mI) (F : mF) (Q : mP), _ := fun v lo hi' I F Q => r_in (lay := lay) (d := d - 1) (v := v) (lo := lo) (hi' := hi') (I := I) (F := F) (R := R) (n := n) (Q := Q)
  obtain ⟨w, h2, hc, hD, hY, hN, hP, hS, hH, hU, hz1, hz2⟩ := wf
  have kp : ∀ (Q : mP), _ → _ := fun Q hQ => r_putAside (d := d - 1) (n := n) (Q := Q) h hQ
  unfold q_bsw at hQ
  have go : ∀ (y : Int32), y = nI 0 ∨ y = nI 1 → (∀ I' F', MX lay I' F' R S sp hi pm hs pl pc sv → FrR I F I' F' → Q (some (.int (if y = nI 0 then q_loI (q_bp S (q_age S sp (S 3)) 900).1 else if y = nI 1 then q_hiI (q_bp S (q_age S sp (S 3)) 900).1 else -nI 2))) I' F' R n) → Ev lay d 149 12 [.ref 166, .int y, m_j] [] I F R n Q := by
    intro y hy hQ
    simp (disch := omega) only [e149_12, e149_12N, e149_13, true_or, m_psh_s, m_psh_n, m_kl_i, m_kl_f, m_kl_r, m_kl_n, m_kl_j, m_kl_l, m_kl_d, c_i, c_f, c_r, c_n, List.length_nil, List.length_cons, true_and, and_true, Nat.reduceAdd, Nat.reduceLeDiff, Nat.reduceSub, Nat.reduceEqDiff, Nat.reduceLT, ge_iff_le, gt_iff_lt, n_lit, m_in, m_nar0, m_nar1, and_self, not_false_eq_true, not_true_eq_false, ne_eq, reduceIte, ite_self, Nat.reduceMul, Nat.reduceDiv, Nat.reduceMod, Nat.reducePow, Nat.zero_add, Nat.add_zero, Nat.one_mul, Nat.mul_one, n_in, n_min, n_clamp, n_eq_t, n_eq_f, n_eq, n_le_t, n_le_f, n_le, n_lt_t, n_lt_f, n_lt, n_sub0, n_sublt, n_suble, n_negsub, m_up_hit, m_up_miss, m_row_hit, m_row_miss, n_eqm, n_meq, n_meqm, n_ltm, n_lem, n_mlt, n_mle, n_sub, n_div, n_and1, n_shl, n_shr, n_inc, n_mul, n_rem, z_lt, z_le, z_nlt, z_nle, Nat.not_lt_zero, Nat.le_zero_eq, Nat.zero_le, if_true, if_false, m0]
    apply kp
    intro I1 F1 h1 a1 f1
    have kf : ∀ (Q : mP), _ → _ := fun Q hQ => r_forgets (d := d - 1) (n := n) (Q := Q) h1.1 h1.2.1 w h2.2.1 ao (by omega) hQ
    simp (disch := omega) only [e149_16, e149_16N, e149_17, true_or, m_psh_s, m_psh_n, m_kl_i, m_kl_f, m_kl_r, m_kl_n, m_kl_j, m_kl_l, m_kl_d, c_i, c_f, c_r, c_n, List.length_nil, List.length_cons, true_and, and_true, Nat.reduceAdd, Nat.reduceLeDiff, Nat.reduceSub, Nat.reduceEqDiff, Nat.reduceLT, ge_iff_le, gt_iff_lt, n_lit, m_in, m_nar0, m_nar1, and_self, not_false_eq_true, not_true_eq_false, ne_eq, reduceIte, ite_self, Nat.reduceMul, Nat.reduceDiv, Nat.reduceMod, Nat.reducePow, Nat.zero_add, Nat.add_zero, Nat.one_mul, Nat.mul_one, n_in, n_min, n_clamp, n_eq_t, n_eq_f, n_eq, n_le_t, n_le_f, n_le, n_lt_t, n_lt_f, n_lt, n_sub0, n_sublt, n_suble, n_negsub, m_up_hit, m_up_miss, m_row_hit, m_row_miss, n_eqm, n_meq, n_meqm, n_ltm, n_lem, n_mlt, n_mle, n_sub, n_div, n_and1, n_shl, n_shr, n_inc, n_mul, n_rem, z_lt, z_le, z_nlt, z_nle, Nat.not_lt_zero, Nat.le_zero_eq, Nat.zero_le, if_true, if_false, m0]
    apply kf
    intro F2 k2 o2
    have h2' := MX_om h1 k2 o2
    have a2 := AM_om a1 o2
    have kb : ∀ (Q : mP), _ → _ := fun Q hQ => r_best (d := d - 1) (n := n) (Q := Q) h1.1 k2 w h2.2.2 hc hD hz1 wo (by omega) hQ
    simp (disch := omega) only [e149_20, e149_20N, e149_21, true_or, m_psh_s, m_psh_n, m_kl_i, m_kl_f, m_kl_r, m_kl_n, m_kl_j, m_kl_l, m_kl_d, c_i, c_f, c_r, c_n, List.length_nil, List.length_cons, true_and, and_true, Nat.reduceAdd, Nat.reduceLeDiff, Nat.reduceSub, Nat.reduceEqDiff, Nat.reduceLT, ge_iff_le, gt_iff_lt, n_lit, m_in, m_nar0, m_nar1, and_self, not_false_eq_true, not_true_eq_false, ne_eq, reduceIte, ite_self, Nat.reduceMul, Nat.reduceDiv, Nat.reduceMod, Nat.reducePow, Nat.zero_add, Nat.add_zero, Nat.one_mul, Nat.mul_one, n_in, n_min, n_clamp, n_eq_t, n_eq_f, n_eq, n_le_t, n_le_f, n_le, n_lt_t, n_lt_f, n_lt, n_sub0, n_sublt, n_suble, n_negsub, m_up_hit, m_up_miss, m_row_hit, m_row_miss, n_eqm, n_meq, n_meqm, n_ltm, n_lem, n_mlt, n_mle, n_sub, n_div, n_and1, n_shl, n_shr, n_inc, n_mul, n_rem, z_lt, z_le, z_nlt, z_nle, Nat.not_lt_zero, Nat.le_zero_eq, Nat.zero_le, if_true, if_false, m0]
    apply kb
    intro I3 k3 o3
    have h3 := MX_om h2' k3 o3
    have a3 := AM_om a2 o3
    have kq : ∀ (Q : mP), _ → _ := fun Q hQ => r_putBack (d := d - 1) (n := n) (Q := Q) h3 a3 hQ
    simp (disch := omega) only [e149_24, e149_25, e149_25N, e149_26, true_or, m_psh_s, m_psh_n, m_kl_i, m_kl_f, m_kl_r, m_kl_n, m_kl_j, m_kl_l, m_kl_d, c_i, c_f, c_r, c_n, List.length_nil, List.length_cons, true_and, and_true, Nat.reduceAdd, Nat.reduceLeDiff, Nat.reduceSub, Nat.reduceEqDiff, Nat.reduceLT, ge_iff_le, gt_iff_lt, n_lit, m_in, m_nar0, m_nar1, and_self, not_false_eq_true, not_true_eq_false, ne_eq, reduceIte, ite_self, Nat.reduceMul, Nat.reduceDiv, Nat.reduceMod, Nat.reducePow, Nat.zero_add, Nat.add_zero, Nat.one_mul, Nat.mul_one, n_in, n_min, n_clamp, n_eq_t, n_eq_f, n_eq, n_le_t, n_le_f, n_le, n_lt_t, n_lt_f, n_lt, n_sub0, n_sublt, n_suble, n_negsub, m_up_hit, m_up_miss, m_row_hit, m_row_miss, n_eqm, n_meq, n_meqm, n_ltm, n_lem, n_mlt, n_mle, n_sub, n_div, n_and1, n_shl, n_shr, n_inc, n_mul, n_rem, z_lt, z_le, z_nlt, z_nle, Nat.not_lt_zero, Nat.le_zero_eq, Nat.zero_le, if_true, if_false, m0]
    apply kq
    intro I4 F4 h4 f4
    have key := hQ I4 F4 h4 (FrR_trans f1 (FrR_trans (FrR_om o2) (FrR_trans (FrR_om o3) f4)))
    cases e : (q_bp S (q_age S sp (S 3)) 900).1 with
    | none =>
      rw [e] at key
      simp only [q_loI, q_hiI] at key
      rcases hy with rfl | rfl
      · simp (disch := omega) only [n_eq_t, n_eq_f, if_true, if_false] at key
        simp (disch := omega) only [e149_29, e149_30, e149_32, e149_35, e149_37, e149_40, e149_41, e149_44, e149_45, e149_47, e149_48, e149_51, e149_52, e149_54, e149_55, true_or, m_psh_s, m_psh_n, m_kl_i, m_kl_f, m_kl_r, m_kl_n, m_kl_j, m_kl_l, m_kl_d, c_i, c_f, c_r, c_n, List.length_nil, List.length_cons, true_and, and_true, Nat.reduceAdd, Nat.reduceLeDiff, Nat.reduceSub, Nat.reduceEqDiff, Nat.reduceLT, ge_iff_le, gt_iff_lt, n_lit, m_in, m_nar0, m_nar1, and_self, not_false_eq_true, not_true_eq_false, ne_eq, reduceIte, ite_self, Nat.reduceMul, Nat.reduceDiv, Nat.reduceMod, Nat.reducePow, Nat.zero_add, Nat.add_zero, Nat.one_mul, Nat.mul_one, n_in, n_min, n_clamp, n_eq_t, n_eq_f, n_eq, n_le_t, n_le_f, n_le, n_lt_t, n_lt_f, n_lt, n_sub0, n_sublt, n_suble, n_negsub, m_up_hit, m_up_miss, m_row_hit, m_row_miss, n_eqm, n_meq, n_meqm, n_ltm, n_lem, n_mlt, n_mle, n_sub, n_div, n_and1, n_shl, n_shr, n_inc, n_mul, n_rem, z_lt, z_le, z_nlt, z_nle, Nat.not_lt_zero, Nat.le_zero_eq, Nat.zero_le, if_true, if_false, q_oI]
        exact key
      · simp (disch := omega) only [n_eq_t, n_eq_f, if_true, if_false] at key
        simp (disch := omega) only [e149_29, e149_30, e149_32, e149_35, e149_37, e149_40, e149_41, e149_44, e149_45, e149_47, e149_48, e149_51, e149_52, e149_54, e149_55, true_or, m_psh_s, m_psh_n, m_kl_i, m_kl_f, m_kl_r, m_kl_n, m_kl_j, m_kl_l, m_kl_d, c_i, c_f, c_r, c_n, List.length_nil, List.length_cons, true_and, and_true, Nat.reduceAdd, Nat.reduceLeDiff, Nat.reduceSub, Nat.reduceEqDiff, Nat.reduceLT, ge_iff_le, gt_iff_lt, n_lit, m_in, m_nar0, m_nar1, and_self, not_false_eq_true, not_true_eq_false, ne_eq, reduceIte, ite_self, Nat.reduceMul, Nat.reduceDiv, Nat.reduceMod, Nat.reducePow, Nat.zero_add, Nat.add_zero, Nat.one_mul, Nat.mul_one, n_in, n_min, n_clamp, n_eq_t, n_eq_f, n_eq, n_le_t, n_le_f, n_le, n_lt_t, n_lt_f, n_lt, n_sub0, n_sublt, n_suble, n_negsub, m_up_hit, m_up_miss, m_row_hit, m_row_miss, n_eqm, n_meq, n_meqm, n_ltm, n_lem, n_mlt, n_mle, n_sub, n_div, n_and1, n_shl, n_shr, n_inc, n_mul, n_rem, z_lt, z_le, z_nlt, z_nle, Nat.not_lt_zero, Nat.le_zero_eq, Nat.zero_le, if_true, if_false, q_oI]
        exact key
    | some p =>
      have hp := q_bp_lt e
      rw [e] at key
      simp only [q_loI, q_hiI] at key
      rcases hy with rfl | rfl
      · simp (disch := omega) only [n_eq_t, n_eq_f, if_true, if_false] at key
        simp (disch := omega) only [e149_29, e149_30, e149_32, e149_35, e149_37, e149_40, e149_41, e149_44, e149_45, e149_47, e149_48, e149_51, e149_52, e149_54, e149_55, true_or, m_psh_s, m_psh_n, m_kl_i, m_kl_f, m_kl_r, m_kl_n, m_kl_j, m_kl_l, m_kl_d, c_i, c_f, c_r, c_n, List.length_nil, List.length_cons, true_and, and_true, Nat.reduceAdd, Nat.reduceLeDiff, Nat.reduceSub, Nat.reduceEqDiff, Nat.reduceLT, ge_iff_le, gt_iff_lt, n_lit, m_in, m_nar0, m_nar1, and_self, not_false_eq_true, not_true_eq_false, ne_eq, reduceIte, ite_self, Nat.reduceMul, Nat.reduceDiv, Nat.reduceMod, Nat.reducePow, Nat.zero_add, Nat.add_zero, Nat.one_mul, Nat.mul_one, n_in, n_min, n_clamp, n_eq_t, n_eq_f, n_eq, n_le_t, n_le_f, n_le, n_lt_t, n_lt_f, n_lt, n_sub0, n_sublt, n_suble, n_negsub, m_up_hit, m_up_miss, m_row_hit, m_row_miss, n_eqm, n_meq, n_meqm, n_ltm, n_lem, n_mlt, n_mle, n_sub, n_div, n_and1, n_shl, n_shr, n_inc, n_mul, n_rem, z_lt, z_le, z_nlt, z_nle, Nat.not_lt_zero, Nat.le_zero_eq, Nat.zero_le, if_true, if_false, q_oI]
        exact key
      · simp (disch := omega) only [n_eq_t, n_eq_f, if_true, if_false] at key
        simp (disch := omega) only [e149_29, e149_30, e149_32, e149_35, e149_37, e149_40, e149_41, e149_44, e149_45, e149_47, e149_48, e149_51, e149_52, e149_54, e149_55, true_or, m_psh_s, m_psh_n, m_kl_i, m_kl_f, m_kl_r, m_kl_n, m_kl_j, m_kl_l, m_kl_d, c_i, c_f, c_r, c_n, List.length_nil, List.length_cons, true_and, and_true, Nat.reduceAdd, Nat.reduceLeDiff, Nat.reduceSub, Nat.reduceEqDiff, Nat.reduceLT, ge_iff_le, gt_iff_lt, n_lit, m_in, m_nar0, m_nar1, and_self, not_false_eq_true, not_true_eq_false, ne_eq, reduceIte, ite_self, Nat.reduceMul, Nat.reduceDiv, Nat.reduceMod, Nat.reducePow, Nat.zero_add, Nat.add_zero, Nat.one_mul, Nat.mul_one, n_in, n_min, n_clamp, n_eq_t, n_eq_f, n_eq, n_le_t, n_le_f, n_le, n_lt_t, n_lt_f, n_lt, n_sub0, n_sublt, n_suble, n_negsub, m_up_hit, m_up_miss, m_row_hit, m_row_miss, n_eqm, n_meq, n_meqm, n_ltm, n_lem, n_mlt, n_mle, n_sub, n_div, n_and1, n_shl, n_shr, n_inc, n_mul, n_rem, z_lt, z_le, z_nlt, z_nle, Nat.not_lt_zero, Nat.le_zero_eq, Nat.zero_le, if_true, if_false, q_oI]
        exact key
  by_cases c : y = nI 0 ∨ y = nI 1
  · have key := go y c hQ
    have nr : nI 0 ≤ y ∧ y ≤ nI 1 := by
      rcases c with rfl | rfl
      · decide
      · decide
    simp (disch := omega) only [e149_0, e149_1, e149_2, e149_3, e149_6, true_or, m_psh_s, m_psh_n, m_kl_i, m_kl_f, m_kl_r, m_kl_n, m_kl_j, m_kl_l, m_kl_d, c_i, c_f, c_r, c_n, List.length_nil, List.length_cons, true_and, and_true, Nat.reduceAdd, Nat.reduceLeDiff, Nat.reduceSub, Nat.reduceEqDiff, Nat.reduceLT, ge_iff_le, gt_iff_lt, n_lit, m_in, m_nar0, m_nar1, and_self, not_false_eq_true, not_true_eq_false, ne_eq, reduceIte, ite_self, Nat.reduceMul, Nat.reduceDiv, Nat.reduceMod, Nat.reducePow, Nat.zero_add, Nat.add_zero, Nat.one_mul, Nat.mul_one, n_in, n_min, n_clamp, n_eq_t, n_eq_f, n_eq, n_le_t, n_le_f, n_le, n_lt_t, n_lt_f, n_lt, n_sub0, n_sublt, n_suble, n_negsub, m_up_hit, m_up_miss, m_row_hit, m_row_miss, n_eqm, n_meq, n_meqm, n_ltm, n_lem, n_mlt, n_mle, n_sub, n_div, n_and1, n_shl, n_shr, n_inc, n_mul, n_rem, z_lt, z_le, z_nlt, z_nle, Nat.not_lt_zero, Nat.le_zero_eq, Nat.zero_le, if_true, if_false, ki, if_pos nr]
    exact key
  · have e0 : (y = nI 0) = False := eq_false fun z => c (Or.inl z)
    have e1 : (y = nI 1) = False := eq_false fun z => c (Or.inr z)
    have key := hQ I F h FrR_refl
    simp only [e0, e1, if_false] at key
    have nr : ¬ (nI 0 ≤ y ∧ y ≤ nI 1) := by
      rcases n_g y with ⟨q, hq, rfl⟩ | hx
      · rw [n_le (by omega) hq, n_le hq (by omega)]
        intro z
        have : q = 0 ∨ q = 1 := by omega
        rcases this with rfl | rfl
        · exact c (Or.inl rfl)
        · exact c (Or.inr rfl)
      · intro z
        rw [n_g2 hx (by omega)] at z
        exact z.1
    simp (disch := omega) only [e149_0, e149_1, e149_2, e149_3, e149_6, e149_9, e149_11, true_or, m_psh_s, m_psh_n, m_kl_i, m_kl_f, m_kl_r, m_kl_n, m_kl_j, m_kl_l, m_kl_d, c_i, c_f, c_r, c_n, List.length_nil, List.length_cons, true_and, and_true, Nat.reduceAdd, Nat.reduceLeDiff, Nat.reduceSub, Nat.reduceEqDiff, Nat.reduceLT, ge_iff_le, gt_iff_lt, n_lit, m_in, m_nar0, m_nar1, and_self, not_false_eq_true, not_true_eq_false, ne_eq, reduceIte, ite_self, Nat.reduceMul, Nat.reduceDiv, Nat.reduceMod, Nat.reducePow, Nat.zero_add, Nat.add_zero, Nat.one_mul, Nat.mul_one, n_in, n_min, n_clamp, n_eq_t, n_eq_f, n_eq, n_le_t, n_le_f, n_le, n_lt_t, n_lt_f, n_lt, n_sub0, n_sublt, n_suble, n_negsub, m_up_hit, m_up_miss, m_row_hit, m_row_miss, n_eqm, n_meq, n_meqm, n_ltm, n_lem, n_mlt, n_mle, n_sub, n_div, n_and1, n_shl, n_shr, n_inc, n_mul, n_rem, z_lt, z_le, z_nlt, z_nle, Nat.not_lt_zero, Nat.le_zero_eq, Nat.zero_le, if_true, if_false, ki, if_neg nr]
    exact key
theorem q_exS_self {s : Nat} : q_exS S s s = S := by
  unfold q_exS
  cases e : q_gi S s with
  | none => rfl
  | some g =>
    have hp := (q_gin_some e).2
    funext j
    simp only [q_mv, up1]
    by_cases c : j = 4 + 4 * g
    · rw [if_pos c, c]; exact hp.symm
    · rw [if_neg c]; rw [if_neg c]
theorem m_ifSwapped {x y : Int32} (h : MX lay I F R S sp hi pm hs pl pc sv) (wf : Wf S sp hi) (hd : 5 ≤ d) (hQ : ∀ I' F', MX lay I' F' R S sp hi pm hs pl pc sv → FrR I F I' F' → Q (some (.int (q_ifs S x y))) I' F' R n) : Ev lay d 151 0 [.ref 166, .int x, .int y, m_j, m_j] [] I F R n Q := by
  have m0 := h.1.1
  have hl := h.1
  obtain ⟨w, h2, hc, hD, hY, hN, hP, hS, hH, hU, hz1, hz2⟩ := wf
  have ki : ∀ (x : Int32) (Q : mP), _ := fun x Q => r_isSlot (lay := lay) (x := x) (d := d - 1) (I := I) (F := F) (R := R) (n := n) (Q := Q) (by omega)
  unfold q_ifs at hQ
  by_cases c : isS x
  · by_cases c2 : isS y
    · rw [if_pos ⟨c, c2⟩] at hQ
      obtain ⟨k, k1, k2, k3⟩ := isS_to c
      obtain ⟨j, j1, j2, j3⟩ := isS_to c2
      simp (disch := omega) only [e151_0, e151_1, e151_4, e151_7, e151_8, e151_11, true_or, m_psh_s, m_psh_n, m_kl_i, m_kl_f, m_kl_r, m_kl_n, m_kl_j, m_kl_l, m_kl_d, c_i, c_f, c_r, c_n, List.length_nil, List.length_cons, true_and, and_true, Nat.reduceAdd, Nat.reduceLeDiff, Nat.reduceSub, Nat.reduceEqDiff, Nat.reduceLT, ge_iff_le, gt_iff_lt, n_lit, m_in, m_nar0, m_nar1, and_self, not_false_eq_true, not_true_eq_false, ne_eq, reduceIte, ite_self, Nat.reduceMul, Nat.reduceDiv, Nat.reduceMod, Nat.reducePow, Nat.zero_add, Nat.add_zero, Nat.one_mul, Nat.mul_one, n_in, n_min, n_clamp, n_eq_t, n_eq_f, n_eq, n_le_t, n_le_f, n_le, n_lt_t, n_lt_f, n_lt, n_sub0, n_sublt, n_suble, n_negsub, m_up_hit, m_up_miss, m_row_hit, m_row_miss, n_eqm, n_meq, n_meqm, n_ltm, n_lem, n_mlt, n_mle, n_sub, n_div, n_and1, n_shl, n_shr, n_inc, n_mul, n_rem, z_lt, z_le, z_nlt, z_nle, Nat.not_lt_zero, Nat.le_zero_eq, Nat.zero_le, if_true, if_false, ki, if_pos c, if_pos c2]
      rw [k3, j3] at hQ
      subst k2
      subst j2
      by_cases e : k = j
      · subst e
        rw [q_exS_self] at hQ
        have key := hQ I F h FrR_refl
        have kn : ∀ (Q : mP), _ := fun Q => r_walksNow (d := d - 1) (n := n) (Q := Q) hl h.2.1 w h2.2.2 hD hz1 (by omega)
        simp (disch := omega) only [e151_16, e151_17, e151_18, e151_21, e151_21N, e151_22, e151_25, true_or, m_psh_s, m_psh_n, m_kl_i, m_kl_f, m_kl_r, m_kl_n, m_kl_j, m_kl_l, m_kl_d, c_i, c_f, c_r, c_n, List.length_nil, List.length_cons, true_and, and_true, Nat.reduceAdd, Nat.reduceLeDiff, Nat.reduceSub, Nat.reduceEqDiff, Nat.reduceLT, ge_iff_le, gt_iff_lt, n_lit, m_in, m_nar0, m_nar1, and_self, not_false_eq_true, not_true_eq_false, ne_eq, reduceIte, ite_self, Nat.reduceMul, Nat.reduceDiv, Nat.reduceMod, Nat.reducePow, Nat.zero_add, Nat.add_zero, Nat.one_mul, Nat.mul_one, n_in, n_min, n_clamp, n_eq_t, n_eq_f, n_eq, n_le_t, n_le_f, n_le, n_lt_t, n_lt_f, n_lt, n_sub0, n_sublt, n_suble, n_negsub, m_up_hit, m_up_miss, m_row_hit, m_row_miss, n_eqm, n_meq, n_meqm, n_ltm, n_lem, n_mlt, n_mle, n_sub, n_div, n_and1, n_shl, n_shr, n_inc, n_mul, n_rem, z_lt, z_le, z_nlt, z_nle, Nat.not_lt_zero, Nat.le_zero_eq, Nat.zero_le, if_true, if_false, m0, kn]
        exact key
      · have ke : ∀ (Q : mP), _ → _ := fun Q hQ => r_exchanges (d := d - 1) (n := n) (Q := Q) hl h.2.1 w k1 j1 (by omega) hQ
        simp (disch := omega) only [e151_16, e151_17, e151_18, e151_21, e151_21N, e151_22, e151_25, e151_26, e151_26N, e151_27, e151_28, e151_29, true_or, m_psh_s, m_psh_n, m_kl_i, m_kl_f, m_kl_r, m_kl_n, m_kl_j, m_kl_l, m_kl_d, c_i, c_f, c_r, c_n, List.length_nil, List.length_cons, true_and, and_true, Nat.reduceAdd, Nat.reduceLeDiff, Nat.reduceSub, Nat.reduceEqDiff, Nat.reduceLT, ge_iff_le, gt_iff_lt, n_lit, m_in, m_nar0, m_nar1, and_self, not_false_eq_true, not_true_eq_false, ne_eq, reduceIte, ite_self, Nat.reduceMul, Nat.reduceDiv, Nat.reduceMod, Nat.reducePow, Nat.zero_add, Nat.add_zero, Nat.one_mul, Nat.mul_one, n_in, n_min, n_clamp, n_eq_t, n_eq_f, n_eq, n_le_t, n_le_f, n_le, n_lt_t, n_lt_f, n_lt, n_sub0, n_sublt, n_suble, n_negsub, m_up_hit, m_up_miss, m_row_hit, m_row_miss, n_eqm, n_meq, n_meqm, n_ltm, n_lem, n_mlt, n_mle, n_sub, n_div, n_and1, n_shl, n_shr, n_inc, n_mul, n_rem, z_lt, z_le, z_nlt, z_nle, Nat.not_lt_zero, Nat.le_zero_eq, Nat.zero_le, if_true, if_false, m0]
        apply ke
        intro I1 h1 o1
        have wX := Wsh_ex w k1 j1
        have e2 : q_exS S k j 2 = S 2 := q_exS_k (by omega)
        have e69 : q_exS S k j 69 = S 69 := q_exS_hi w.1 (by omega)
        have kn : ∀ (Q : mP), _ := fun Q => r_walksNow (d := d - 1) (n := n) (Q := Q) hl h1 wX (by rw [e2]; exact h2.2.2) (dOK_ex w hD) (nzT_ex w hz1) (by omega)
        rw [e69] at kn
        have kb : ∀ (Q : mP), _ → _ := fun Q hQ => r_exchanges (d := d - 1) (n := n) (Q := Q) hl h1 wX k1 j1 (by omega) hQ
        rw [q_exS_inv w k1 j1] at kb
        simp (disch := omega) only [e151_32, e151_33, e151_33N, e151_34, e151_37, e151_39, e151_39N, e151_40, e151_41, e151_42, true_or, m_psh_s, m_psh_n, m_kl_i, m_kl_f, m_kl_r, m_kl_n, m_kl_j, m_kl_l, m_kl_d, c_i, c_f, c_r, c_n, List.length_nil, List.length_cons, true_and, and_true, Nat.reduceAdd, Nat.reduceLeDiff, Nat.reduceSub, Nat.reduceEqDiff, Nat.reduceLT, ge_iff_le, gt_iff_lt, n_lit, m_in, m_nar0, m_nar1, and_self, not_false_eq_true, not_true_eq_false, ne_eq, reduceIte, ite_self, Nat.reduceMul, Nat.reduceDiv, Nat.reduceMod, Nat.reducePow, Nat.zero_add, Nat.add_zero, Nat.one_mul, Nat.mul_one, n_in, n_min, n_clamp, n_eq_t, n_eq_f, n_eq, n_le_t, n_le_f, n_le, n_lt_t, n_lt_f, n_lt, n_sub0, n_sublt, n_suble, n_negsub, m_up_hit, m_up_miss, m_row_hit, m_row_miss, n_eqm, n_meq, n_meqm, n_ltm, n_lem, n_mlt, n_mle, n_sub, n_div, n_and1, n_shl, n_shr, n_inc, n_mul, n_rem, z_lt, z_le, z_nlt, z_nle, Nat.not_lt_zero, Nat.le_zero_eq, Nat.zero_le, if_true, if_false, m0, kn]
        apply kb
        intro I2 h3 o2
        have key := hQ I2 F (MX_om h h3 (Om_trans o1 o2)) (FrR_om (Om_trans o1 o2))
        simp (disch := omega) only [e151_45, e151_46, e151_48, true_or, m_psh_s, m_psh_n, m_kl_i, m_kl_f, m_kl_r, m_kl_n, m_kl_j, m_kl_l, m_kl_d, c_i, c_f, c_r, c_n, List.length_nil, List.length_cons, true_and, and_true, Nat.reduceAdd, Nat.reduceLeDiff, Nat.reduceSub, Nat.reduceEqDiff, Nat.reduceLT, ge_iff_le, gt_iff_lt, n_lit, m_in, m_nar0, m_nar1, and_self, not_false_eq_true, not_true_eq_false, ne_eq, reduceIte, ite_self, Nat.reduceMul, Nat.reduceDiv, Nat.reduceMod, Nat.reducePow, Nat.zero_add, Nat.add_zero, Nat.one_mul, Nat.mul_one, n_in, n_min, n_clamp, n_eq_t, n_eq_f, n_eq, n_le_t, n_le_f, n_le, n_lt_t, n_lt_f, n_lt, n_sub0, n_sublt, n_suble, n_negsub, m_up_hit, m_up_miss, m_row_hit, m_row_miss, n_eqm, n_meq, n_meqm, n_ltm, n_lem, n_mlt, n_mle, n_sub, n_div, n_and1, n_shl, n_shr, n_inc, n_mul, n_rem, z_lt, z_le, z_nlt, z_nle, Nat.not_lt_zero, Nat.le_zero_eq, Nat.zero_le, if_true, if_false]
        exact key
    · rw [if_neg (fun z => c2 z.2)] at hQ
      have key := hQ I F h FrR_refl
      simp (disch := omega) only [e151_0, e151_1, e151_4, e151_7, e151_8, e151_11, e151_14, e151_15, true_or, m_psh_s, m_psh_n, m_kl_i, m_kl_f, m_kl_r, m_kl_n, m_kl_j, m_kl_l, m_kl_d, c_i, c_f, c_r, c_n, List.length_nil, List.length_cons, true_and, and_true, Nat.reduceAdd, Nat.reduceLeDiff, Nat.reduceSub, Nat.reduceEqDiff, Nat.reduceLT, ge_iff_le, gt_iff_lt, n_lit, m_in, m_nar0, m_nar1, and_self, not_false_eq_true, not_true_eq_false, ne_eq, reduceIte, ite_self, Nat.reduceMul, Nat.reduceDiv, Nat.reduceMod, Nat.reducePow, Nat.zero_add, Nat.add_zero, Nat.one_mul, Nat.mul_one, n_in, n_min, n_clamp, n_eq_t, n_eq_f, n_eq, n_le_t, n_le_f, n_le, n_lt_t, n_lt_f, n_lt, n_sub0, n_sublt, n_suble, n_negsub, m_up_hit, m_up_miss, m_row_hit, m_row_miss, n_eqm, n_meq, n_meqm, n_ltm, n_lem, n_mlt, n_mle, n_sub, n_div, n_and1, n_shl, n_shr, n_inc, n_mul, n_rem, z_lt, z_le, z_nlt, z_nle, Nat.not_lt_zero, Nat.le_zero_eq, Nat.zero_le, if_true, if_false, ki, if_pos c, if_neg c2]
      exact key
  · rw [if_neg (fun z => c z.1)] at hQ
    have key := hQ I F h FrR_refl
    simp (disch := omega) only [e151_0, e151_1, e151_4, e151_7, e151_8, e151_11, e151_14, e151_15, true_or, m_psh_s, m_psh_n, m_kl_i, m_kl_f, m_kl_r, m_kl_n, m_kl_j, m_kl_l, m_kl_d, c_i, c_f, c_r, c_n, List.length_nil, List.length_cons, true_and, and_true, Nat.reduceAdd, Nat.reduceLeDiff, Nat.reduceSub, Nat.reduceEqDiff, Nat.reduceLT, ge_iff_le, gt_iff_lt, n_lit, m_in, m_nar0, m_nar1, and_self, not_false_eq_true, not_true_eq_false, ne_eq, reduceIte, ite_self, Nat.reduceMul, Nat.reduceDiv, Nat.reduceMod, Nat.reducePow, Nat.zero_add, Nat.add_zero, Nat.one_mul, Nat.mul_one, n_in, n_min, n_clamp, n_eq_t, n_eq_f, n_eq, n_le_t, n_le_f, n_le, n_lt_t, n_lt_f, n_lt, n_sub0, n_sublt, n_suble, n_negsub, m_up_hit, m_up_miss, m_row_hit, m_row_miss, n_eqm, n_meq, n_meqm, n_ltm, n_lem, n_mlt, n_mle, n_sub, n_div, n_and1, n_shl, n_shr, n_inc, n_mul, n_rem, z_lt, z_le, z_nlt, z_nle, Nat.not_lt_zero, Nat.le_zero_eq, Nat.zero_le, if_true, if_false, ki, if_neg c]
    exact key
/-- whether one of the goods below k stands better -/
def q_bl (S : Nat → Nat) (sp : Nat → UInt32) (g k : Nat) : Prop := ∃ o, o < k ∧ q_bad0 S sp g o
theorem r_bad1 {g : Nat} {v1 : Int32} (hl : ML lay R) (h : MS I F S sp) (w : Wsh S) (hc9 : S 2 ≤ 9) (hg : g < S 3) (hd : 2 ≤ d) (hT : q_bl S sp g (S 3) → Ev lay d 152 85 [.ref 166, .int v1, .int (nI g), .int (nI 1), .int (nI (S 3))] [] I F R n Q) (hF : ¬ q_bl S sp g (S 3) → Ev lay d 152 85 [.ref 166, .int v1, .int (nI g), .int (nI 0), .int (nI (S 3))] [] I F R n Q) (j : Nat) : ∀ (k b : Nat), k + j = S 3 → (b = 1 ∧ q_bl S sp g k ∨ b = 0 ∧ ¬ q_bl S sp g k) → Ev lay d 152 19 [.ref 166, .int v1, .int (nI g), .int (nI b), .int (nI k)] [] I F R n Q := by
  have h3 := h.1 3 (by omega)
  have w1 := w.1
  have hl' := hl
  have step : ∀ k, q_bl S sp g (k + 1) ↔ q_bl S sp g k ∨ q_bad0 S sp g k := by
    intro k
    constructor
    · rintro ⟨o, ho, hb⟩
      by_cases e : o = k
      · subst e; exact Or.inr hb
      · exact Or.inl ⟨o, by omega, hb⟩
    · rintro (⟨o, ho, hb⟩ | hb)
      · exact ⟨o, by omega, hb⟩
      · exact ⟨k, by omega, hb⟩
  induction j with
  | zero =>
    intro k b hk hb
    have hk2 : k = S 3 := by omega
    subst hk2
    obtain ⟨hm0, hm1, hm2, hm3, hm4, hm5, hm6, hm7, hm8, hm9, hm10, hm11, hm12, hm13, hm14, hm15, hm16, hm17, hm18, hm19, hm20, hm21, hm22, hm23, hm24, hm25, hm26⟩ := hl
    rw [e152_19]
    rcases hb with ⟨rfl, hb⟩ | ⟨rfl, hb⟩
    · have key := hT hb
      simp (disch := omega) only [e152_21, e152_21N, e152_22, e152_25, e152_26, e152_27, e152_30, e152_31, e152_34, e152_34N, e152_35, e152_38, e152_39, e152_40, e152_40N, e152_41, e152_44, e152_46, e152_47, e152_48, e152_51, e152_51N, e152_52, e152_52N, e152_53, e152_55, e152_58, e152_61, e152_61N, e152_62, e152_62N, e152_63, e152_64, e152_67, e152_70, e152_73, e152_74, e152_77, e152_78, e152_79, e152_82, true_or, m_psh_s, m_psh_n, m_kl_i, m_kl_f, m_kl_r, m_kl_n, m_kl_j, m_kl_l, m_kl_d, c_i, c_f, c_r, c_n, List.length_nil, List.length_cons, true_and, and_true, Nat.reduceAdd, Nat.reduceLeDiff, Nat.reduceSub, Nat.reduceEqDiff, Nat.reduceLT, ge_iff_le, gt_iff_lt, n_lit, m_in, m_nar0, m_nar1, and_self, not_false_eq_true, not_true_eq_false, ne_eq, reduceIte, ite_self, Nat.reduceMul, Nat.reduceDiv, Nat.reduceMod, Nat.reducePow, Nat.zero_add, Nat.add_zero, Nat.one_mul, Nat.mul_one, n_in, n_min, n_clamp, n_eq_t, n_eq_f, n_eq, n_le_t, n_le_f, n_le, n_lt_t, n_lt_f, n_lt, n_sub0, n_sublt, n_suble, n_negsub, m_up_hit, m_up_miss, m_row_hit, m_row_miss, n_eqm, n_meq, n_meqm, n_ltm, n_lem, n_mlt, n_mle, n_sub, n_div, n_and1, n_shl, n_shr, n_inc, n_mul, n_rem, z_lt, z_le, z_nlt, z_nle, Nat.not_lt_zero, Nat.le_zero_eq, Nat.zero_le, if_true, if_false, hm0, hm1, hm2, hm3, hm4, hm5, hm6, hm7, hm8, hm9, hm10, hm11, hm12, hm13, hm14, hm15, hm16, hm17, hm18, hm19, hm20, hm21, hm22, hm23, hm24, hm25, hm26, h3]
      exact key
    · have key := hF hb
      simp (disch := omega) only [e152_21, e152_21N, e152_22, e152_25, e152_26, e152_27, e152_30, e152_31, e152_34, e152_34N, e152_35, e152_38, e152_39, e152_40, e152_40N, e152_41, e152_44, e152_46, e152_47, e152_48, e152_51, e152_51N, e152_52, e152_52N, e152_53, e152_55, e152_58, e152_61, e152_61N, e152_62, e152_62N, e152_63, e152_64, e152_67, e152_70, e152_73, e152_74, e152_77, e152_78, e152_79, e152_82, true_or, m_psh_s, m_psh_n, m_kl_i, m_kl_f, m_kl_r, m_kl_n, m_kl_j, m_kl_l, m_kl_d, c_i, c_f, c_r, c_n, List.length_nil, List.length_cons, true_and, and_true, Nat.reduceAdd, Nat.reduceLeDiff, Nat.reduceSub, Nat.reduceEqDiff, Nat.reduceLT, ge_iff_le, gt_iff_lt, n_lit, m_in, m_nar0, m_nar1, and_self, not_false_eq_true, not_true_eq_false, ne_eq, reduceIte, ite_self, Nat.reduceMul, Nat.reduceDiv, Nat.reduceMod, Nat.reducePow, Nat.zero_add, Nat.add_zero, Nat.one_mul, Nat.mul_one, n_in, n_min, n_clamp, n_eq_t, n_eq_f, n_eq, n_le_t, n_le_f, n_le, n_lt_t, n_lt_f, n_lt, n_sub0, n_sublt, n_suble, n_negsub, m_up_hit, m_up_miss, m_row_hit, m_row_miss, n_eqm, n_meq, n_meqm, n_ltm, n_lem, n_mlt, n_mle, n_sub, n_div, n_and1, n_shl, n_shr, n_inc, n_mul, n_rem, z_lt, z_le, z_nlt, z_nle, Nat.not_lt_zero, Nat.le_zero_eq, Nat.zero_le, if_true, if_false, hm0, hm1, hm2, hm3, hm4, hm5, hm6, hm7, hm8, hm9, hm10, hm11, hm12, hm13, hm14, hm15, hm16, hm17, hm18, hm19, hm20, hm21, hm22, hm23, hm24, hm25, hm26, h3]
      exact key
  | succ j ih =>
    intro k b hk hb
    have fk := h.2 k (by omega)
    have fg := h.2 g (by omega)
    have hpk : S (4 + 4 * k) < 30 := w.2.1 k (by omega)
    have hpg : S (4 + 4 * g) < 30 := w.2.1 g hg
    have dk := q_dsk_lt hc9 hpk
    have dg := q_dsk_lt hc9 hpg
    have s1 : ∀ (d : Nat) (Q : mP), 1 ≤ d → (_ ↔ _) := fun d Q hd => r_slotOf (g := k) (d := d) (n := n) (Q := Q) hl' h (by omega) hd
    have s2 : ∀ (d : Nat) (Q : mP), 1 ≤ d → (_ ↔ _) := fun d Q hd => r_slotOf (g := g) (d := d) (n := n) (Q := Q) hl' h (by omega) hd
    have f1 : ∀ (d : Nat) (Q : mP), 1 ≤ d → (_ ↔ _) := fun d Q hd => r_far (d := d) (n := n) (Q := Q) hl' h hpk hd
    have f2 : ∀ (d : Nat) (Q : mP), 1 ≤ d → (_ ↔ _) := fun d Q hd => r_far (d := d) (n := n) (Q := Q) hl' h hpg hd
    obtain ⟨hm0, hm1, hm2, hm3, hm4, hm5, hm6, hm7, hm8, hm9, hm10, hm11, hm12, hm13, hm14, hm15, hm16, hm17, hm18, hm19, hm20, hm21, hm22, hm23, hm24, hm25, hm26⟩ := hl
    rw [e152_19]
    rcases hb with ⟨rfl, hb⟩ | ⟨rfl, hb⟩
    · have key := ih (k + 1) 1 (by omega) (Or.inl ⟨rfl, (step k).mpr (Or.inl hb)⟩)
      simp (disch := omega) only [e152_21, e152_21N, e152_22, e152_25, e152_26, e152_27, e152_30, e152_31, e152_34, e152_34N, e152_35, e152_38, e152_39, e152_40, e152_40N, e152_41, e152_44, e152_46, e152_47, e152_48, e152_51, e152_51N, e152_52, e152_52N, e152_53, e152_55, e152_58, e152_61, e152_61N, e152_62, e152_62N, e152_63, e152_64, e152_67, e152_70, e152_73, e152_74, e152_77, e152_78, e152_79, e152_82, true_or, m_psh_s, m_psh_n, m_kl_i, m_kl_f, m_kl_r, m_kl_n, m_kl_j, m_kl_l, m_kl_d, c_i, c_f, c_r, c_n, List.length_nil, List.length_cons, true_and, and_true, Nat.reduceAdd, Nat.reduceLeDiff, Nat.reduceSub, Nat.reduceEqDiff, Nat.reduceLT, ge_iff_le, gt_iff_lt, n_lit, m_in, m_nar0, m_nar1, and_self, not_false_eq_true, not_true_eq_false, ne_eq, reduceIte, ite_self, Nat.reduceMul, Nat.reduceDiv, Nat.reduceMod, Nat.reducePow, Nat.zero_add, Nat.add_zero, Nat.one_mul, Nat.mul_one, n_in, n_min, n_clamp, n_eq_t, n_eq_f, n_eq, n_le_t, n_le_f, n_le, n_lt_t, n_lt_f, n_lt, n_sub0, n_sublt, n_suble, n_negsub, m_up_hit, m_up_miss, m_row_hit, m_row_miss, n_eqm, n_meq, n_meqm, n_ltm, n_lem, n_mlt, n_mle, n_sub, n_div, n_and1, n_shl, n_shr, n_inc, n_mul, n_rem, z_lt, z_le, z_nlt, z_nle, Nat.not_lt_zero, Nat.le_zero_eq, Nat.zero_le, if_true, if_false, hm0, hm1, hm2, hm3, hm4, hm5, hm6, hm7, hm8, hm9, hm10, hm11, hm12, hm13, hm14, hm15, hm16, hm17, hm18, hm19, hm20, hm21, hm22, hm23, hm24, hm25, hm26, h3]
      exact key
    · by_cases c : q_le (sp g) (sp k)
      · have key := ih (k + 1) 0 (by omega) (Or.inr ⟨rfl, fun z => ((step k).mp z).elim hb fun q => q.1 c⟩)
        have c' : Op.cmpValue (FP.fcmp (sp g) (sp k)) .l ≤ nI 0 := c
        simp (disch := omega) only [e152_21, e152_21N, e152_22, e152_25, e152_26, e152_27, e152_30, e152_31, e152_34, e152_34N, e152_35, e152_38, e152_39, e152_40, e152_40N, e152_41, e152_44, e152_46, e152_47, e152_48, e152_51, e152_51N, e152_52, e152_52N, e152_53, e152_55, e152_58, e152_61, e152_61N, e152_62, e152_62N, e152_63, e152_64, e152_67, e152_70, e152_73, e152_74, e152_77, e152_78, e152_79, e152_82, true_or, m_psh_s, m_psh_n, m_kl_i, m_kl_f, m_kl_r, m_kl_n, m_kl_j, m_kl_l, m_kl_d, c_i, c_f, c_r, c_n, List.length_nil, List.length_cons, true_and, and_true, Nat.reduceAdd, Nat.reduceLeDiff, Nat.reduceSub, Nat.reduceEqDiff, Nat.reduceLT, ge_iff_le, gt_iff_lt, n_lit, m_in, m_nar0, m_nar1, and_self, not_false_eq_true, not_true_eq_false, ne_eq, reduceIte, ite_self, Nat.reduceMul, Nat.reduceDiv, Nat.reduceMod, Nat.reducePow, Nat.zero_add, Nat.add_zero, Nat.one_mul, Nat.mul_one, n_in, n_min, n_clamp, n_eq_t, n_eq_f, n_eq, n_le_t, n_le_f, n_le, n_lt_t, n_lt_f, n_lt, n_sub0, n_sublt, n_suble, n_negsub, m_up_hit, m_up_miss, m_row_hit, m_row_miss, n_eqm, n_meq, n_meqm, n_ltm, n_lem, n_mlt, n_mle, n_sub, n_div, n_and1, n_shl, n_shr, n_inc, n_mul, n_rem, z_lt, z_le, z_nlt, z_nle, Nat.not_lt_zero, Nat.le_zero_eq, Nat.zero_le, if_true, if_false, hm0, hm1, hm2, hm3, hm4, hm5, hm6, hm7, hm8, hm9, hm10, hm11, hm12, hm13, hm14, hm15, hm16, hm17, hm18, hm19, hm20, hm21, hm22, hm23, hm24, hm25, hm26, h3, fk, fg, c']
        exact key
      · have c' : ¬ Op.cmpValue (FP.fcmp (sp g) (sp k)) .l ≤ nI 0 := c
        by_cases c2 : q_dsk (S 2) (S (4 + 4 * k)) < q_dsk (S 2) (S (4 + 4 * g))
        · have key := ih (k + 1) 1 (by omega) (Or.inl ⟨rfl, (step k).mpr (Or.inr ⟨c, c2⟩)⟩)
          simp (disch := omega) only [e152_21, e152_21N, e152_22, e152_25, e152_26, e152_27, e152_30, e152_31, e152_34, e152_34N, e152_35, e152_38, e152_39, e152_40, e152_40N, e152_41, e152_44, e152_46, e152_47, e152_48, e152_51, e152_51N, e152_52, e152_52N, e152_53, e152_55, e152_58, e152_61, e152_61N, e152_62, e152_62N, e152_63, e152_64, e152_67, e152_70, e152_73, e152_74, e152_77, e152_78, e152_79, e152_82, true_or, m_psh_s, m_psh_n, m_kl_i, m_kl_f, m_kl_r, m_kl_n, m_kl_j, m_kl_l, m_kl_d, c_i, c_f, c_r, c_n, List.length_nil, List.length_cons, true_and, and_true, Nat.reduceAdd, Nat.reduceLeDiff, Nat.reduceSub, Nat.reduceEqDiff, Nat.reduceLT, ge_iff_le, gt_iff_lt, n_lit, m_in, m_nar0, m_nar1, and_self, not_false_eq_true, not_true_eq_false, ne_eq, reduceIte, ite_self, Nat.reduceMul, Nat.reduceDiv, Nat.reduceMod, Nat.reducePow, Nat.zero_add, Nat.add_zero, Nat.one_mul, Nat.mul_one, n_in, n_min, n_clamp, n_eq_t, n_eq_f, n_eq, n_le_t, n_le_f, n_le, n_lt_t, n_lt_f, n_lt, n_sub0, n_sublt, n_suble, n_negsub, m_up_hit, m_up_miss, m_row_hit, m_row_miss, n_eqm, n_meq, n_meqm, n_ltm, n_lem, n_mlt, n_mle, n_sub, n_div, n_and1, n_shl, n_shr, n_inc, n_mul, n_rem, z_lt, z_le, z_nlt, z_nle, Nat.not_lt_zero, Nat.le_zero_eq, Nat.zero_le, if_true, if_false, hm0, hm1, hm2, hm3, hm4, hm5, hm6, hm7, hm8, hm9, hm10, hm11, hm12, hm13, hm14, hm15, hm16, hm17, hm18, hm19, hm20, hm21, hm22, hm23, hm24, hm25, hm26, h3, fk, fg, c', s1, s2, f1, f2]
          exact key
        · have key := ih (k + 1) 0 (by omega) (Or.inr ⟨rfl, fun z => ((step k).mp z).elim hb fun q => c2 q.2⟩)
          simp (disch := omega) only [e152_21, e152_21N, e152_22, e152_25, e152_26, e152_27, e152_30, e152_31, e152_34, e152_34N, e152_35, e152_38, e152_39, e152_40, e152_40N, e152_41, e152_44, e152_46, e152_47, e152_48, e152_51, e152_51N, e152_52, e152_52N, e152_53, e152_55, e152_58, e152_61, e152_61N, e152_62, e152_62N, e152_63, e152_64, e152_67, e152_70, e152_73, e152_74, e152_77, e152_78, e152_79, e152_82, true_or, m_psh_s, m_psh_n, m_kl_i, m_kl_f, m_kl_r, m_kl_n, m_kl_j, m_kl_l, m_kl_d, c_i, c_f, c_r, c_n, List.length_nil, List.length_cons, true_and, and_true, Nat.reduceAdd, Nat.reduceLeDiff, Nat.reduceSub, Nat.reduceEqDiff, Nat.reduceLT, ge_iff_le, gt_iff_lt, n_lit, m_in, m_nar0, m_nar1, and_self, not_false_eq_true, not_true_eq_false, ne_eq, reduceIte, ite_self, Nat.reduceMul, Nat.reduceDiv, Nat.reduceMod, Nat.reducePow, Nat.zero_add, Nat.add_zero, Nat.one_mul, Nat.mul_one, n_in, n_min, n_clamp, n_eq_t, n_eq_f, n_eq, n_le_t, n_le_f, n_le, n_lt_t, n_lt_f, n_lt, n_sub0, n_sublt, n_suble, n_negsub, m_up_hit, m_up_miss, m_row_hit, m_row_miss, n_eqm, n_meq, n_meqm, n_ltm, n_lem, n_mlt, n_mle, n_sub, n_div, n_and1, n_shl, n_shr, n_inc, n_mul, n_rem, z_lt, z_le, z_nlt, z_nle, Nat.not_lt_zero, Nat.le_zero_eq, Nat.zero_le, if_true, if_false, hm0, hm1, hm2, hm3, hm4, hm5, hm6, hm7, hm8, hm9, hm10, hm11, hm12, hm13, hm14, hm15, hm16, hm17, hm18, hm19, hm20, hm21, hm22, hm23, hm24, hm25, hm26, h3, fk, fg, c', s1, s2, f1, f2]
          exact key
theorem q_bl_bad {g : Nat} : q_bl S sp g (S 3) ↔ q_bad S sp g 0 := ⟨fun ⟨o, h1, h2⟩ => ⟨o, Nat.zero_le _, h1, h2⟩, fun ⟨o, _, h1, h2⟩ => ⟨o, h1, h2⟩⟩
theorem r_bad0 (hl : ML lay R) (h : MS I F S sp) (w : Wsh S) (hc9 : S 2 ≤ 9) (hd : 2 ≤ d) (hQ : Q (some (.int (nI (q_bdl S sp (S 3))))) I F R n) (j : Nat) : ∀ (k : Nat) (v3 v4 : Value), k + j = S 3 → Ev lay d 152 4 [.ref 166, .int (nI (q_bdl S sp k)), .int (nI k), v3, v4] [] I F R n Q := by
  have h3 := h.1 3 (by omega)
  have w1 := w.1
  have hl' := hl
  induction j with
  | zero =>
    intro k v3 v4 hk
    have hk2 : k = S 3 := by omega
    subst hk2
    obtain ⟨hm0, hm1, hm2, hm3, hm4, hm5, hm6, hm7, hm8, hm9, hm10, hm11, hm12, hm13, hm14, hm15, hm16, hm17, hm18, hm19, hm20, hm21, hm22, hm23, hm24, hm25, hm26⟩ := hl
    rw [e152_4]
    simp (disch := omega) only [e152_5, e152_5N, e152_6, e152_9, e152_10, e152_11, e152_105, e152_106, true_or, m_psh_s, m_psh_n, m_kl_i, m_kl_f, m_kl_r, m_kl_n, m_kl_j, m_kl_l, m_kl_d, c_i, c_f, c_r, c_n, List.length_nil, List.length_cons, true_and, and_true, Nat.reduceAdd, Nat.reduceLeDiff, Nat.reduceSub, Nat.reduceEqDiff, Nat.reduceLT, ge_iff_le, gt_iff_lt, n_lit, m_in, m_nar0, m_nar1, and_self, not_false_eq_true, not_true_eq_false, ne_eq, reduceIte, ite_self, Nat.reduceMul, Nat.reduceDiv, Nat.reduceMod, Nat.reducePow, Nat.zero_add, Nat.add_zero, Nat.one_mul, Nat.mul_one, n_in, n_min, n_clamp, n_eq_t, n_eq_f, n_eq, n_le_t, n_le_f, n_le, n_lt_t, n_lt_f, n_lt, n_sub0, n_sublt, n_suble, n_negsub, m_up_hit, m_up_miss, m_row_hit, m_row_miss, n_eqm, n_meq, n_meqm, n_ltm, n_lem, n_mlt, n_mle, n_sub, n_div, n_and1, n_shl, n_shr, n_inc, n_mul, n_rem, z_lt, z_le, z_nlt, z_nle, Nat.not_lt_zero, Nat.le_zero_eq, Nat.zero_le, if_true, if_false, hm0, hm1, hm2, hm3, hm4, hm5, hm6, hm7, hm8, hm9, hm10, hm11, hm12, hm13, hm14, hm15, hm16, hm17, hm18, hm19, hm20, hm21, hm22, hm23, hm24, hm25, hm26, h3]
    exact hQ
  | succ j ih =>
    intro k v3 v4 hk
    have e1 : q_bdl S sp (k + 1) = @ite _ (q_bad S sp k 0) (Classical.propDecidable _) (q_bdl S sp k ||| 2 ^ k) (q_bdl S sp k) := rfl
    have esh : nI 1 <<< (nI k &&& nI 31) = nI (2 ^ k) := by
      have h2 : (2 : Nat) ^ k ≤ 2 ^ 16 := Nat.pow_le_pow_right (by decide) (by omega)
      have := n_shl (x := 1) (k := k) (by omega) (by omega)
      rw [Nat.one_mul] at this
      exact this
    have key := r_bad1 (d := d) (n := n) (Q := Q) (v1 := nI (q_bdl S sp k)) hl h w hc9 (show k < S 3 by omega) hd (fun hb => by
      have key := ih (k + 1) (.int (nI 1)) (.int (nI (S 3))) (by omega)
      rw [e1, if_pos (q_bl_bad.mp hb)] at key
      simp (disch := omega) only [e152_85, e152_86, e152_87, e152_90, e152_91, e152_92, e152_93, e152_96, e152_97, e152_98, e152_99, e152_102, true_or, m_psh_s, m_psh_n, m_kl_i, m_kl_f, m_kl_r, m_kl_n, m_kl_j, m_kl_l, m_kl_d, c_i, c_f, c_r, c_n, List.length_nil, List.length_cons, true_and, and_true, Nat.reduceAdd, Nat.reduceLeDiff, Nat.reduceSub, Nat.reduceEqDiff, Nat.reduceLT, ge_iff_le, gt_iff_lt, n_lit, m_in, m_nar0, m_nar1, and_self, not_false_eq_true, not_true_eq_false, ne_eq, reduceIte, ite_self, Nat.reduceMul, Nat.reduceDiv, Nat.reduceMod, Nat.reducePow, Nat.zero_add, Nat.add_zero, Nat.one_mul, Nat.mul_one, n_in, n_min, n_clamp, n_eq_t, n_eq_f, n_eq, n_le_t, n_le_f, n_le, n_lt_t, n_lt_f, n_lt, n_sub0, n_sublt, n_suble, n_negsub, m_up_hit, m_up_miss, m_row_hit, m_row_miss, n_eqm, n_meq, n_meqm, n_ltm, n_lem, n_mlt, n_mle, n_sub, n_div, n_and1, n_shl, n_shr, n_inc, n_mul, n_rem, z_lt, z_le, z_nlt, z_nle, Nat.not_lt_zero, Nat.le_zero_eq, Nat.zero_le, if_true, if_false, esh, n_or]
      exact key) (fun hb => by
      have key := ih (k + 1) (.int (nI 0)) (.int (nI (S 3))) (by omega)
      rw [e1, if_neg (fun z => hb (q_bl_bad.mpr z))] at key
      simp (disch := omega) only [e152_85, e152_86, e152_87, e152_90, e152_91, e152_92, e152_93, e152_96, e152_97, e152_98, e152_99, e152_102, true_or, m_psh_s, m_psh_n, m_kl_i, m_kl_f, m_kl_r, m_kl_n, m_kl_j, m_kl_l, m_kl_d, c_i, c_f, c_r, c_n, List.length_nil, List.length_cons, true_and, and_true, Nat.reduceAdd, Nat.reduceLeDiff, Nat.reduceSub, Nat.reduceEqDiff, Nat.reduceLT, ge_iff_le, gt_iff_lt, n_lit, m_in, m_nar0, m_nar1, and_self, not_false_eq_true, not_true_eq_false, ne_eq, reduceIte, ite_self, Nat.reduceMul, Nat.reduceDiv, Nat.reduceMod, Nat.reducePow, Nat.zero_add, Nat.add_zero, Nat.one_mul, Nat.mul_one, n_in, n_min, n_clamp, n_eq_t, n_eq_f, n_eq, n_le_t, n_le_f, n_le, n_lt_t, n_lt_f, n_lt, n_sub0, n_sublt, n_suble, n_negsub, m_up_hit, m_up_miss, m_row_hit, m_row_miss, n_eqm, n_meq, n_meqm, n_ltm, n_lem, n_mlt, n_mle, n_sub, n_div, n_and1, n_shl, n_shr, n_inc, n_mul, n_rem, z_lt, z_le, z_nlt, z_nle, Nat.not_lt_zero, Nat.le_zero_eq, Nat.zero_le, if_true, if_false, esh, n_or, Nat.or_zero]
      exact key) (S 3) 0 0 (Nat.zero_add _) (Or.inr ⟨rfl, fun ⟨o, ho, _⟩ => by omega⟩)
    obtain ⟨hm0, hm1, hm2, hm3, hm4, hm5, hm6, hm7, hm8, hm9, hm10, hm11, hm12, hm13, hm14, hm15, hm16, hm17, hm18, hm19, hm20, hm21, hm22, hm23, hm24, hm25, hm26⟩ := hl
    rw [e152_4]
    simp (disch := omega) only [e152_5, e152_5N, e152_6, e152_9, e152_10, e152_11, e152_14, e152_15, e152_16, e152_17, true_or, m_psh_s, m_psh_n, m_kl_i, m_kl_f, m_kl_r, m_kl_n, m_kl_j, m_kl_l, m_kl_d, c_i, c_f, c_r, c_n, List.length_nil, List.length_cons, true_and, and_true, Nat.reduceAdd, Nat.reduceLeDiff, Nat.reduceSub, Nat.reduceEqDiff, Nat.reduceLT, ge_iff_le, gt_iff_lt, n_lit, m_in, m_nar0, m_nar1, and_self, not_false_eq_true, not_true_eq_false, ne_eq, reduceIte, ite_self, Nat.reduceMul, Nat.reduceDiv, Nat.reduceMod, Nat.reducePow, Nat.zero_add, Nat.add_zero, Nat.one_mul, Nat.mul_one, n_in, n_min, n_clamp, n_eq_t, n_eq_f, n_eq, n_le_t, n_le_f, n_le, n_lt_t, n_lt_f, n_lt, n_sub0, n_sublt, n_suble, n_negsub, m_up_hit, m_up_miss, m_row_hit, m_row_miss, n_eqm, n_meq, n_meqm, n_ltm, n_lem, n_mlt, n_mle, n_sub, n_div, n_and1, n_shl, n_shr, n_inc, n_mul, n_rem, z_lt, z_le, z_nlt, z_nle, Nat.not_lt_zero, Nat.le_zero_eq, Nat.zero_le, if_true, if_false, hm0, hm1, hm2, hm3, hm4, hm5, hm6, hm7, hm8, hm9, hm10, hm11, hm12, hm13, hm14, hm15, hm16, hm17, hm18, hm19, hm20, hm21, hm22, hm23, hm24, hm25, hm26, h3]
    exact key
theorem m_badly (hl : ML lay R) (h : MS I F S sp) (w : Wsh S) (hc9 : S 2 ≤ 9) (hd : 2 ≤ d) (hQ : Q (some (.int (nI (q_bdl S sp (S 3))))) I F R n) : Ev lay d 152 0 [.ref 166, m_j, m_j, m_j, m_j] [] I F R n Q := by
  have key := r_bad0 (d := d) hl h w hc9 hd hQ (S 3) 0 m_j m_j (Nat.zero_add _)
  simp (disch := omega) only [e152_0, e152_1, e152_2, e152_3, true_or, m_psh_s, m_psh_n, m_kl_i, m_kl_f, m_kl_r, m_kl_n, m_kl_j, m_kl_l, m_kl_d, c_i, c_f, c_r, c_n, List.length_nil, List.length_cons, true_and, and_true, Nat.reduceAdd, Nat.reduceLeDiff, Nat.reduceSub, Nat.reduceEqDiff, Nat.reduceLT, ge_iff_le, gt_iff_lt, n_lit, m_in, m_nar0, m_nar1, and_self, not_false_eq_true, not_true_eq_false, ne_eq, reduceIte, ite_self, Nat.reduceMul, Nat.reduceDiv, Nat.reduceMod, Nat.reducePow, Nat.zero_add, Nat.add_zero, Nat.one_mul, Nat.mul_one, n_in, n_min, n_clamp, n_eq_t, n_eq_f, n_eq, n_le_t, n_le_f, n_le, n_lt_t, n_lt_f, n_lt, n_sub0, n_sublt, n_suble, n_negsub, m_up_hit, m_up_miss, m_row_hit, m_row_miss, n_eqm, n_meq, n_meqm, n_ltm, n_lem, n_mlt, n_mle, n_sub, n_div, n_and1, n_shl, n_shr, n_inc, n_mul, n_rem, z_lt, z_le, z_nlt, z_nle, Nat.not_lt_zero, Nat.le_zero_eq, Nat.zero_le, if_true, if_false]
  exact key
end MTRIAL
