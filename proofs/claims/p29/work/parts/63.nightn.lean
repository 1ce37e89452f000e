section NIGHTN
variable {lay : mL} {d e n n' k : Nat} {I I' : mI} {F F' : mF} {R R' : mR} {Q : mP} {st st' st2 : St} {hs hs' hs2 : List St}
theorem q_m1_up {S : Nat → Nat} (x : Nat) : q_gi (up1 S 0 (q_m1 S)) x = q_gi S x := Eq0_gi Eq0_up x
/-- to the night's end -/
theorem ni_b {dn : Nat} {S2 : Nat → Nat} {sp2 : Nat → UInt32} (hl : HL lay) (G : GD e st) (he : e ≤ 50) (hd : 6 ≤ d) (hn : q_night (up1 st.1 0 (q_m1 st.1)) st.2.1 = (nI dn, S2, sp2)) (T : TW lay st hs st' hs' I F R n)
    (hQ : ∀ I' F' R', I' 0 = I 0 → TW lay (S2, sp2, st.2.2) (q_rc (nI dn) (q_rec hs st) (up1 st.1 0 (q_m1 st.1), st.2.1, st.2.2)) st' hs' I' F' R' n → Ev lay d 101 230 [.ref 1, .int (q_loI (q_bs st.1 st.2.1)), .int (q_hiI (q_bs st.1 st.2.1)), .int (nI (q_tws st.1 (st.1 69))), .int (nI (st.1 0)), .int (nI (st.1 121)), .int (nI (st.1 68)), .int (nI 1), .int (nI (st.1 69)), .int (nI (st.1 0)), .int (q_one st.1 (q_bs st.1 st.2.1)), .int (q_two st.1 (q_bs st.1 st.2.1)), .int (nI dn), m_j, m_j] [] I' F' R' n Q) : Ev lay d 101 157 [.ref 1, .int (q_loI (q_bs st.1 st.2.1)), .int (q_hiI (q_bs st.1 st.2.1)), .int (nI (q_tws st.1 (st.1 69))), .int (nI (st.1 0)), .int (nI (st.1 121)), .int (nI (st.1 68)), .int (nI 1), m_j, m_j, m_j, m_j, m_j, m_j, m_j] [] I F R n Q := by
  have wf := G.1
  have x1 := TW_1 T
  have s0 := wf.2.1.1
  have G1 := (CH_set (x := nI 0) (y := nI (q_m1 st.1)) G).1
  rw [v_set0] at G1
  have wf1 := G1.1
  simp (disch := omega) only [e101_157, e101_157N, e101_158, e101_159, true_or, m_psh_s, m_psh_n, m_kl_i, m_kl_f, m_kl_r, m_kl_n, m_kl_j, m_kl_l, m_kl_d, c_i, c_f, c_r, c_n, List.length_nil, List.length_cons, true_and, and_true, Nat.reduceAdd, Nat.reduceLeDiff, Nat.reduceSub, Nat.reduceEqDiff, Nat.reduceLT, ge_iff_le, gt_iff_lt, n_lit, m_in, m_nar0, m_nar1, and_self, not_false_eq_true, not_true_eq_false, ne_eq, reduceIte, ite_self, Nat.reduceMul, Nat.reduceDiv, Nat.reduceMod, Nat.reducePow, Nat.zero_add, Nat.add_zero, Nat.one_mul, Nat.mul_one, n_in, n_min, n_clamp, n_eq_t, n_eq_f, n_eq, n_le_t, n_le_f, n_le, n_lt_t, n_lt_f, n_lt, n_sub0, n_sublt, n_suble, n_negsub, m_up_hit, m_up_miss, m_row_hit, m_row_miss, n_eqm, n_meq, n_meqm, n_ltm, n_lem, n_mlt, n_mle, n_sub, n_div, n_and1, n_shl, n_shr, n_inc, n_mul, n_rem, z_lt, z_le, z_nlt, z_nle, Nat.not_lt_zero, Nat.le_zero_eq, Nat.zero_le, if_true, if_false, x1]
  refine k_count (d := d - 1) hl wf (by omega) _ _ _ _ _ _ _ T fun I1 F1 R1 n1 a1 b1 z1 T1 => ?_
  obtain rfl : n1 = n := by omega
  rw [v_c2]
  -- the setting
  have hset : ∀ (Q : mP), (∀ I' F' R' n', n1 ≤ n' → n' ≤ n1 + 0 → I' 0 = I1 0 → TW lay (up1 st.1 0 (q_m1 st.1), st.2.1, st.2.2) (q_rec hs st) st' hs' I' F' R' n' → Q (some (.int (nI (st.1 0)))) I' F' R' n') → Ev lay (d - 1) 8 0 [.ref 1, .int (nI 0), .int (nI (q_m1 st.1))] [] I1 F1 R1 n1 Q := by
    intro Q hQ
    have key := k_set (lay := lay) (d := d - 1) (st := st) (hs := hs) (x := nI 0) (y := nI (q_m1 st.1)) hl wf (by omega)
    rw [v_set0] at key
    have er : q_rc (nI (st.1 0)) hs st = q_rec hs st := by
      unfold q_rc
      rw [if_neg (n_nlt _ (by omega))]
    rw [er] at key
    exact key _ _ _ _ _ _ _ T1 hQ
  -- behind the setting
  have aft : ∀ (I2 : mI) (F2 : mF) (R2 : mR), I2 0 = I1 0 → TW lay (up1 st.1 0 (q_m1 st.1), st.2.1, st.2.2) (q_rec hs st) st' hs' I2 F2 R2 n1 → Ev lay d 101 184 [.ref 1, .int (q_loI (q_bs st.1 st.2.1)), .int (q_hiI (q_bs st.1 st.2.1)), .int (nI (q_tws st.1 (st.1 69))), .int (nI (st.1 0)), .int (nI (st.1 121)), .int (nI (st.1 68)), .int (nI 1), .int (nI (st.1 69)), m_j, m_j, m_j, m_j, m_j, m_j] [.int (nI (st.1 0))] I2 F2 R2 n1 Q := by
    intro I2 F2 R2 z2 T2
    have ngt : ∀ (I3 : mI) (F3 : mF) (R3 : mR), I3 0 = I1 0 → TW lay (up1 st.1 0 (q_m1 st.1), st.2.1, st.2.2) (q_rec hs st) st' hs' I3 F3 R3 n1 → Ev lay d 101 222 [.ref 1, .int (q_loI (q_bs st.1 st.2.1)), .int (q_hiI (q_bs st.1 st.2.1)), .int (nI (q_tws st.1 (st.1 69))), .int (nI (st.1 0)), .int (nI (st.1 121)), .int (nI (st.1 68)), .int (nI 1), .int (nI (st.1 69)), .int (nI (st.1 0)), .int (q_one st.1 (q_bs st.1 st.2.1)), m_j, m_j, m_j, m_j] [.int (q_two st.1 (q_bs st.1 st.2.1))] I3 F3 R3 n1 Q := by
      intro I3 F3 R3 z3 T3
      simp (disch := omega) only [e101_222, e101_224, e101_224N, e101_225, true_or, m_psh_s, m_psh_n, m_kl_i, m_kl_f, m_kl_r, m_kl_n, m_kl_j, m_kl_l, m_kl_d, c_i, c_f, c_r, c_n, List.length_nil, List.length_cons, true_and, and_true, Nat.reduceAdd, Nat.reduceLeDiff, Nat.reduceSub, Nat.reduceEqDiff, Nat.reduceLT, ge_iff_le, gt_iff_lt, n_lit, m_in, m_nar0, m_nar1, and_self, not_false_eq_true, not_true_eq_false, ne_eq, reduceIte, ite_self, Nat.reduceMul, Nat.reduceDiv, Nat.reduceMod, Nat.reducePow, Nat.zero_add, Nat.add_zero, Nat.one_mul, Nat.mul_one, n_in, n_min, n_clamp, n_eq_t, n_eq_f, n_eq, n_le_t, n_le_f, n_le, n_lt_t, n_lt_f, n_lt, n_sub0, n_sublt, n_suble, n_negsub, m_up_hit, m_up_miss, m_row_hit, m_row_miss, n_eqm, n_meq, n_meqm, n_ltm, n_lem, n_mlt, n_mle, n_sub, n_div, n_and1, n_shl, n_shr, n_inc, n_mul, n_rem, z_lt, z_le, z_nlt, z_nle, Nat.not_lt_zero, Nat.le_zero_eq, Nat.zero_le, if_true, if_false, x1]
      have kn := k_night (lay := lay) (d := d - 1) (st := (up1 st.1 0 (q_m1 st.1), st.2.1, st.2.2)) (hs := q_rec hs st) hl wf1 (by omega)
      dsimp only at kn
      rw [hn] at kn
      refine kn _ _ _ _ _ _ _ T3 fun I4 F4 R4 n4 a4 b4 z4 T4 => ?_
      obtain rfl : n4 = n1 := by omega
      have key := hQ I4 F4 R4 (z4.trans (z3.trans z1)) T4
      simp (disch := omega) only [e101_228, true_or, m_psh_s, m_psh_n, m_kl_i, m_kl_f, m_kl_r, m_kl_n, m_kl_j, m_kl_l, m_kl_d, c_i, c_f, c_r, c_n, List.length_nil, List.length_cons, true_and, and_true, Nat.reduceAdd, Nat.reduceLeDiff, Nat.reduceSub, Nat.reduceEqDiff, Nat.reduceLT, ge_iff_le, gt_iff_lt, n_lit, m_in, m_nar0, m_nar1, and_self, not_false_eq_true, not_true_eq_false, ne_eq, reduceIte, ite_self, Nat.reduceMul, Nat.reduceDiv, Nat.reduceMod, Nat.reducePow, Nat.zero_add, Nat.add_zero, Nat.one_mul, Nat.mul_one, n_in, n_min, n_clamp, n_eq_t, n_eq_f, n_eq, n_le_t, n_le_f, n_le, n_lt_t, n_lt_f, n_lt, n_sub0, n_sublt, n_suble, n_negsub, m_up_hit, m_up_miss, m_row_hit, m_row_miss, n_eqm, n_meq, n_meqm, n_ltm, n_lem, n_mlt, n_mle, n_sub, n_div, n_and1, n_shl, n_shr, n_inc, n_mul, n_rem, z_lt, z_le, z_nlt, z_nle, Nat.not_lt_zero, Nat.le_zero_eq, Nat.zero_le, if_true, if_false, x1]
      exact key
    rcases ob_bs (q_bs st.1 st.2.1) with hb | ⟨p, hb⟩
    · have key := ngt I2 F2 R2 z2 T2
      rw [hb] at key ⊢
      have e1 : q_loI none = -nI 6 := rfl
      have e2 : q_hiI none = -nI 6 := rfl
      have e3 : q_one st.1 none = -nI 6 := rfl
      have e4 : q_two st.1 none = -nI 6 := rfl
      rw [e1, e2, e3, e4] at key
      rw [e1, e2]
      simp (disch := omega) only [e101_184, e101_186, e101_187, e101_189, e101_192, e101_194, e101_203, e101_205, e101_206, e101_208, e101_211, e101_213, true_or, m_psh_s, m_psh_n, m_kl_i, m_kl_f, m_kl_r, m_kl_n, m_kl_j, m_kl_l, m_kl_d, c_i, c_f, c_r, c_n, List.length_nil, List.length_cons, true_and, and_true, Nat.reduceAdd, Nat.reduceLeDiff, Nat.reduceSub, Nat.reduceEqDiff, Nat.reduceLT, ge_iff_le, gt_iff_lt, n_lit, m_in, m_nar0, m_nar1, and_self, not_false_eq_true, not_true_eq_false, ne_eq, reduceIte, ite_self, Nat.reduceMul, Nat.reduceDiv, Nat.reduceMod, Nat.reducePow, Nat.zero_add, Nat.add_zero, Nat.one_mul, Nat.mul_one, n_in, n_min, n_clamp, n_eq_t, n_eq_f, n_eq, n_le_t, n_le_f, n_le, n_lt_t, n_lt_f, n_lt, n_sub0, n_sublt, n_suble, n_negsub, m_up_hit, m_up_miss, m_row_hit, m_row_miss, n_eqm, n_meq, n_meqm, n_ltm, n_lem, n_mlt, n_mle, n_sub, n_div, n_and1, n_shl, n_shr, n_inc, n_mul, n_rem, z_lt, z_le, z_nlt, z_nle, Nat.not_lt_zero, Nat.le_zero_eq, Nat.zero_le, if_true, if_false, x1, eq_self]
      exact key
    · have hlt := q_bp_lt hb
      have s30 : p / 30 < 30 := by omega
      have o30 : p % 30 < 30 := Nat.mod_lt _ (by decide)
      have e1 : q_loI (some p) = nI (p / 30) := rfl
      have e2 : q_hiI (some p) = nI (p % 30) := rfl
      have e3 : q_one st.1 (some p) = q_oI (q_gi st.1 (p / 30)) := rfl
      have e4 : q_two st.1 (some p) = q_oI (q_gi st.1 (p % 30)) := rfl
      rw [hb, e1, e2, e3, e4] at ngt
      rw [hb, e1, e2]
      simp (disch := omega) only [e101_184, e101_186, e101_187, e101_189, e101_192, e101_194, e101_197, e101_197N, e101_198, e101_199, e101_200, true_or, m_psh_s, m_psh_n, m_kl_i, m_kl_f, m_kl_r, m_kl_n, m_kl_j, m_kl_l, m_kl_d, c_i, c_f, c_r, c_n, List.length_nil, List.length_cons, true_and, and_true, Nat.reduceAdd, Nat.reduceLeDiff, Nat.reduceSub, Nat.reduceEqDiff, Nat.reduceLT, ge_iff_le, gt_iff_lt, n_lit, m_in, m_nar0, m_nar1, and_self, not_false_eq_true, not_true_eq_false, ne_eq, reduceIte, ite_self, Nat.reduceMul, Nat.reduceDiv, Nat.reduceMod, Nat.reducePow, Nat.zero_add, Nat.add_zero, Nat.one_mul, Nat.mul_one, n_in, n_min, n_clamp, n_eq_t, n_eq_f, n_eq, n_le_t, n_le_f, n_le, n_lt_t, n_lt_f, n_lt, n_sub0, n_sublt, n_suble, n_negsub, m_up_hit, m_up_miss, m_row_hit, m_row_miss, n_eqm, n_meq, n_meqm, n_ltm, n_lem, n_mlt, n_mle, n_sub, n_div, n_and1, n_shl, n_shr, n_inc, n_mul, n_rem, z_lt, z_le, z_nlt, z_nle, Nat.not_lt_zero, Nat.le_zero_eq, Nat.zero_le, if_true, if_false, x1, eq_self]
      refine k_ofSlot (d := d - 1) hl wf1 (by omega) _ _ _ _ _ _ _ T2 fun I3 F3 R3 n3 a3 b3 z3 T3 => ?_
      obtain rfl : n3 = n1 := by omega
      rw [v_ofS0 s30, q_m1_up]
      simp (disch := omega) only [e101_203, e101_205, e101_206, e101_208, e101_211, e101_213, e101_216, e101_216N, e101_217, e101_218, e101_219, true_or, m_psh_s, m_psh_n, m_kl_i, m_kl_f, m_kl_r, m_kl_n, m_kl_j, m_kl_l, m_kl_d, c_i, c_f, c_r, c_n, List.length_nil, List.length_cons, true_and, and_true, Nat.reduceAdd, Nat.reduceLeDiff, Nat.reduceSub, Nat.reduceEqDiff, Nat.reduceLT, ge_iff_le, gt_iff_lt, n_lit, m_in, m_nar0, m_nar1, and_self, not_false_eq_true, not_true_eq_false, ne_eq, reduceIte, ite_self, Nat.reduceMul, Nat.reduceDiv, Nat.reduceMod, Nat.reducePow, Nat.zero_add, Nat.add_zero, Nat.one_mul, Nat.mul_one, n_in, n_min, n_clamp, n_eq_t, n_eq_f, n_eq, n_le_t, n_le_f, n_le, n_lt_t, n_lt_f, n_lt, n_sub0, n_sublt, n_suble, n_negsub, m_up_hit, m_up_miss, m_row_hit, m_row_miss, n_eqm, n_meq, n_meqm, n_ltm, n_lem, n_mlt, n_mle, n_sub, n_div, n_and1, n_shl, n_shr, n_inc, n_mul, n_rem, z_lt, z_le, z_nlt, z_nle, Nat.not_lt_zero, Nat.le_zero_eq, Nat.zero_le, if_true, if_false, x1, eq_self]
      refine k_ofSlot (d := d - 1) hl wf1 (by omega) _ _ _ _ _ _ _ T3 fun I4 F4 R4 n4 a4 b4 z4 T4 => ?_
      obtain rfl : n4 = n3 := by omega
      rw [v_ofS0 o30, q_m1_up]
      exact ngt I4 F4 R4 (z4.trans (z3.trans z2)) T4
  by_cases c : st.1 0 = 0
  · have hm : q_m1 st.1 = 0 := if_pos c
    rw [hm] at hset aft
    rw [c] at hset aft ⊢
    simp (disch := omega) only [e101_162, e101_164, e101_166, e101_178, e101_178N, e101_179, e101_180, e101_181, true_or, m_psh_s, m_psh_n, m_kl_i, m_kl_f, m_kl_r, m_kl_n, m_kl_j, m_kl_l, m_kl_d, c_i, c_f, c_r, c_n, List.length_nil, List.length_cons, true_and, and_true, Nat.reduceAdd, Nat.reduceLeDiff, Nat.reduceSub, Nat.reduceEqDiff, Nat.reduceLT, ge_iff_le, gt_iff_lt, n_lit, m_in, m_nar0, m_nar1, and_self, not_false_eq_true, not_true_eq_false, ne_eq, reduceIte, ite_self, Nat.reduceMul, Nat.reduceDiv, Nat.reduceMod, Nat.reducePow, Nat.zero_add, Nat.add_zero, Nat.one_mul, Nat.mul_one, n_in, n_min, n_clamp, n_eq_t, n_eq_f, n_eq, n_le_t, n_le_f, n_le, n_lt_t, n_lt_f, n_lt, n_sub0, n_sublt, n_suble, n_negsub, m_up_hit, m_up_miss, m_row_hit, m_row_miss, n_eqm, n_meq, n_meqm, n_ltm, n_lem, n_mlt, n_mle, n_sub, n_div, n_and1, n_shl, n_shr, n_inc, n_mul, n_rem, z_lt, z_le, z_nlt, z_nle, Nat.not_lt_zero, Nat.le_zero_eq, Nat.zero_le, if_true, if_false, x1, eq_self]
    apply hset
    intro I2 F2 R2 n2 a2 b2 z2 T2
    obtain rfl : n2 = n1 := by omega
    exact aft I2 F2 R2 z2 T2
  · have hm : q_m1 st.1 = 1 := if_neg c
    rw [hm] at hset aft
    simp (disch := omega) only [e101_162, e101_164, e101_166, e101_169, e101_169N, e101_170, e101_171, e101_172, true_or, m_psh_s, m_psh_n, m_kl_i, m_kl_f, m_kl_r, m_kl_n, m_kl_j, m_kl_l, m_kl_d, c_i, c_f, c_r, c_n, List.length_nil, List.length_cons, true_and, and_true, Nat.reduceAdd, Nat.reduceLeDiff, Nat.reduceSub, Nat.reduceEqDiff, Nat.reduceLT, ge_iff_le, gt_iff_lt, n_lit, m_in, m_nar0, m_nar1, and_self, not_false_eq_true, not_true_eq_false, ne_eq, reduceIte, ite_self, Nat.reduceMul, Nat.reduceDiv, Nat.reduceMod, Nat.reducePow, Nat.zero_add, Nat.add_zero, Nat.one_mul, Nat.mul_one, n_in, n_min, n_clamp, n_eq_t, n_eq_f, n_eq, n_le_t, n_le_f, n_le, n_lt_t, n_lt_f, n_lt, n_sub0, n_sublt, n_suble, n_negsub, m_up_hit, m_up_miss, m_row_hit, m_row_miss, n_eqm, n_meq, n_meqm, n_ltm, n_lem, n_mlt, n_mle, n_sub, n_div, n_and1, n_shl, n_shr, n_inc, n_mul, n_rem, z_lt, z_le, z_nlt, z_nle, Nat.not_lt_zero, Nat.le_zero_eq, Nat.zero_le, if_true, if_false, x1, eq_self]
    apply hset
    intro I2 F2 R2 n2 a2 b2 z2 T2
    obtain rfl : n2 = n1 := by omega
    have key := aft I2 F2 R2 z2 T2
    simp (disch := omega) only [e101_175, true_or, m_psh_s, m_psh_n, m_kl_i, m_kl_f, m_kl_r, m_kl_n, m_kl_j, m_kl_l, m_kl_d, c_i, c_f, c_r, c_n, List.length_nil, List.length_cons, true_and, and_true, Nat.reduceAdd, Nat.reduceLeDiff, Nat.reduceSub, Nat.reduceEqDiff, Nat.reduceLT, ge_iff_le, gt_iff_lt, n_lit, m_in, m_nar0, m_nar1, and_self, not_false_eq_true, not_true_eq_false, ne_eq, reduceIte, ite_self, Nat.reduceMul, Nat.reduceDiv, Nat.reduceMod, Nat.reducePow, Nat.zero_add, Nat.add_zero, Nat.one_mul, Nat.mul_one, n_in, n_min, n_clamp, n_eq_t, n_eq_f, n_eq, n_le_t, n_le_f, n_le, n_lt_t, n_lt_f, n_lt, n_sub0, n_sublt, n_suble, n_negsub, m_up_hit, m_up_miss, m_row_hit, m_row_miss, n_eqm, n_meq, n_meqm, n_ltm, n_lem, n_mlt, n_mle, n_sub, n_div, n_and1, n_shl, n_shr, n_inc, n_mul, n_rem, z_lt, z_le, z_nlt, z_nle, Nat.not_lt_zero, Nat.le_zero_eq, Nat.zero_le, if_true, if_false, x1, eq_self]
    exact key
/-- the walks of yesterday's baskets, added up -/
theorem ni_d {v1 v2 v3 v4 v5 v6 v7 v9 v10 v11 : Value} {w : Int32} {rk : Nat} (hl : HL lay) (wf : Wf st2.1 st2.2.1 st2.2.2) (hd : 3 ≤ d) (hr : st2.1 70 = rk) (j : Nat) : ∀ (k : Nat) (I : mI) (F : mF) (R : mR), k + j = rk → TW lay st2 hs2 st' hs' I F R n → (∀ I' F' R', I' 0 = I 0 → TW lay st2 hs2 st' hs' I' F' R' n → Ev lay d 101 349 [.ref 1, v1, v2, v3, v4, v5, v6, v7, .int (nI rk), v9, v10, v11, .int w, .int (nI (q_tnw st2.1 rk)), .int (nI rk)] [] I' F' R' n Q) → Ev lay d 101 323 [.ref 1, v1, v2, v3, v4, v5, v6, v7, .int (nI rk), v9, v10, v11, .int w, .int (nI (q_tnw st2.1 k)), .int (nI k)] [] I F R n Q := by
  have d1 := wf.2.2.2.2.1.1
  induction j with
  | zero =>
    intro k I F R hk T hQ
    have hk2 : k = rk := by omega
    subst hk2
    have key := hQ I F R rfl T
    rw [e101_323]
    simp (disch := omega) only [e101_325, e101_327, true_or, m_psh_s, m_psh_n, m_kl_i, m_kl_f, m_kl_r, m_kl_n, m_kl_j, m_kl_l, m_kl_d, c_i, c_f, c_r, c_n, List.length_nil, List.length_cons, true_and, and_true, Nat.reduceAdd, Nat.reduceLeDiff, Nat.reduceSub, Nat.reduceEqDiff, Nat.reduceLT, ge_iff_le, gt_iff_lt, n_lit, m_in, m_nar0, m_nar1, and_self, not_false_eq_true, not_true_eq_false, ne_eq, reduceIte, ite_self, Nat.reduceMul, Nat.reduceDiv, Nat.reduceMod, Nat.reducePow, Nat.zero_add, Nat.add_zero, Nat.one_mul, Nat.mul_one, n_in, n_min, n_clamp, n_eq_t, n_eq_f, n_eq, n_le_t, n_le_f, n_le, n_lt_t, n_lt_f, n_lt, n_sub0, n_sublt, n_suble, n_negsub, m_up_hit, m_up_miss, m_row_hit, m_row_miss, n_eqm, n_meq, n_meqm, n_ltm, n_lem, n_mlt, n_mle, n_sub, n_div, n_and1, n_shl, n_shr, n_inc, n_mul, n_rem, z_lt, z_le, z_nlt, z_nle, Nat.not_lt_zero, Nat.le_zero_eq, Nat.zero_le, if_true, if_false]
    exact key
  | succ j ih =>
    intro k I F R hk T hQ
    have x1 := TW_1 T
    have hk3 : k < st2.1 70 := by omega
    have nxt := fun I F R => ih (k + 1) I F R (by omega)
    rw [q_tnw] at nxt
    rw [e101_323]
    simp (disch := omega) only [e101_325, e101_327, e101_330, e101_332, e101_332N, e101_333, e101_334, e101_336, e101_337, true_or, m_psh_s, m_psh_n, m_kl_i, m_kl_f, m_kl_r, m_kl_n, m_kl_j, m_kl_l, m_kl_d, c_i, c_f, c_r, c_n, List.length_nil, List.length_cons, true_and, and_true, Nat.reduceAdd, Nat.reduceLeDiff, Nat.reduceSub, Nat.reduceEqDiff, Nat.reduceLT, ge_iff_le, gt_iff_lt, n_lit, m_in, m_nar0, m_nar1, and_self, not_false_eq_true, not_true_eq_false, ne_eq, reduceIte, ite_self, Nat.reduceMul, Nat.reduceDiv, Nat.reduceMod, Nat.reducePow, Nat.zero_add, Nat.add_zero, Nat.one_mul, Nat.mul_one, n_in, n_min, n_clamp, n_eq_t, n_eq_f, n_eq, n_le_t, n_le_f, n_le, n_lt_t, n_lt_f, n_lt, n_sub0, n_sublt, n_suble, n_negsub, m_up_hit, m_up_miss, m_row_hit, m_row_miss, n_eqm, n_meq, n_meqm, n_ltm, n_lem, n_mlt, n_mle, n_sub, n_div, n_and1, n_shl, n_shr, n_inc, n_mul, n_rem, z_lt, z_le, z_nlt, z_nle, Nat.not_lt_zero, Nat.le_zero_eq, Nat.zero_le, if_true, if_false, x1]
    refine k_basket (d := d - 1) hl wf (by omega) _ _ _ _ _ _ _ T fun I1 F1 R1 n1 a1 b1 z1 T1 => ?_
    obtain rfl : n1 = n := by omega
    rw [v_b12 hk3 d1]
    have key := nxt I1 F1 R1 T1 fun I' F' R' z T' => hQ I' F' R' (z.trans z1) T'
    simp (disch := omega) only [e101_340, e101_341, e101_343, e101_346, true_or, m_psh_s, m_psh_n, m_kl_i, m_kl_f, m_kl_r, m_kl_n, m_kl_j, m_kl_l, m_kl_d, c_i, c_f, c_r, c_n, List.length_nil, List.length_cons, true_and, and_true, Nat.reduceAdd, Nat.reduceLeDiff, Nat.reduceSub, Nat.reduceEqDiff, Nat.reduceLT, ge_iff_le, gt_iff_lt, n_lit, m_in, m_nar0, m_nar1, and_self, not_false_eq_true, not_true_eq_false, ne_eq, reduceIte, ite_self, Nat.reduceMul, Nat.reduceDiv, Nat.reduceMod, Nat.reducePow, Nat.zero_add, Nat.add_zero, Nat.one_mul, Nat.mul_one, n_in, n_min, n_clamp, n_eq_t, n_eq_f, n_eq, n_le_t, n_le_f, n_le, n_lt_t, n_lt_f, n_lt, n_sub0, n_sublt, n_suble, n_negsub, m_up_hit, m_up_miss, m_row_hit, m_row_miss, n_eqm, n_meq, n_meqm, n_ltm, n_lem, n_mlt, n_mle, n_sub, n_div, n_and1, n_shl, n_shr, n_inc, n_mul, n_rem, z_lt, z_le, z_nlt, z_nle, Nat.not_lt_zero, Nat.le_zero_eq, Nat.zero_le, if_true, if_false, x1]
    exact key
end NIGHTN
