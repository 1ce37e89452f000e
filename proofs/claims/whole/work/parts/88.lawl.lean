section LAWL
variable {lay : mL} {n L c : Nat} {I : mI} {F : mF} {R : mR} {Q : mP} {r0 : Nat → Int32}
theorem Inv_mono (h : Inv lay r0 c I F R n) (hc : c < 512) : Inv lay r0 (c + 1) I F R n := by
  obtain ⟨S, sp, hi, nx, hs, pl, pc, sv, pm, hX, hM, h1, h2, h3, h4, h5, h6, h7, h8⟩ := h
  exact ⟨S, sp, hi, nx, hs, pl, pc, sv, pm, hX, hM, h1, h2, h3, h4, h5, by omega, by omega, h8⟩
theorem law_sw (hL : lay 0 = (0, L)) (hc : 4 * c + 3 < L) (hL2 : L ≤ 2048) (hlay : ∀ n, 180 ≤ n → n < 2200 → lay n = (10, 0)) (hv : Inv lay r0 c I F R n) (hN : Nx lay r0 c Q) (x : Int32) : Ev lay 13 167 32 [.ref 0, .ref 1, .ref 166, .int (nI (4 * c))] [.int x] I F R n Q := by
  rw [e167_32]
  by_cases h0 : x = 0
  · rw [if_pos h0]
    exact law_0 hL hc hL2 hlay hv hN
  rw [if_neg h0]
  by_cases h1 : x = 1
  · rw [if_pos h1]
    exact law_1 hL hc hL2 hlay hv hN
  rw [if_neg h1]
  by_cases h2 : x = 2
  · rw [if_pos h2]
    exact law_2 hL hc hL2 hlay hv hN
  rw [if_neg h2]
  by_cases h3 : x = 3
  · rw [if_pos h3]
    exact law_3 hL hc hL2 hlay hv hN
  rw [if_neg h3]
  by_cases h4 : x = 4
  · rw [if_pos h4]
    exact law_4 hL hc hL2 hlay hv hN
  rw [if_neg h4]
  by_cases h5 : x = 5
  · rw [if_pos h5]
    exact law_5 hL hc hL2 hlay hv hN
  rw [if_neg h5]
  by_cases h6 : x = 6
  · rw [if_pos h6]
    exact law_6 hL hc hL2 hlay hv hN
  rw [if_neg h6]
  by_cases h7 : x = 7
  · rw [if_pos h7]
    exact law_7 hL hc hL2 hlay hv hN
  rw [if_neg h7]
  by_cases h8 : x = 8
  · rw [if_pos h8]
    exact law_8 hL hc hL2 hlay hv hN
  rw [if_neg h8]
  by_cases h9 : x = 9
  · rw [if_pos h9]
    exact law_9 hL hc hL2 hlay hv hN
  rw [if_neg h9]
  by_cases h10 : x = 10
  · rw [if_pos h10]
    exact law_10 hL hc hL2 hlay hv hN
  rw [if_neg h10]
  by_cases h11 : x = 11
  · rw [if_pos h11]
    exact law_11 hL hc hL2 hlay hv hN
  rw [if_neg h11]
  by_cases h12 : x = 12
  · rw [if_pos h12]
    exact law_12 hL hc hL2 hlay hv hN
  rw [if_neg h12]
  by_cases h13 : x = 13
  · rw [if_pos h13]
    exact law_13 hL hc hL2 hlay hv hN
  rw [if_neg h13]
  by_cases h14 : x = 14
  · rw [if_pos h14]
    exact law_14 hL hc hL2 hlay hv hN
  rw [if_neg h14]
  by_cases h15 : x = 15
  · rw [if_pos h15]
    exact law_15 hL hc hL2 hlay hv hN
  rw [if_neg h15]
  by_cases h16 : x = 16
  · rw [if_pos h16]
    exact law_16 hL hc hL2 hlay hv hN
  rw [if_neg h16]
  by_cases h17 : x = 17
  · rw [if_pos h17]
    exact law_17 hL hc hL2 hlay hv hN
  rw [if_neg h17]
  by_cases h18 : x = 18
  · rw [if_pos h18]
    exact law_18 hL hc hL2 hlay hv hN
  rw [if_neg h18]
  by_cases h19 : x = 19
  · rw [if_pos h19]
    exact law_19 hL hc hL2 hlay hv hN
  rw [if_neg h19]
  by_cases h20 : x = 20
  · rw [if_pos h20]
    exact law_20 hL hc hL2 hlay hv hN
  rw [if_neg h20]
  by_cases h21 : x = 21
  · rw [if_pos h21]
    exact law_21 hL hc hL2 hlay hv hN
  rw [if_neg h21]
  by_cases h22 : x = 22
  · rw [if_pos h22]
    exact law_22 hL hc hL2 hlay hv hN
  rw [if_neg h22]
  by_cases h23 : x = 23
  · rw [if_pos h23]
    exact law_23 hL hc hL2 hlay hv hN
  rw [if_neg h23]
  by_cases h24 : x = 24
  · rw [if_pos h24]
    exact law_24 hL hc hL2 hlay hv hN
  rw [if_neg h24]
  by_cases h25 : x = 25
  · rw [if_pos h25]
    exact law_25 hL hc hL2 hlay hv hN
  rw [if_neg h25]
  exact hN I F R n (Inv_mono hv (by omega))
theorem n_sub_lt {a b : Nat} (h : a < b) (hb : b < 2147483648) : nI a - nI b = -nI (b - a) := by
  have h1 : nI a - nI b = -(nI b - nI a) := by rw [Int32.neg_sub]
  rw [h1, n_sub (Nat.le_of_lt h)]
theorem law_loop (hL : lay 0 = (0, L)) (hL2 : L ≤ 2048) (hlay : ∀ n, 180 ≤ n → n < 2200 → lay n = (10, 0)) (hQ : ∀ I F R n, n ≤ 2000 → Q (some (.int (nI 1))) I F R n) (j : Nat) : ∀ (c n : Nat) (I : mI) (F : mF) (R : mR), L ≤ 4 * c + j → Inv lay r0 c I F R n → Ev lay 13 167 18 [.ref 0, .ref 1, .ref 166, .int (nI (4 * c))] [] I F R n Q := by
  have eL : Int32.ofNat L = nI L := rfl
  have e0 : (lay 0).1 = 0 := by rw [hL]
  have e1 : (lay 0).2 = L := by rw [hL]
  have out : ∀ (c n : Nat) (I : mI) (F : mF) (R : mR), L ≤ 4 * c + 3 → Inv lay r0 c I F R n → Ev lay 13 167 18 [.ref 0, .ref 1, .ref 166, .int (nI (4 * c))] [] I F R n Q := by
    intro c n I F R hc hv
    obtain ⟨S, sp, hi, nx, hs, pl, pc, sv, pm, hX, hM, h1, h2, h3, h4, h5, h6, h7, h8⟩ := hv
    have key := hQ I F R n (by omega)
    rw [e167_18]
    by_cases c4 : 4 ≤ L
    · simp (disch := omega) only [e167_19, e167_19N, e167_20, e167_21, e167_22, e167_23, e167_807, e167_808, true_or, m_psh_s, m_psh_n, m_kl_i, m_kl_f, m_kl_r, m_kl_n, m_kl_j, m_kl_l, m_kl_d, c_i, c_f, c_r, c_n, List.length_nil, List.length_cons, true_and, and_true, Nat.reduceAdd, Nat.reduceLeDiff, Nat.reduceSub, Nat.reduceEqDiff, Nat.reduceLT, ge_iff_le, gt_iff_lt, n_lit, m_in, m_nar0, m_nar1, and_self, not_false_eq_true, not_true_eq_false, ne_eq, reduceIte, ite_self, Nat.reduceMul, Nat.reduceDiv, Nat.reduceMod, Nat.reducePow, Nat.zero_add, Nat.add_zero, Nat.one_mul, Nat.mul_one, n_in, n_min, n_clamp, n_eq_t, n_eq_f, n_eq, n_le_t, n_le_f, n_le, n_lt_t, n_lt_f, n_lt, n_sub0, n_sublt, n_suble, n_negsub, m_up_hit, m_up_miss, m_row_hit, m_row_miss, n_eqm, n_meq, n_meqm, n_ltm, n_lem, n_mlt, n_mle, n_sub, n_div, n_and1, n_shl, n_shr, n_inc, n_mul, n_rem, z_lt, z_le, z_nlt, z_nle, Nat.not_lt_zero, Nat.le_zero_eq, Nat.zero_le, if_true, if_false, e0, e1, eL]
      exact key
    · have es := n_sub_lt (a := L) (b := 4) (by omega) (by omega)
      simp (disch := omega) only [e167_19, e167_19N, e167_20, e167_21, e167_22, e167_23, e167_807, e167_808, true_or, m_psh_s, m_psh_n, m_kl_i, m_kl_f, m_kl_r, m_kl_n, m_kl_j, m_kl_l, m_kl_d, c_i, c_f, c_r, c_n, List.length_nil, List.length_cons, true_and, and_true, Nat.reduceAdd, Nat.reduceLeDiff, Nat.reduceSub, Nat.reduceEqDiff, Nat.reduceLT, ge_iff_le, gt_iff_lt, n_lit, m_in, m_nar0, m_nar1, and_self, not_false_eq_true, not_true_eq_false, ne_eq, reduceIte, ite_self, Nat.reduceMul, Nat.reduceDiv, Nat.reduceMod, Nat.reducePow, Nat.zero_add, Nat.add_zero, Nat.one_mul, Nat.mul_one, n_in, n_min, n_clamp, n_eq_t, n_eq_f, n_eq, n_le_t, n_le_f, n_le, n_lt_t, n_lt_f, n_lt, n_sub0, n_sublt, n_suble, n_negsub, m_up_hit, m_up_miss, m_row_hit, m_row_miss, n_eqm, n_meq, n_meqm, n_ltm, n_lem, n_mlt, n_mle, n_sub, n_div, n_and1, n_shl, n_shr, n_inc, n_mul, n_rem, z_lt, z_le, z_nlt, z_nle, Nat.not_lt_zero, Nat.le_zero_eq, Nat.zero_le, if_true, if_false, e0, e1, eL, es]
      exact key
  induction j with
  | zero => intro c n I F R hc hv; exact out c n I F R (by omega) hv
  | succ j ih =>
    intro c n I F R hc hv
    by_cases c3 : L ≤ 4 * c + 3
    · exact out c n I F R c3 hv
    · have hN : Nx lay r0 c Q := fun I1 F1 R1 n1 hv1 => by
        have key := ih (c + 1) n1 I1 F1 R1 (by omega) hv1
        rw [show 4 * (c + 1) = 4 * c + 4 by omega] at key
        simp (disch := omega) only [e167_801, e167_804, true_or, m_psh_s, m_psh_n, m_kl_i, m_kl_f, m_kl_r, m_kl_n, m_kl_j, m_kl_l, m_kl_d, c_i, c_f, c_r, c_n, List.length_nil, List.length_cons, true_and, and_true, Nat.reduceAdd, Nat.reduceLeDiff, Nat.reduceSub, Nat.reduceEqDiff, Nat.reduceLT, ge_iff_le, gt_iff_lt, n_lit, m_in, m_nar0, m_nar1, and_self, not_false_eq_true, not_true_eq_false, ne_eq, reduceIte, ite_self, Nat.reduceMul, Nat.reduceDiv, Nat.reduceMod, Nat.reducePow, Nat.zero_add, Nat.add_zero, Nat.one_mul, Nat.mul_one, n_in, n_min, n_clamp, n_eq_t, n_eq_f, n_eq, n_le_t, n_le_f, n_le, n_lt_t, n_lt_f, n_lt, n_sub0, n_sublt, n_suble, n_negsub, m_up_hit, m_up_miss, m_row_hit, m_row_miss, n_eqm, n_meq, n_meqm, n_ltm, n_lem, n_mlt, n_mle, n_sub, n_div, n_and1, n_shl, n_shr, n_inc, n_mul, n_rem, z_lt, z_le, z_nlt, z_nle, Nat.not_lt_zero, Nat.le_zero_eq, Nat.zero_le, if_true, if_false]
        exact key
      have key := law_sw hL (by omega) hL2 hlay hv hN
      rw [e167_18]
      simp (disch := omega) only [e167_19, e167_19N, e167_20, e167_21, e167_22, e167_23, e167_26, e167_26N, e167_27, e167_28, e167_29, e167_31, true_or, m_psh_s, m_psh_n, m_kl_i, m_kl_f, m_kl_r, m_kl_n, m_kl_j, m_kl_l, m_kl_d, c_i, c_f, c_r, c_n, List.length_nil, List.length_cons, true_and, and_true, Nat.reduceAdd, Nat.reduceLeDiff, Nat.reduceSub, Nat.reduceEqDiff, Nat.reduceLT, ge_iff_le, gt_iff_lt, n_lit, m_in, m_nar0, m_nar1, and_self, not_false_eq_true, not_true_eq_false, ne_eq, reduceIte, ite_self, Nat.reduceMul, Nat.reduceDiv, Nat.reduceMod, Nat.reducePow, Nat.zero_add, Nat.add_zero, Nat.one_mul, Nat.mul_one, n_in, n_min, n_clamp, n_eq_t, n_eq_f, n_eq, n_le_t, n_le_f, n_le, n_lt_t, n_lt_f, n_lt, n_sub0, n_sublt, n_suble, n_negsub, m_up_hit, m_up_miss, m_row_hit, m_row_miss, n_eqm, n_meq, n_meqm, n_ltm, n_lem, n_mlt, n_mle, n_sub, n_div, n_and1, n_shl, n_shr, n_inc, n_mul, n_rem, z_lt, z_le, z_nlt, z_nle, Nat.not_lt_zero, Nat.le_zero_eq, Nat.zero_le, if_true, if_false, hL, e0, e1, eL]
      exact key _
theorem Wf_0 : Wf q_S0 (fun _ => 0) [] := by
  have z3 : q_S0 3 = 0 := rfl
  have z69 : q_S0 69 = 0 := rfl
  have z70 : q_S0 70 = 0 := rfl
  have z : ∀ i, 3 ≤ i → q_S0 i = 0 := fun i hi => by
    unfold q_S0
    rw [if_neg (by omega), if_neg (by omega), if_neg (by omega)]
  refine ⟨⟨by rw [z3]; omega, fun g hg => by rw [z3] at hg; omega, fun g h hg => by rw [z3] at hg; omega⟩, ⟨by decide, by decide, by decide⟩, by decide, ⟨by rw [z69]; omega, fun k hk => by rw [z69] at hk; omega⟩, ⟨by rw [z70]; omega, fun k hk => by rw [z70] at hk; omega⟩, by decide, fun g hg => ⟨by rw [z _ (by omega)]; omega, fun _ => z _ (by omega)⟩, fun g hg => ⟨fLe_0, fun _ => rfl⟩, fun x hx => (by cases hx), rfl, fun k hk => by rw [z69] at hk; omega, fun k hk => by rw [z70] at hk; omega⟩
theorem law_all (hL : lay 0 = (0, L)) (hL2 : L ≤ 2048) (hC : CL lay) (hD : DL lay) (hlay : ∀ n, 180 ≤ n → n < 2200 → lay n = (10, 0)) (hQ : ∀ I F R n, n ≤ 2000 → Q (some (.int (nI 1))) I F R n) : Ev lay 13 167 0 [.ref 0, m_j, m_j, m_j] [] I F R 1 Q := by
  have c1 := hC.1
  have d1 := hD.1
  have kn : ∀ (Q : mP), _ → _ := fun Q hQ => i_new (lay := lay) (d := 12) (I := m_row I 1 (fun _ => nI 0)) (F := F) (R := m_row R 1 (fun _ => 0)) (Q := Q) hC (fun k => m_row_hit rfl) (by omega) hQ
  simp (disch := omega) only [e167_0, e167_3, e167_4, true_or, m_psh_s, m_psh_n, m_kl_i, m_kl_f, m_kl_r, m_kl_n, m_kl_j, m_kl_l, m_kl_d, c_i, c_f, c_r, c_n, List.length_nil, List.length_cons, true_and, and_true, Nat.reduceAdd, Nat.reduceLeDiff, Nat.reduceSub, Nat.reduceEqDiff, Nat.reduceLT, ge_iff_le, gt_iff_lt, n_lit, m_in, m_nar0, m_nar1, and_self, not_false_eq_true, not_true_eq_false, ne_eq, reduceIte, ite_self, Nat.reduceMul, Nat.reduceDiv, Nat.reduceMod, Nat.reducePow, Nat.zero_add, Nat.add_zero, Nat.one_mul, Nat.mul_one, n_in, n_min, n_clamp, n_eq_t, n_eq_f, n_eq, n_le_t, n_le_f, n_le, n_lt_t, n_lt_f, n_lt, n_sub0, n_sublt, n_suble, n_negsub, m_up_hit, m_up_miss, m_row_hit, m_row_miss, n_eqm, n_meq, n_meqm, n_ltm, n_lem, n_mlt, n_mle, n_sub, n_div, n_and1, n_shl, n_shr, n_inc, n_mul, n_rem, z_lt, z_le, z_nlt, z_nle, Nat.not_lt_zero, Nat.le_zero_eq, Nat.zero_le, if_true, if_false, c1]
  apply kn
  intro I1 F1 R1 ⟨x1, x2, x3, x4, x5, x6⟩ o1
  have km : ∀ (Q : mP), _ → _ := fun Q hQ => i_model (lay := lay) (d := 12) (I := m_row I1 166 (fun _ => nI 0)) (F := F1) (R := m_row R1 166 (fun _ => 0)) (Q := Q) hD (fun k => m_row_hit rfl) (by omega) hQ
  simp (disch := omega) only [e167_7, e167_7N, e167_8, e167_11, e167_12, true_or, m_psh_s, m_psh_n, m_kl_i, m_kl_f, m_kl_r, m_kl_n, m_kl_j, m_kl_l, m_kl_d, c_i, c_f, c_r, c_n, List.length_nil, List.length_cons, true_and, and_true, Nat.reduceAdd, Nat.reduceLeDiff, Nat.reduceSub, Nat.reduceEqDiff, Nat.reduceLT, ge_iff_le, gt_iff_lt, n_lit, m_in, m_nar0, m_nar1, and_self, not_false_eq_true, not_true_eq_false, ne_eq, reduceIte, ite_self, Nat.reduceMul, Nat.reduceDiv, Nat.reduceMod, Nat.reducePow, Nat.zero_add, Nat.add_zero, Nat.one_mul, Nat.mul_one, n_in, n_min, n_clamp, n_eq_t, n_eq_f, n_eq, n_le_t, n_le_f, n_le, n_lt_t, n_lt_f, n_lt, n_sub0, n_sublt, n_suble, n_negsub, m_up_hit, m_up_miss, m_row_hit, m_row_miss, n_eqm, n_meq, n_meqm, n_ltm, n_lem, n_mlt, n_mle, n_sub, n_div, n_and1, n_shl, n_shr, n_inc, n_mul, n_rem, z_lt, z_le, z_nlt, z_nle, Nat.not_lt_zero, Nat.le_zero_eq, Nat.zero_le, if_true, if_false, d1]
  apply km
  intro I2 F2 R2 hM o2
  have o : ∀ x, x < 166 → I2 x = I1 x ∧ F2 x = F1 x ∧ R2 x = R1 x := fun x hx => by
    obtain ⟨u1, u2, u3⟩ := o2 x hx
    exact ⟨u1.trans (m_row_off (by omega)), u2, u3.trans (m_row_off (by omega))⟩
  have ns : ∀ a, isSd a → NSh lay I2 F2 R2 a := fun a ha => NSh_sm (x2 a ha) (fun x h1 h2 => o x (by unfold isSd at ha; omega))
  have hX : XS lay I2 F2 R2 180 q_S0 (fun _ => 0) [] 0 [] 0 (fun _ => 0) (fun _ => none) := by
    have e36 := (o 36 (by omega)).1
    have e33 := (o 33 (by omega)).1
    have e165 := (o 165 (by omega)).1
    refine ⟨XL_sm x1 (fun x hx => (o x (by omega)).2.2), fun a ha => (ns a ha).1, ns 2 (Or.inl rfl), ⟨by rw [e36]; exact x3, by rw [e36]; exact x4, by omega, Nat.zero_le _, fun j st h => by cases h⟩, ⟨by rw [e33]; exact x5, by omega, fun k hk => by omega⟩, fun k hk => ⟨by rw [e165]; exact x6 k, fun st h => by cases h⟩, Nat.le_refl _⟩
  have key := law_loop (lay := lay) (r0 := I2 0) (Q := Q) hL hL2 hlay hQ L 0 180 I2 F2 R2 (by omega) ⟨q_S0, fun _ => 0, [], 0, [], 0, fun _ => 0, fun _ => none, 0, hX, hM, ⟨Wf_0, Nat.le_refl _⟩, fun j st h => (by cases h), fun k st h => (by cases h), fun k hk => by omega, Nat.le_refl _, by omega, by omega, rfl⟩
  simp (disch := omega) only [e167_15, e167_15N, e167_16, e167_17, true_or, m_psh_s, m_psh_n, m_kl_i, m_kl_f, m_kl_r, m_kl_n, m_kl_j, m_kl_l, m_kl_d, c_i, c_f, c_r, c_n, List.length_nil, List.length_cons, true_and, and_true, Nat.reduceAdd, Nat.reduceLeDiff, Nat.reduceSub, Nat.reduceEqDiff, Nat.reduceLT, ge_iff_le, gt_iff_lt, n_lit, m_in, m_nar0, m_nar1, and_self, not_false_eq_true, not_true_eq_false, ne_eq, reduceIte, ite_self, Nat.reduceMul, Nat.reduceDiv, Nat.reduceMod, Nat.reducePow, Nat.zero_add, Nat.add_zero, Nat.one_mul, Nat.mul_one, n_in, n_min, n_clamp, n_eq_t, n_eq_f, n_eq, n_le_t, n_le_f, n_le, n_lt_t, n_lt_f, n_lt, n_sub0, n_sublt, n_suble, n_negsub, m_up_hit, m_up_miss, m_row_hit, m_row_miss, n_eqm, n_meq, n_meqm, n_ltm, n_lem, n_mlt, n_mle, n_sub, n_div, n_and1, n_shl, n_shr, n_inc, n_mul, n_rem, z_lt, z_le, z_nlt, z_nle, Nat.not_lt_zero, Nat.le_zero_eq, Nat.zero_le, if_true, if_false]
  exact key
end LAWL
