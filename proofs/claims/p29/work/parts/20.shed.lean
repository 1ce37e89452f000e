section SHED
variable {lay : mL} {d a n : Nat} {I : mI} {F : mF} {R : mR} {Q : mP}
theorem s_isSlot {s : Nat} (hs : s < 30) : Ev lay d 17 0 [.int (nI s)] [] I F R n Q ↔ Q (some (.int (nI 1))) I F R n := by
  simp (disch := omega) only [e17_0, e17_1, e17_4, e17_5, e17_7, e17_10, e17_11, e17_14, e17_15, true_or, m_psh_s, m_psh_n, m_kl_i, m_kl_f, m_kl_r, m_kl_n, m_kl_j, m_kl_l, m_kl_d, c_i, c_f, c_r, c_n, List.length_nil, List.length_cons, true_and, and_true, Nat.reduceAdd, Nat.reduceLeDiff, Nat.reduceSub, Nat.reduceEqDiff, Nat.reduceLT, ge_iff_le, gt_iff_lt, n_lit, m_in, m_nar0, m_nar1, and_self, not_false_eq_true, not_true_eq_false, ne_eq, reduceIte, ite_self, Nat.reduceMul, Nat.reduceDiv, Nat.reduceMod, Nat.reducePow, Nat.zero_add, Nat.add_zero, Nat.one_mul, Nat.mul_one, n_in, n_min, n_clamp, n_eq_t, n_eq_f, n_eq, n_le_t, n_le_f, n_le, n_lt_t, n_lt_f, n_lt, n_sub0, n_sublt, n_suble, n_negsub, m_up_hit, m_up_miss, m_row_hit, m_row_miss, n_eqm, n_meq, n_meqm, n_ltm, n_lem, n_mlt, n_mle, n_sub, n_div, n_and1, n_shl, n_shr, n_inc, n_mul, n_rem, z_lt, z_le, z_nlt, z_nle, Nat.not_lt_zero, Nat.le_zero_eq, Nat.zero_le, if_true, if_false]
theorem s_isSlotN {s : Int32} (hs : ∀ k : Nat, k < 30 → s ≠ nI k) : Ev lay d 17 0 [.int s] [] I F R n Q ↔ Q (some (.int (nI 0))) I F R n := by
  rcases n_cases s with ⟨k, hk, rfl⟩ | h
  · have : 30 ≤ k := Nat.not_lt.mp fun h => hs k h rfl
    simp (disch := omega) only [e17_0, e17_1, e17_4, e17_5, e17_7, e17_10, e17_11, e17_14, e17_15, true_or, m_psh_s, m_psh_n, m_kl_i, m_kl_f, m_kl_r, m_kl_n, m_kl_j, m_kl_l, m_kl_d, c_i, c_f, c_r, c_n, List.length_nil, List.length_cons, true_and, and_true, Nat.reduceAdd, Nat.reduceLeDiff, Nat.reduceSub, Nat.reduceEqDiff, Nat.reduceLT, ge_iff_le, gt_iff_lt, n_lit, m_in, m_nar0, m_nar1, and_self, not_false_eq_true, not_true_eq_false, ne_eq, reduceIte, ite_self, Nat.reduceMul, Nat.reduceDiv, Nat.reduceMod, Nat.reducePow, Nat.zero_add, Nat.add_zero, Nat.one_mul, Nat.mul_one, n_in, n_min, n_clamp, n_eq_t, n_eq_f, n_eq, n_le_t, n_le_f, n_le, n_lt_t, n_lt_f, n_lt, n_sub0, n_sublt, n_suble, n_negsub, m_up_hit, m_up_miss, m_row_hit, m_row_miss, n_eqm, n_meq, n_meqm, n_ltm, n_lem, n_mlt, n_mle, n_sub, n_div, n_and1, n_shl, n_shr, n_inc, n_mul, n_rem, z_lt, z_le, z_nlt, z_nle, Nat.not_lt_zero, Nat.le_zero_eq, Nat.zero_le, if_true, if_false]
  · have h' : s < nI 0 := h
    simp only [e17_0, e17_1, n_lit, if_pos h', e17_14, e17_15, m_nar0, true_and]
theorem s_stepsBetween {s o c : Nat} (h : ISh lay R a) (hs : s < 30) (ho : o < 30) (hc : I (a + 1) 2 = nI c) : Ev lay d 33 0 [.ref a, .int (nI s), .int (nI o), m_j] [] I F R n Q ↔ Q (some (.int (nI (q_stp c s o)))) I F R n := by
  obtain ⟨hs0, hs1, hs2, hs3, hs4, hs5, hs6, hs7, hs8, hs9, hs10, hs11, hs12, hs13, hs14, hs15, hs16, hs17, hs18, hs19, hs20, hs21, hs22, hs23, hs24, hs25, hs26⟩ := h
  simp (disch := omega) only [e33_0, e33_1, e33_3, e33_4, e33_5, e33_7, e33_8, e33_9, e33_10, e33_11, e33_14, e33_15, e33_16, e33_19, e33_20, e33_21, e33_22, e33_25, e33_26, e33_27, e33_28, e33_29, e33_30, e33_32, e33_33, e33_34, e33_36, e33_37, e33_38, e33_38N, e33_39, e33_42, e33_43, e33_44, e33_45, e33_48, e33_49, e33_50, e33_53, e33_54, e33_55, e33_56, true_or, m_psh_s, m_psh_n, m_kl_i, m_kl_f, m_kl_r, m_kl_n, m_kl_j, m_kl_l, m_kl_d, c_i, c_f, c_r, c_n, List.length_nil, List.length_cons, true_and, and_true, Nat.reduceAdd, Nat.reduceLeDiff, Nat.reduceSub, Nat.reduceEqDiff, Nat.reduceLT, ge_iff_le, gt_iff_lt, n_lit, m_in, m_nar0, m_nar1, and_self, not_false_eq_true, not_true_eq_false, ne_eq, reduceIte, ite_self, Nat.reduceMul, Nat.reduceDiv, Nat.reduceMod, Nat.reducePow, Nat.zero_add, Nat.add_zero, Nat.one_mul, Nat.mul_one, n_in, n_min, n_clamp, n_eq_t, n_eq_f, n_eq, n_le_t, n_le_f, n_le, n_lt_t, n_lt_f, n_lt, n_sub0, n_sublt, n_suble, n_negsub, m_up_hit, m_up_miss, m_row_hit, m_row_miss, n_eqm, n_meq, n_meqm, n_ltm, n_lem, n_mlt, n_mle, n_sub, n_div, n_and1, n_shl, n_shr, n_inc, n_mul, n_rem, z_lt, z_le, z_nlt, z_nle, Nat.not_lt_zero, Nat.le_zero_eq, Nat.zero_le, if_true, if_false, hs0, hs1, hs2, hs3, hs4, hs5, hs6, hs7, hs8, hs9, hs10, hs11, hs12, hs13, hs14, hs15, hs16, hs17, hs18, hs19, hs20, hs21, hs22, hs23, hs24, hs25, hs26, hc]
  unfold q_stp
  split
  · split <;> rfl
  · split <;> rfl
theorem s_deskSteps {s c : Nat} (h : ISh lay R a) (hs : s < 30) (hc : I (a + 1) 2 = nI c) : Ev lay d 35 0 [.ref a, .int (nI s)] [] I F R n Q ↔ Q (some (.int (nI (q_dsk c s)))) I F R n := by
  obtain ⟨hs0, hs1, hs2, hs3, hs4, hs5, hs6, hs7, hs8, hs9, hs10, hs11, hs12, hs13, hs14, hs15, hs16, hs17, hs18, hs19, hs20, hs21, hs22, hs23, hs24, hs25, hs26⟩ := h
  simp (disch := omega) only [e35_0, e35_1, e35_2, e35_4, e35_5, e35_6, e35_6N, e35_7, e35_10, e35_11, e35_12, e35_13, e35_15, e35_16, e35_17, e35_18, true_or, m_psh_s, m_psh_n, m_kl_i, m_kl_f, m_kl_r, m_kl_n, m_kl_j, m_kl_l, m_kl_d, c_i, c_f, c_r, c_n, List.length_nil, List.length_cons, true_and, and_true, Nat.reduceAdd, Nat.reduceLeDiff, Nat.reduceSub, Nat.reduceEqDiff, Nat.reduceLT, ge_iff_le, gt_iff_lt, n_lit, m_in, m_nar0, m_nar1, and_self, not_false_eq_true, not_true_eq_false, ne_eq, reduceIte, ite_self, Nat.reduceMul, Nat.reduceDiv, Nat.reduceMod, Nat.reducePow, Nat.zero_add, Nat.add_zero, Nat.one_mul, Nat.mul_one, n_in, n_min, n_clamp, n_eq_t, n_eq_f, n_eq, n_le_t, n_le_f, n_le, n_lt_t, n_lt_f, n_lt, n_sub0, n_sublt, n_suble, n_negsub, m_up_hit, m_up_miss, m_row_hit, m_row_miss, n_eqm, n_meq, n_meqm, n_ltm, n_lem, n_mlt, n_mle, n_sub, n_div, n_and1, n_shl, n_shr, n_inc, n_mul, n_rem, z_lt, z_le, z_nlt, z_nle, Nat.not_lt_zero, Nat.le_zero_eq, Nat.zero_le, if_true, if_false, hs0, hs1, hs2, hs3, hs4, hs5, hs6, hs7, hs8, hs9, hs10, hs11, hs12, hs13, hs14, hs15, hs16, hs17, hs18, hs19, hs20, hs21, hs22, hs23, hs24, hs25, hs26, hc]
  rfl
theorem s_stand {s g : Nat} (h : ISh lay R a) (hs : s < 30) (hg : g < 16) : Ev lay d 22 0 [.ref a, .int (nI g), .int (nI s)] [] I F R n Q ↔ Q none (m_up (m_up I (a + 3) s (nI g)) (a + 2) g (nI s)) F R n := by
  obtain ⟨hs0, hs1, hs2, hs3, hs4, hs5, hs6, hs7, hs8, hs9, hs10, hs11, hs12, hs13, hs14, hs15, hs16, hs17, hs18, hs19, hs20, hs21, hs22, hs23, hs24, hs25, hs26⟩ := h
  simp (disch := omega) only [e22_0, e22_0N, e22_1, e22_4, e22_5, e22_6, e22_7, e22_8, e22_11, e22_12, e22_14, e22_17, e22_17N, e22_18, e22_21, e22_22, e22_23, e22_24, true_or, m_psh_s, m_psh_n, m_kl_i, m_kl_f, m_kl_r, m_kl_n, m_kl_j, m_kl_l, m_kl_d, c_i, c_f, c_r, c_n, List.length_nil, List.length_cons, true_and, and_true, Nat.reduceAdd, Nat.reduceLeDiff, Nat.reduceSub, Nat.reduceEqDiff, Nat.reduceLT, ge_iff_le, gt_iff_lt, n_lit, m_in, m_nar0, m_nar1, and_self, not_false_eq_true, not_true_eq_false, ne_eq, reduceIte, ite_self, Nat.reduceMul, Nat.reduceDiv, Nat.reduceMod, Nat.reducePow, Nat.zero_add, Nat.add_zero, Nat.one_mul, Nat.mul_one, n_in, n_min, n_clamp, n_eq_t, n_eq_f, n_eq, n_le_t, n_le_f, n_le, n_lt_t, n_lt_f, n_lt, n_sub0, n_sublt, n_suble, n_negsub, m_up_hit, m_up_miss, m_row_hit, m_row_miss, n_eqm, n_meq, n_meqm, n_ltm, n_lem, n_mlt, n_mle, n_sub, n_div, n_and1, n_shl, n_shr, n_inc, n_mul, n_rem, z_lt, z_le, z_nlt, z_nle, Nat.not_lt_zero, Nat.le_zero_eq, Nat.zero_le, if_true, if_false, hs0, hs1, hs2, hs3, hs4, hs5, hs6, hs7, hs8, hs9, hs10, hs11, hs12, hs13, hs14, hs15, hs16, hs17, hs18, hs19, hs20, hs21, hs22, hs23, hs24, hs25, hs26]
theorem s_standN {s : Nat} (h : ISh lay R a) (hs : s < 30) : Ev lay d 22 0 [.ref a, .int (-nI 6), .int (nI s)] [] I F R n Q ↔ Q none (m_up I (a + 3) s (-nI 6)) F R n := by
  obtain ⟨hs0, hs1, hs2, hs3, hs4, hs5, hs6, hs7, hs8, hs9, hs10, hs11, hs12, hs13, hs14, hs15, hs16, hs17, hs18, hs19, hs20, hs21, hs22, hs23, hs24, hs25, hs26⟩ := h
  simp (disch := omega) only [e22_0, e22_0N, e22_1, e22_4, e22_5, e22_6, e22_7, e22_8, e22_11, e22_12, e22_14, e22_17, e22_17N, e22_18, e22_21, e22_22, e22_23, e22_24, true_or, m_psh_s, m_psh_n, m_kl_i, m_kl_f, m_kl_r, m_kl_n, m_kl_j, m_kl_l, m_kl_d, c_i, c_f, c_r, c_n, List.length_nil, List.length_cons, true_and, and_true, Nat.reduceAdd, Nat.reduceLeDiff, Nat.reduceSub, Nat.reduceEqDiff, Nat.reduceLT, ge_iff_le, gt_iff_lt, n_lit, m_in, m_nar0, m_nar1, and_self, not_false_eq_true, not_true_eq_false, ne_eq, reduceIte, ite_self, Nat.reduceMul, Nat.reduceDiv, Nat.reduceMod, Nat.reducePow, Nat.zero_add, Nat.add_zero, Nat.one_mul, Nat.mul_one, n_in, n_min, n_clamp, n_eq_t, n_eq_f, n_eq, n_le_t, n_le_f, n_le, n_lt_t, n_lt_f, n_lt, n_sub0, n_sublt, n_suble, n_negsub, m_up_hit, m_up_miss, m_row_hit, m_row_miss, n_eqm, n_meq, n_meqm, n_ltm, n_lem, n_mlt, n_mle, n_sub, n_div, n_and1, n_shl, n_shr, n_inc, n_mul, n_rem, z_lt, z_le, z_nlt, z_nle, Nat.not_lt_zero, Nat.le_zero_eq, Nat.zero_le, if_true, if_false, hs0, hs1, hs2, hs3, hs4, hs5, hs6, hs7, hs8, hs9, hs10, hs11, hs12, hs13, hs14, hs15, hs16, hs17, hs18, hs19, hs20, hs21, hs22, hs23, hs24, hs25, hs26]
theorem s_countSwap {g k v : Nat} (h : ISh lay R a) (hg : g < k) (hk : k ≤ 16) (hG : I a 11 = nI k) (hv : I (a + 7) g = nI v) : Ev lay d 23 0 [.ref a, .int (nI g)] [] I F R n Q ↔ Q (some (.int (nI 1))) (m_up I (a + 7) g (nI (v + 1))) F R n := by
  obtain ⟨hs0, hs1, hs2, hs3, hs4, hs5, hs6, hs7, hs8, hs9, hs10, hs11, hs12, hs13, hs14, hs15, hs16, hs17, hs18, hs19, hs20, hs21, hs22, hs23, hs24, hs25, hs26⟩ := h
  simp (disch := omega) only [e23_0, e23_1, e23_4, e23_5, e23_5N, e23_6, e23_9, e23_12, e23_13, e23_14, e23_14N, e23_15, e23_18, e23_19, e23_20, e23_21, e23_22, e23_23, e23_24, e23_25, true_or, m_psh_s, m_psh_n, m_kl_i, m_kl_f, m_kl_r, m_kl_n, m_kl_j, m_kl_l, m_kl_d, c_i, c_f, c_r, c_n, List.length_nil, List.length_cons, true_and, and_true, Nat.reduceAdd, Nat.reduceLeDiff, Nat.reduceSub, Nat.reduceEqDiff, Nat.reduceLT, ge_iff_le, gt_iff_lt, n_lit, m_in, m_nar0, m_nar1, and_self, not_false_eq_true, not_true_eq_false, ne_eq, reduceIte, ite_self, Nat.reduceMul, Nat.reduceDiv, Nat.reduceMod, Nat.reducePow, Nat.zero_add, Nat.add_zero, Nat.one_mul, Nat.mul_one, n_in, n_min, n_clamp, n_eq_t, n_eq_f, n_eq, n_le_t, n_le_f, n_le, n_lt_t, n_lt_f, n_lt, n_sub0, n_sublt, n_suble, n_negsub, m_up_hit, m_up_miss, m_row_hit, m_row_miss, n_eqm, n_meq, n_meqm, n_ltm, n_lem, n_mlt, n_mle, n_sub, n_div, n_and1, n_shl, n_shr, n_inc, n_mul, n_rem, z_lt, z_le, z_nlt, z_nle, Nat.not_lt_zero, Nat.le_zero_eq, Nat.zero_le, if_true, if_false, hs0, hs1, hs2, hs3, hs4, hs5, hs6, hs7, hs8, hs9, hs10, hs11, hs12, hs13, hs14, hs15, hs16, hs17, hs18, hs19, hs20, hs21, hs22, hs23, hs24, hs25, hs26, hG, hv]
theorem s_countSwapN (h : ISh lay R a) : Ev lay d 23 0 [.ref a, .int (-nI 6)] [] I F R n Q ↔ Q (some (.int (nI 0))) I F R n := by
  obtain ⟨hs0, hs1, hs2, hs3, hs4, hs5, hs6, hs7, hs8, hs9, hs10, hs11, hs12, hs13, hs14, hs15, hs16, hs17, hs18, hs19, hs20, hs21, hs22, hs23, hs24, hs25, hs26⟩ := h
  simp (disch := omega) only [e23_0, e23_1, e23_4, e23_5, e23_5N, e23_6, e23_9, e23_12, e23_13, e23_14, e23_14N, e23_15, e23_18, e23_19, e23_20, e23_21, e23_22, e23_23, e23_24, e23_25, true_or, m_psh_s, m_psh_n, m_kl_i, m_kl_f, m_kl_r, m_kl_n, m_kl_j, m_kl_l, m_kl_d, c_i, c_f, c_r, c_n, List.length_nil, List.length_cons, true_and, and_true, Nat.reduceAdd, Nat.reduceLeDiff, Nat.reduceSub, Nat.reduceEqDiff, Nat.reduceLT, ge_iff_le, gt_iff_lt, n_lit, m_in, m_nar0, m_nar1, and_self, not_false_eq_true, not_true_eq_false, ne_eq, reduceIte, ite_self, Nat.reduceMul, Nat.reduceDiv, Nat.reduceMod, Nat.reducePow, Nat.zero_add, Nat.add_zero, Nat.one_mul, Nat.mul_one, n_in, n_min, n_clamp, n_eq_t, n_eq_f, n_eq, n_le_t, n_le_f, n_le, n_lt_t, n_lt_f, n_lt, n_sub0, n_sublt, n_suble, n_negsub, m_up_hit, m_up_miss, m_row_hit, m_row_miss, n_eqm, n_meq, n_meqm, n_ltm, n_lem, n_mlt, n_mle, n_sub, n_div, n_and1, n_shl, n_shr, n_inc, n_mul, n_rem, z_lt, z_le, z_nlt, z_nle, Nat.not_lt_zero, Nat.le_zero_eq, Nat.zero_le, if_true, if_false, hs0, hs1, hs2, hs3, hs4, hs5, hs6, hs7, hs8, hs9, hs10, hs11, hs12, hs13, hs14, hs15, hs16, hs17, hs18, hs19, hs20, hs21, hs22, hs23, hs24, hs25, hs26]
/-- the good that stands in a slot -/
def q_gi (S : Nat → Nat) (s : Nat) : Option Nat := q_gin (fun g => S (4 + 4 * g)) (S 3) s
def q_mv (S : Nat → Nat) (g : Option Nat) (s : Nat) : Nat → Nat := match g with
  | none => S
  | some g => up1 S (4 + 4 * g) s
def q_exS (S : Nat → Nat) (s o : Nat) : Nat → Nat := q_mv (q_mv S (q_gi S s) o) (q_gi S o) s
def q_tau (s o x : Nat) : Nat := if x = o then s else if x = s then o else x
def Wsh (S : Nat → Nat) : Prop := S 3 ≤ 16 ∧ (∀ g, g < S 3 → S (4 + 4 * g) < 30) ∧ q_inj (fun g => S (4 + 4 * g)) (S 3)
theorem q_gin_eq {p p' : Nat → Nat} {n s : Nat} (h : ∀ g, g < n → p' g = p g) : q_gin p' n s = q_gin p n s := by
  induction n with
  | zero => rfl
  | succ n ih =>
    unfold q_gin
    rw [h n (by omega), ih (fun g hg => h g (by omega))]
theorem q_gin_tau {p : Nat → Nat} {n s o x : Nat} : q_gin (fun g => q_tau s o (p g)) n x = q_gin p n (q_tau s o x) := by
  induction n with
  | zero => rfl
  | succ n ih =>
    unfold q_gin
    rw [ih]
    have : q_tau s o (p n) = x ↔ p n = q_tau s o x := by
      unfold q_tau
      repeat' split
      all_goals omega
    simp only [this]
theorem q_mv_3 {S : Nat → Nat} {g : Option Nat} {s k : Nat} (hk : k < 4 ∨ k % 4 ≠ 0) : q_mv S g s k = S k := by
  cases g with
  | none => rfl
  | some g => exact up1_miss (by omega)
theorem q_exS_k {S : Nat → Nat} {s o k : Nat} (hk : k < 4 ∨ k % 4 ≠ 0) : q_exS S s o k = S k := by
  unfold q_exS
  rw [q_mv_3 hk, q_mv_3 hk]
theorem q_mv_hi {S : Nat → Nat} {g : Option Nat} {s k : Nat} (hg : ∀ x, g = some x → x < 16) (hk : 68 ≤ k) : q_mv S g s k = S k := by
  cases g with
  | none => rfl
  | some g =>
    have := hg g rfl
    exact up1_miss (by omega)
theorem q_gi_lt {S : Nat → Nat} {s g : Nat} (h : q_gi S s = some g) : g < S 3 := (q_gin_some h).1
theorem q_exS_hi {S : Nat → Nat} {s o k : Nat} (h3 : S 3 ≤ 16) (hk : 68 ≤ k) : q_exS S s o k = S k := by
  unfold q_exS
  rw [q_mv_hi (fun x hx => Nat.lt_of_lt_of_le (q_gi_lt hx) h3) hk, q_mv_hi (fun x hx => Nat.lt_of_lt_of_le (q_gi_lt hx) h3) hk]
theorem q_exS_pos {S : Nat → Nat} {s o g : Nat} (w : Wsh S) (hg : g < S 3) : q_exS S s o (4 + 4 * g) = q_tau s o (S (4 + 4 * g)) := by
  obtain ⟨w1, w2, w3⟩ := w
  have key : ∀ x, q_gi S x = some g ↔ S (4 + 4 * g) = x := fun x => ⟨fun h => (q_gin_some h).2, fun h => q_gin_of w3 hg h⟩
  have mv : ∀ (T : Nat → Nat) (x : Option Nat) (y : Nat), q_mv T x y (4 + 4 * g) = if x = some g then y else T (4 + 4 * g) := by
    intro T x y
    cases x with
    | none => rfl
    | some z =>
      by_cases e : z = g
      · subst e; simp [q_mv, up1_at]
      · rw [if_neg (by intro h; exact e (Option.some.inj h))]
        exact up1_miss (by omega)
  unfold q_exS q_tau
  rw [mv, mv]
  simp only [key]
theorem q_gi_ex {S : Nat → Nat} {s o x : Nat} (w : Wsh S) : q_gi (q_exS S s o) x = q_gi S (q_tau s o x) := by
  unfold q_gi
  rw [q_exS_k (by omega), ← q_gin_tau]
  exact q_gin_eq fun g hg => q_exS_pos w hg
theorem Wsh_ex {S : Nat → Nat} {s o : Nat} (w : Wsh S) (hs : s < 30) (ho : o < 30) : Wsh (q_exS S s o) := by
  have w' := w
  obtain ⟨w1, w2, w3⟩ := w
  unfold Wsh
  rw [q_exS_k (by omega)]
  refine ⟨w1, fun g hg => ?_, fun g h hg hh e => w3 g h hg hh ?_⟩
  · rw [q_exS_pos w' hg]
    have := w2 g hg
    unfold q_tau
    repeat' split
    all_goals omega
  · dsimp only at e ⊢
    rw [q_exS_pos w' hg, q_exS_pos w' hh] at e
    unfold q_tau at e
    have := w2 g hg
    have := w2 h hh
    by_cases e1 : S (4 + 4 * g) = o
    · rw [if_pos e1] at e
      by_cases e2 : S (4 + 4 * h) = o
      · omega
      · rw [if_neg e2] at e
        split at e <;> omega
    · rw [if_neg e1] at e
      by_cases e2 : S (4 + 4 * h) = o
      · rw [if_pos e2] at e
        split at e <;> omega
      · rw [if_neg e2] at e
        by_cases e3 : S (4 + 4 * g) = s
        · rw [if_pos e3] at e
          split at e <;> omega
        · rw [if_neg e3] at e
          split at e <;> omega
theorem q_mv_comm {S : Nat → Nat} {s o : Nat} : q_mv (q_mv S (q_gi S o) s) (q_gi S s) o = q_exS S s o := by
  unfold q_exS
  by_cases e : s = o
  · subst e; rfl
  · cases h1 : q_gi S s with
    | none => rfl
    | some g =>
      cases h2 : q_gi S o with
      | none => rfl
      | some k =>
        have : g ≠ k := by
          intro e2
          subst e2
          exact e ((q_gin_some h1).2.symm.trans (q_gin_some h2).2)
        funext j
        simp only [q_mv, up1]
        by_cases e1 : j = 4 + 4 * g
        · rw [if_pos e1, if_neg (by omega)]; rw [if_pos e1]
        · rw [if_neg e1]; rw [if_neg e1]
end SHED
