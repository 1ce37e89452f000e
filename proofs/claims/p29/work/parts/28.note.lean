section NOTE
variable {lay : mL} {d a n : Nat} {I : mI} {F : mF} {R : mR} {Q : mP} {S : Nat → Nat} {sp : Nat → UInt32} {hi : List Nat}
theorem s_picked {p b t u q : Nat} (hp : lay p = (10, 0)) (hd : 1 ≤ d) (ht : t < 2147483648) : Ev lay d 39 0 [.ref p, .int (nI b), .int (nI t), .int (nI u), m_rv q] [] I F R n Q ↔ Q none (m_up (m_up (m_up I p 0 (nI b)) p 1 (nI t)) p 2 (nI (if t = 1 then u + 1 else u))) F (m_up R p 3 q) n := by
  rcases Nat.eq_zero_or_pos q with r9 | r9
  · have r9' : m_rv q = .null := by rw [r9]; rfl
    subst r9
    simp (disch := omega) only [e39_0, e39_0N, e39_1, e39_4, e39_4N, e39_5, e39_6, e39_9, e39_9N, e39_10, e39_11, e39_14, e39_14N, e39_15, e39_16, e39_17, e39_20, e39_21, e39_22, e39_23, e39_26, e39_27, e39_30, e39_30N, e39_31, e39_31N, e39_33, e39_33N, e39_36, true_or, m_psh_s, m_psh_n, m_kl_i, m_kl_f, m_kl_r, m_kl_n, m_kl_j, m_kl_l, m_kl_d, c_i, c_f, c_r, c_n, List.length_nil, List.length_cons, true_and, and_true, Nat.reduceAdd, Nat.reduceLeDiff, Nat.reduceSub, Nat.reduceEqDiff, Nat.reduceLT, ge_iff_le, gt_iff_lt, n_lit, m_in, m_nar0, m_nar1, and_self, not_false_eq_true, not_true_eq_false, ne_eq, reduceIte, ite_self, Nat.reduceMul, Nat.reduceDiv, Nat.reduceMod, Nat.reducePow, Nat.zero_add, Nat.add_zero, Nat.one_mul, Nat.mul_one, n_in, n_min, n_clamp, n_eq_t, n_eq_f, n_eq, n_le_t, n_le_f, n_le, n_lt_t, n_lt_f, n_lt, n_sub0, n_sublt, n_suble, n_negsub, m_up_hit, m_up_miss, m_row_hit, m_row_miss, n_eqm, n_meq, n_meqm, n_ltm, n_lem, n_mlt, n_mle, n_sub, n_div, n_and1, n_shl, n_shr, n_inc, n_mul, n_rem, z_lt, z_le, z_nlt, z_nle, Nat.not_lt_zero, Nat.le_zero_eq, Nat.zero_le, if_true, if_false, hp, r9']
    by_cases c : t = 1
    · rw [if_pos c, if_pos c]
    · rw [if_neg c, if_neg c]
  · have r9' := m_rv_p r9
    have r9n : q ≠ 0 := by omega
    simp (disch := omega) only [e39_0, e39_0N, e39_1, e39_4, e39_4N, e39_5, e39_6, e39_9, e39_9N, e39_10, e39_11, e39_14, e39_14N, e39_15, e39_16, e39_17, e39_20, e39_21, e39_22, e39_23, e39_26, e39_27, e39_30, e39_30N, e39_31, e39_31N, e39_33, e39_33N, e39_36, true_or, m_psh_s, m_psh_n, m_kl_i, m_kl_f, m_kl_r, m_kl_n, m_kl_j, m_kl_l, m_kl_d, c_i, c_f, c_r, c_n, List.length_nil, List.length_cons, true_and, and_true, Nat.reduceAdd, Nat.reduceLeDiff, Nat.reduceSub, Nat.reduceEqDiff, Nat.reduceLT, ge_iff_le, gt_iff_lt, n_lit, m_in, m_nar0, m_nar1, and_self, not_false_eq_true, not_true_eq_false, ne_eq, reduceIte, ite_self, Nat.reduceMul, Nat.reduceDiv, Nat.reduceMod, Nat.reducePow, Nat.zero_add, Nat.add_zero, Nat.one_mul, Nat.mul_one, n_in, n_min, n_clamp, n_eq_t, n_eq_f, n_eq, n_le_t, n_le_f, n_le, n_lt_t, n_lt_f, n_lt, n_sub0, n_sublt, n_suble, n_negsub, m_up_hit, m_up_miss, m_row_hit, m_row_miss, n_eqm, n_meq, n_meqm, n_ltm, n_lem, n_mlt, n_mle, n_sub, n_div, n_and1, n_shl, n_shr, n_inc, n_mul, n_rem, z_lt, z_le, z_nlt, z_nle, Nat.not_lt_zero, Nat.le_zero_eq, Nat.zero_le, if_true, if_false, hp, r9', z_ne]
    by_cases c : t = 1
    · rw [if_pos c, if_pos c]
    · rw [if_neg c, if_neg c]
def q_bits (S : Nat → Nat) (b k : Nat) : Nat → Nat := fun i => if (i % 4 = 1 ∨ i % 4 = 2) ∧ 5 ≤ i ∧ i < 4 + 4 * k then S i + b / 2 ^ ((i - 4) / 4) % 2 else S i
def q_day (S : Nat → Nat) (b len : Nat) : Nat → Nat := up1 (up1 (up1 S (71 + 2 * S 69) b) (72 + 2 * S 69) len) 69 (S 69 + 1)
theorem s_add {b len : Nat} (h : CSh lay I F R n a S sp hi) (w1 : S 3 ≤ 16) (hm : S 69 < 12) (ha : a + 13 < 180) (hQ : ∀ I', CSh lay I' F R n a (q_day S b len) sp hi → Off a (a + 13) I F R I' F R → Q none I' F R n) : Ev lay d 40 0 [.ref (a + 8), .int (nI b), .int (nI len)] [] I F R n Q := by
  have h69 := h.2.1 _ _ _ cS_8
  have hA := CSh_1 (v := b) h (cS_9 hm) (by omega) (by omega) w1 ha
  have hB := CSh_1 (v := len) hA (cS_10 hm) (by omega) (by omega) (by rw [up1_miss (by omega)]; exact w1) ha
  have hC := CSh_1 (v := S 69 + 1) hB cS_8 (by omega) (by omega) (by rw [up1_miss (by omega), up1_miss (by omega)]; exact w1) ha
  have key := hQ _ hC (Off_trans (Off_trans (Off_I (by omega) (by omega)) (Off_I (by omega) (by omega))) (Off_I (by omega) (by omega)))
  obtain ⟨hs0, hs1, hs2, hs3, hs4, hs5, hs6, hs7, hs8, hs9, hs10, hs11, hs12, hs13, hs14, hs15, hs16, hs17, hs18, hs19, hs20, hs21, hs22, hs23, hs24, hs25, hs26⟩ := h.1
  simp (disch := omega) only [e40_0, e40_0N, e40_1, e40_4, e40_6, e40_9, e40_9N, e40_10, e40_13, e40_13N, e40_14, e40_17, e40_18, e40_19, e40_19N, e40_20, e40_23, e40_23N, e40_24, e40_27, e40_28, e40_29, e40_29N, e40_30, e40_31, e40_34, e40_35, e40_36, e40_39, true_or, m_psh_s, m_psh_n, m_kl_i, m_kl_f, m_kl_r, m_kl_n, m_kl_j, m_kl_l, m_kl_d, c_i, c_f, c_r, c_n, List.length_nil, List.length_cons, true_and, and_true, Nat.reduceAdd, Nat.reduceLeDiff, Nat.reduceSub, Nat.reduceEqDiff, Nat.reduceLT, ge_iff_le, gt_iff_lt, n_lit, m_in, m_nar0, m_nar1, and_self, not_false_eq_true, not_true_eq_false, ne_eq, reduceIte, ite_self, Nat.reduceMul, Nat.reduceDiv, Nat.reduceMod, Nat.reducePow, Nat.zero_add, Nat.add_zero, Nat.one_mul, Nat.mul_one, n_in, n_min, n_clamp, n_eq_t, n_eq_f, n_eq, n_le_t, n_le_f, n_le, n_lt_t, n_lt_f, n_lt, n_sub0, n_sublt, n_suble, n_negsub, m_up_hit, m_up_miss, m_row_hit, m_row_miss, n_eqm, n_meq, n_meqm, n_ltm, n_lem, n_mlt, n_mle, n_sub, n_div, n_and1, n_shl, n_shr, n_inc, n_mul, n_rem, z_lt, z_le, z_nlt, z_nle, Nat.not_lt_zero, Nat.le_zero_eq, Nat.zero_le, if_true, if_false, hs0, hs1, hs2, hs3, hs4, hs5, hs6, hs7, hs8, hs9, hs10, hs11, hs12, hs13, hs14, hs15, hs16, hs17, hs18, hs19, hs20, hs21, hs22, hs23, hs24, hs25, hs26, h69]
  exact key
theorem q_bits_s {b k : Nat} : up1 (up1 (q_bits S b k) (5 + 4 * k) (q_bits S b k (5 + 4 * k) + b / 2 ^ k % 2)) (6 + 4 * k) (q_bits S b k (6 + 4 * k) + b / 2 ^ k % 2) = q_bits S b (k + 1) := by
  funext i
  unfold up1 q_bits
  by_cases e : i = 5 + 4 * k
  · subst e
    rw [if_neg (by omega), if_pos rfl, if_neg (by omega), if_pos (by omega), show (5 + 4 * k - 4) / 4 = k from by omega]
  · by_cases e1 : i = 6 + 4 * k
    · subst e1
      rw [if_pos rfl, if_neg (by omega), if_pos (by omega), show (6 + 4 * k - 4) / 4 = k from by omega]
    · rw [if_neg e1, if_neg e]
      by_cases e2 : (i % 4 = 1 ∨ i % 4 = 2) ∧ 5 ≤ i ∧ i < 4 + 4 * k
      · rw [if_pos e2, if_pos (by omega)]
      · rw [if_neg e2, if_neg (by omega)]
theorem q_bits_o {b k i : Nat} (h : i < 4 ∨ 4 + 4 * k ≤ i ∨ i % 4 = 0 ∨ i % 4 = 3) : q_bits S b k i = S i := by
  unfold q_bits
  rw [if_neg (by omega)]
theorem s_bits0 {b : Nat} {v2 v4 : Value} (w1 : S 3 ≤ 16) (hb : b < 65536) (ha : a + 13 < 180) (hv4 : m_kl v4 = v4 ∧ ∀ x : Int32, m_kl (.int x) = .int x) (j k : Nat) (hk : k + j = S 3) (h : CSh lay I F R n a (q_bits S b k) sp hi) (hv2 : m_kl v2 = v2) (hQ : ∀ I', CSh lay I' F R n a (q_bits S b (S 3)) sp hi → Off a (a + 13) I F R I' F R → Q none I' F R n) : Ev lay d 36 68 [.ref a, .int (nI b), v2, .int (nI k), v4] [] I F R n Q := by
  have z3 : q_bits S b k 3 = S 3 := q_bits_o (by omega)
  have h3 := CSh_0 h cS_0_11
  rw [z3] at h3
  induction j generalizing k I v4 with
  | zero =>
    have hk2 : k = S 3 := by omega
    subst hk2
    have key := hQ I h Off_refl
    obtain ⟨hs0, hs1, hs2, hs3, hs4, hs5, hs6, hs7, hs8, hs9, hs10, hs11, hs12, hs13, hs14, hs15, hs16, hs17, hs18, hs19, hs20, hs21, hs22, hs23, hs24, hs25, hs26⟩ := h.1
    rw [e36_68]
    simp (disch := omega) only [e36_69, e36_69N, e36_70, e36_73, e36_76, e36_77, e36_78, e36_79, e36_80, e36_81, e36_83, e36_83N, e36_84, e36_87, e36_88, e36_89, e36_90, e36_92, e36_93, e36_94, e36_94N, e36_95, e36_98, e36_99, e36_100, e36_101, e36_103, e36_104, e36_105, e36_108, e36_111, true_or, m_psh_s, m_psh_n, m_kl_i, m_kl_f, m_kl_r, m_kl_n, m_kl_j, m_kl_l, m_kl_d, c_i, c_f, c_r, c_n, List.length_nil, List.length_cons, true_and, and_true, Nat.reduceAdd, Nat.reduceLeDiff, Nat.reduceSub, Nat.reduceEqDiff, Nat.reduceLT, ge_iff_le, gt_iff_lt, n_lit, m_in, m_nar0, m_nar1, and_self, not_false_eq_true, not_true_eq_false, ne_eq, reduceIte, ite_self, Nat.reduceMul, Nat.reduceDiv, Nat.reduceMod, Nat.reducePow, Nat.zero_add, Nat.add_zero, Nat.one_mul, Nat.mul_one, n_in, n_min, n_clamp, n_eq_t, n_eq_f, n_eq, n_le_t, n_le_f, n_le, n_lt_t, n_lt_f, n_lt, n_sub0, n_sublt, n_suble, n_negsub, m_up_hit, m_up_miss, m_row_hit, m_row_miss, n_eqm, n_meq, n_meqm, n_ltm, n_lem, n_mlt, n_mle, n_sub, n_div, n_and1, n_shl, n_shr, n_inc, n_mul, n_rem, z_lt, z_le, z_nlt, z_nle, Nat.not_lt_zero, Nat.le_zero_eq, Nat.zero_le, if_true, if_false, hs0, hs1, hs2, hs3, hs4, hs5, hs6, hs7, hs8, hs9, hs10, hs11, hs12, hs13, hs14, hs15, hs16, hs17, hs18, hs19, hs20, hs21, hs22, hs23, hs24, hs25, hs26, h3]
    exact key
  | succ j ih =>
    have p5 := h.2.1 _ _ _ (cS_5 (k := k) (by omega))
    have p6 := h.2.1 _ _ _ (cS_6 (k := k) (by omega))
    have hA := CSh_1 (v := q_bits S b k (5 + 4 * k) + b / 2 ^ k % 2) h (cS_5 (k := k) (by omega)) (by omega) (by omega) (by rw [z3]; exact w1) ha
    have hB := CSh_1 (v := q_bits S b k (6 + 4 * k) + b / 2 ^ k % 2) hA (cS_6 (k := k) (by omega)) (by omega) (by omega) (by rw [up1_miss (by omega), z3]; exact w1) ha
    rw [q_bits_s] at hB
    have key := ih (v4 := .int (nI (b / 2 ^ k % 2))) ⟨rfl, fun _ => rfl⟩ (k + 1) (by omega) hB (fun I' h1 h2 => hQ I' h1 (Off_trans (Off_trans (Off_I (by omega) (by omega)) (Off_I (by omega) (by omega))) h2)) (q_bits_o (by omega)) (by rw [m_up_miss (by omega), m_up_miss (by omega)]; exact h3)
    obtain ⟨hs0, hs1, hs2, hs3, hs4, hs5, hs6, hs7, hs8, hs9, hs10, hs11, hs12, hs13, hs14, hs15, hs16, hs17, hs18, hs19, hs20, hs21, hs22, hs23, hs24, hs25, hs26⟩ := h.1
    rw [e36_68]
    simp (disch := omega) only [e36_69, e36_69N, e36_70, e36_73, e36_76, e36_77, e36_78, e36_79, e36_80, e36_81, e36_83, e36_83N, e36_84, e36_87, e36_88, e36_89, e36_90, e36_92, e36_93, e36_94, e36_94N, e36_95, e36_98, e36_99, e36_100, e36_101, e36_103, e36_104, e36_105, e36_108, e36_111, true_or, m_psh_s, m_psh_n, m_kl_i, m_kl_f, m_kl_r, m_kl_n, m_kl_j, m_kl_l, m_kl_d, c_i, c_f, c_r, c_n, List.length_nil, List.length_cons, true_and, and_true, Nat.reduceAdd, Nat.reduceLeDiff, Nat.reduceSub, Nat.reduceEqDiff, Nat.reduceLT, ge_iff_le, gt_iff_lt, n_lit, m_in, m_nar0, m_nar1, and_self, not_false_eq_true, not_true_eq_false, ne_eq, reduceIte, ite_self, Nat.reduceMul, Nat.reduceDiv, Nat.reduceMod, Nat.reducePow, Nat.zero_add, Nat.add_zero, Nat.one_mul, Nat.mul_one, n_in, n_min, n_clamp, n_eq_t, n_eq_f, n_eq, n_le_t, n_le_f, n_le, n_lt_t, n_lt_f, n_lt, n_sub0, n_sublt, n_suble, n_negsub, m_up_hit, m_up_miss, m_row_hit, m_row_miss, n_eqm, n_meq, n_meqm, n_ltm, n_lem, n_mlt, n_mle, n_sub, n_div, n_and1, n_shl, n_shr, n_inc, n_mul, n_rem, z_lt, z_le, z_nlt, z_nle, Nat.not_lt_zero, Nat.le_zero_eq, Nat.zero_le, if_true, if_false, hs0, hs1, hs2, hs3, hs4, hs5, hs6, hs7, hs8, hs9, hs10, hs11, hs12, hs13, hs14, hs15, hs16, hs17, hs18, hs19, hs20, hs21, hs22, hs23, hs24, hs25, hs26, h3, p5, p6, hv2]
    exact key
/-- what stays below n outside of a .. b -/
def Of2 (a b n : Nat) (I : mI) (F : mF) (R : mR) (I' : mI) (F' : mF) (R' : mR) : Prop := ∀ x, x < n → (x < a ∨ b < x) → I' x = I x ∧ F' x = F x ∧ R' x = R x
theorem Off_2 {a b n : Nat} {I' : mI} {F' : mF} {R' : mR} (h : Off a b I F R I' F' R') : Of2 a b n I F R I' F' R' := fun x _ hx => h x hx
theorem Of2_trans {a b n n' : Nat} {I' I'' : mI} {F' F'' : mF} {R' R'' : mR} (h : Of2 a b n I F R I' F' R') (h' : Of2 a b n' I' F' R' I'' F'' R'') (hn : n ≤ n') : Of2 a b n I F R I'' F'' R'' := fun x h1 hx => ⟨(h' x (by omega) hx).1.trans (h x h1 hx).1, (h' x (by omega) hx).2.1.trans (h x h1 hx).2.1, (h' x (by omega) hx).2.2.trans (h x h1 hx).2.2⟩
theorem Of2_wide {a b a' b' n : Nat} {I' : mI} {F' : mF} {R' : mR} (h : Of2 a b n I F R I' F' R') (ha : a' ≤ a) (hb : b ≤ b') : Of2 a' b' n I F R I' F' R' := fun x h1 hx => h x h1 (by omega)
theorem CSh_of2 {I' : mI} {F' : mF} {R' : mR} {n' lo hi' : Nat} (h : CSh lay I F R n a S sp hi) (ho : Of2 lo hi' n I F R I' F' R') (hd : a + 13 < lo ∨ hi' < a) (hn : n ≤ n') (h180 : hi' < 180) (ha : a + 13 < n) : CSh lay I' F' R' n' a S sp hi := by
  obtain ⟨h1, h2, h3, h4, h5, h6⟩ := h
  have hx : ∀ x, x < 14 → I' (a + x) = I (a + x) ∧ F' (a + x) = F (a + x) ∧ R' (a + x) = R (a + x) := fun x hx => ho (a + x) (by omega) (by omega)
  refine ⟨ISh_off h1 (fun x k h7 h8 _ => ?_), CC_off h2 (fun x k i h7 => ?_), fun s hs => ?_, fun g hg => ?_, ?_, ?_⟩
  · have := (hx (x - a) (by omega)).2.2
    rw [show a + (x - a) = x from by omega] at this
    rw [this]
  · rw [(hx x (cS_lt h7).1).1]
  · rw [(hx 3 (by omega)).1]; exact h3 s hs
  · rw [(hx 4 (by omega)).2.1]; exact h4 g hg
  · have := (hx 0 (by omega)).2.2
    rw [Nat.add_zero] at this
    rw [this]
    exact Cch_off h5 hn (fun p hp h8 => ⟨(ho p h8 (by omega)).1, (ho p h8 (by omega)).2.2⟩)
  · have := (hx 0 (by omega)).1
    rw [Nat.add_zero] at this
    rw [this]; exact h6
end NOTE
