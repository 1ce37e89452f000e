section TAKE
variable {lay : mL} {d a n n' : Nat} {I I' : mI} {F F' : mF} {R R' : mR} {Q : mP} {pl : Nat} {pc : Nat → Nat}
/-- the pad's references -/
def PLy (lay : mL) (R : mR) : Prop := lay 33 = (9, 0) ∧ lay 34 = (3, 80) ∧ m_rv (R 33 0) = .ref 34
/-- the pad, read up to at -/
def PA (I : mI) (pl : Nat) (pc : Nat → Nat) (s : Nat) : Prop := PD I pl pc ∧ I 33 2 = nI s
theorem PA_up {s t : Nat} (h : PA I pl pc s) : PA (m_up I 33 2 (nI t)) pl pc t := by
  obtain ⟨⟨h1, h2, h3⟩, h4⟩ := h
  exact ⟨⟨by rw [m_up_miss (by omega)]; exact h1, h2, fun k hk => by rw [m_up_miss (by omega)]; exact h3 k hk⟩, m_up_at⟩
theorem s_takeLetter {s : Nat} (hl : PLy lay R) (h : PA I pl pc s) (hs : s < pl) (hQ : ∀ I', PA I' pl pc (s + 1) → Off 33 33 I F R I' F R → Q (some (.int (nI (pc s)))) I' F R n) (hp : pc s < 256) : Ev lay d 88 0 [.ref 33, m_j] [] I F R n Q := by
  have key := hQ _ (PA_up (t := s + 1) h) (Off_I (by omega) (by omega))
  obtain ⟨l1, l2, l3⟩ := hl
  obtain ⟨⟨h1, h2, h3⟩, h4⟩ := h
  have p := h3 s hs
  have n1 := ch_nar hp
  simp (disch := omega) only [e88_0, e88_0N, e88_1, e88_4, e88_4N, e88_5, e88_8, e88_11, e88_13, e88_14, e88_14N, e88_15, e88_18, e88_18N, e88_19, e88_22, e88_23, e88_24, e88_24N, e88_25, e88_26, e88_29, e88_30, e88_31, e88_34, e88_35, true_or, m_psh_s, m_psh_n, m_kl_i, m_kl_f, m_kl_r, m_kl_n, m_kl_j, m_kl_l, m_kl_d, c_i, c_f, c_r, c_n, List.length_nil, List.length_cons, true_and, and_true, Nat.reduceAdd, Nat.reduceLeDiff, Nat.reduceSub, Nat.reduceEqDiff, Nat.reduceLT, ge_iff_le, gt_iff_lt, n_lit, m_in, m_nar0, m_nar1, and_self, not_false_eq_true, not_true_eq_false, ne_eq, reduceIte, ite_self, Nat.reduceMul, Nat.reduceDiv, Nat.reduceMod, Nat.reducePow, Nat.zero_add, Nat.add_zero, Nat.one_mul, Nat.mul_one, n_in, n_min, n_clamp, n_eq_t, n_eq_f, n_eq, n_le_t, n_le_f, n_le, n_lt_t, n_lt_f, n_lt, n_sub0, n_sublt, n_suble, n_negsub, m_up_hit, m_up_miss, m_row_hit, m_row_miss, n_eqm, n_meq, n_meqm, n_ltm, n_lem, n_mlt, n_mle, n_sub, n_div, n_and1, n_shl, n_shr, n_inc, n_mul, n_rem, z_lt, z_le, z_nlt, z_nle, Nat.not_lt_zero, Nat.le_zero_eq, Nat.zero_le, if_true, if_false, l1, l2, l3, h1, h4, p, n1]
  exact key
theorem s_passes {s x : Nat} (hl : PLy lay R) (h : PA I pl pc s) (hs : s ≤ pl) (hp : padOK pl pc) (hx : x < 128) (hQ : ∀ I', PA I' pl pc (if s < pl ∧ pc s = x then s + 1 else s) → Off 33 33 I F R I' F R → Q (some (.int (nI (if s < pl ∧ pc s = x then 1 else 0)))) I' F R n) : Ev lay d 91 0 [.ref 33, .int (nI x), m_j] [] I F R n Q := by
  obtain ⟨l1, l2, l3⟩ := hl
  have h' := h
  obtain ⟨⟨h1, h2, h3⟩, h4⟩ := h
  by_cases c : s < pl
  · have p := h3 s c
    have p2 := hp s c
    by_cases c2 : pc s = x
    · rw [if_pos ⟨c, c2⟩, if_pos ⟨c, c2⟩] at hQ
      have key := hQ _ (PA_up (t := s + 1) h') (Off_I (by omega) (by omega))
      simp (disch := omega) only [e91_0, e91_0N, e91_1, e91_4, e91_4N, e91_5, e91_8, e91_11, e91_11N, e91_12, e91_15, e91_15N, e91_16, e91_19, e91_20, e91_21, e91_24, e91_25, e91_28, e91_29, e91_30, e91_31, e91_34, e91_34N, e91_35, e91_36, e91_39, e91_40, e91_41, e91_44, e91_45, true_or, m_psh_s, m_psh_n, m_kl_i, m_kl_f, m_kl_r, m_kl_n, m_kl_j, m_kl_l, m_kl_d, c_i, c_f, c_r, c_n, List.length_nil, List.length_cons, true_and, and_true, Nat.reduceAdd, Nat.reduceLeDiff, Nat.reduceSub, Nat.reduceEqDiff, Nat.reduceLT, ge_iff_le, gt_iff_lt, n_lit, m_in, m_nar0, m_nar1, and_self, not_false_eq_true, not_true_eq_false, ne_eq, reduceIte, ite_self, Nat.reduceMul, Nat.reduceDiv, Nat.reduceMod, Nat.reducePow, Nat.zero_add, Nat.add_zero, Nat.one_mul, Nat.mul_one, n_in, n_min, n_clamp, n_eq_t, n_eq_f, n_eq, n_le_t, n_le_f, n_le, n_lt_t, n_lt_f, n_lt, n_sub0, n_sublt, n_suble, n_negsub, m_up_hit, m_up_miss, m_row_hit, m_row_miss, n_eqm, n_meq, n_meqm, n_ltm, n_lem, n_mlt, n_mle, n_sub, n_div, n_and1, n_shl, n_shr, n_inc, n_mul, n_rem, z_lt, z_le, z_nlt, z_nle, Nat.not_lt_zero, Nat.le_zero_eq, Nat.zero_le, if_true, if_false, l1, l2, l3, h1, h4, p]
      exact key
    · rw [if_neg (fun z => c2 z.2), if_neg (fun z => c2 z.2)] at hQ
      have key := hQ I h' Off_refl
      simp (disch := omega) only [e91_0, e91_0N, e91_1, e91_4, e91_4N, e91_5, e91_8, e91_11, e91_11N, e91_12, e91_15, e91_15N, e91_16, e91_19, e91_20, e91_21, e91_24, e91_25, e91_28, e91_29, e91_30, e91_31, e91_34, e91_34N, e91_35, e91_36, e91_39, e91_40, e91_41, e91_44, e91_45, true_or, m_psh_s, m_psh_n, m_kl_i, m_kl_f, m_kl_r, m_kl_n, m_kl_j, m_kl_l, m_kl_d, c_i, c_f, c_r, c_n, List.length_nil, List.length_cons, true_and, and_true, Nat.reduceAdd, Nat.reduceLeDiff, Nat.reduceSub, Nat.reduceEqDiff, Nat.reduceLT, ge_iff_le, gt_iff_lt, n_lit, m_in, m_nar0, m_nar1, and_self, not_false_eq_true, not_true_eq_false, ne_eq, reduceIte, ite_self, Nat.reduceMul, Nat.reduceDiv, Nat.reduceMod, Nat.reducePow, Nat.zero_add, Nat.add_zero, Nat.one_mul, Nat.mul_one, n_in, n_min, n_clamp, n_eq_t, n_eq_f, n_eq, n_le_t, n_le_f, n_le, n_lt_t, n_lt_f, n_lt, n_sub0, n_sublt, n_suble, n_negsub, m_up_hit, m_up_miss, m_row_hit, m_row_miss, n_eqm, n_meq, n_meqm, n_ltm, n_lem, n_mlt, n_mle, n_sub, n_div, n_and1, n_shl, n_shr, n_inc, n_mul, n_rem, z_lt, z_le, z_nlt, z_nle, Nat.not_lt_zero, Nat.le_zero_eq, Nat.zero_le, if_true, if_false, l1, l2, l3, h1, h4, p]
      exact key
  · rw [if_neg (fun z => c z.1), if_neg (fun z => c z.1)] at hQ
    have key := hQ I h' Off_refl
    simp (disch := omega) only [e91_0, e91_0N, e91_1, e91_4, e91_4N, e91_5, e91_8, e91_11, e91_11N, e91_12, e91_15, e91_15N, e91_16, e91_19, e91_20, e91_21, e91_24, e91_25, e91_28, e91_29, e91_30, e91_31, e91_34, e91_34N, e91_35, e91_36, e91_39, e91_40, e91_41, e91_44, e91_45, true_or, m_psh_s, m_psh_n, m_kl_i, m_kl_f, m_kl_r, m_kl_n, m_kl_j, m_kl_l, m_kl_d, c_i, c_f, c_r, c_n, List.length_nil, List.length_cons, true_and, and_true, Nat.reduceAdd, Nat.reduceLeDiff, Nat.reduceSub, Nat.reduceEqDiff, Nat.reduceLT, ge_iff_le, gt_iff_lt, n_lit, m_in, m_nar0, m_nar1, and_self, not_false_eq_true, not_true_eq_false, ne_eq, reduceIte, ite_self, Nat.reduceMul, Nat.reduceDiv, Nat.reduceMod, Nat.reducePow, Nat.zero_add, Nat.add_zero, Nat.one_mul, Nat.mul_one, n_in, n_min, n_clamp, n_eq_t, n_eq_f, n_eq, n_le_t, n_le_f, n_le, n_lt_t, n_lt_f, n_lt, n_sub0, n_sublt, n_suble, n_negsub, m_up_hit, m_up_miss, m_row_hit, m_row_miss, n_eqm, n_meq, n_meqm, n_ltm, n_lem, n_mlt, n_mle, n_sub, n_div, n_and1, n_shl, n_shr, n_inc, n_mul, n_rem, z_lt, z_le, z_nlt, z_nle, Nat.not_lt_zero, Nat.le_zero_eq, Nat.zero_le, if_true, if_false, l1, l2, l3, h1, h4]
    exact key
theorem s_num1 {s k : Nat} (hl : PLy lay R) (h : PA I pl pc s) (hp : padOK pl pc) (hs : s ≤ pl) (hd : 1 ≤ d) : Ev lay d 89 2 [.ref 33, .int (nI k)] [] I F R n Q ↔ if q_dig pl pc s then Ev lay d 89 2 [.ref 33, .int (nI (k * 10 + (pc s - 48)))] [] (m_up I 33 2 (nI (s + 1))) F R n Q else Q (some (.int (nI k))) I F R n := by
  obtain ⟨l1, l2, l3⟩ := hl
  obtain ⟨⟨h1, h2, h3⟩, h4⟩ := h
  have kd : ∀ (x d : Nat) (Q : mP), x < 2147483648 → _ := fun x d Q hx => s_isDigit (lay := lay) (d := d) (I := I) (F := F) (R := R) (n := n) (Q := Q) (x := x) hx
  by_cases c : s < pl
  · have p := h3 s c
    have p2 := hp s c
    have kd' := fun d Q => kd (pc s) d Q (by omega)
    by_cases c2 : q_dig pl pc s
    · rw [if_pos c2]
      have c3 : 48 ≤ pc s ∧ pc s ≤ 57 := c2.2
      rw [if_pos c3] at kd'
      rw [e89_2]
      simp (disch := omega) only [e89_3, e89_6, e89_6N, e89_7, e89_10, e89_13, e89_13N, e89_14, e89_17, e89_17N, e89_18, e89_21, e89_22, e89_25, e89_28, e89_29, e89_31, e89_32, e89_32N, e89_33, e89_36, e89_36N, e89_37, e89_40, e89_41, e89_43, e89_44, e89_45, e89_46, e89_46N, e89_47, e89_48, e89_51, e89_52, e89_53, e89_56, e89_59, e89_60, true_or, m_psh_s, m_psh_n, m_kl_i, m_kl_f, m_kl_r, m_kl_n, m_kl_j, m_kl_l, m_kl_d, c_i, c_f, c_r, c_n, List.length_nil, List.length_cons, true_and, and_true, Nat.reduceAdd, Nat.reduceLeDiff, Nat.reduceSub, Nat.reduceEqDiff, Nat.reduceLT, ge_iff_le, gt_iff_lt, n_lit, m_in, m_nar0, m_nar1, and_self, not_false_eq_true, not_true_eq_false, ne_eq, reduceIte, ite_self, Nat.reduceMul, Nat.reduceDiv, Nat.reduceMod, Nat.reducePow, Nat.zero_add, Nat.add_zero, Nat.one_mul, Nat.mul_one, n_in, n_min, n_clamp, n_eq_t, n_eq_f, n_eq, n_le_t, n_le_f, n_le, n_lt_t, n_lt_f, n_lt, n_sub0, n_sublt, n_suble, n_negsub, m_up_hit, m_up_miss, m_row_hit, m_row_miss, n_eqm, n_meq, n_meqm, n_ltm, n_lem, n_mlt, n_mle, n_sub, n_div, n_and1, n_shl, n_shr, n_inc, n_mul, n_rem, z_lt, z_le, z_nlt, z_nle, Nat.not_lt_zero, Nat.le_zero_eq, Nat.zero_le, if_true, if_false, l1, l2, l3, h1, h4, p, kd']
    · rw [if_neg c2]
      have c3 : ¬ (48 ≤ pc s ∧ pc s ≤ 57) := fun z => c2 ⟨c, z⟩
      rw [if_neg c3] at kd'
      rw [e89_2]
      simp (disch := omega) only [e89_3, e89_6, e89_6N, e89_7, e89_10, e89_13, e89_13N, e89_14, e89_17, e89_17N, e89_18, e89_21, e89_22, e89_25, e89_28, e89_29, e89_31, e89_32, e89_32N, e89_33, e89_36, e89_36N, e89_37, e89_40, e89_41, e89_43, e89_44, e89_45, e89_46, e89_46N, e89_47, e89_48, e89_51, e89_52, e89_53, e89_56, e89_59, e89_60, true_or, m_psh_s, m_psh_n, m_kl_i, m_kl_f, m_kl_r, m_kl_n, m_kl_j, m_kl_l, m_kl_d, c_i, c_f, c_r, c_n, List.length_nil, List.length_cons, true_and, and_true, Nat.reduceAdd, Nat.reduceLeDiff, Nat.reduceSub, Nat.reduceEqDiff, Nat.reduceLT, ge_iff_le, gt_iff_lt, n_lit, m_in, m_nar0, m_nar1, and_self, not_false_eq_true, not_true_eq_false, ne_eq, reduceIte, ite_self, Nat.reduceMul, Nat.reduceDiv, Nat.reduceMod, Nat.reducePow, Nat.zero_add, Nat.add_zero, Nat.one_mul, Nat.mul_one, n_in, n_min, n_clamp, n_eq_t, n_eq_f, n_eq, n_le_t, n_le_f, n_le, n_lt_t, n_lt_f, n_lt, n_sub0, n_sublt, n_suble, n_negsub, m_up_hit, m_up_miss, m_row_hit, m_row_miss, n_eqm, n_meq, n_meqm, n_ltm, n_lem, n_mlt, n_mle, n_sub, n_div, n_and1, n_shl, n_shr, n_inc, n_mul, n_rem, z_lt, z_le, z_nlt, z_nle, Nat.not_lt_zero, Nat.le_zero_eq, Nat.zero_le, if_true, if_false, l1, l2, l3, h1, h4, p, kd']
  · rw [if_neg (fun z => c z.1)]
    rw [e89_2]
    simp (disch := omega) only [e89_3, e89_6, e89_6N, e89_7, e89_10, e89_13, e89_13N, e89_14, e89_17, e89_17N, e89_18, e89_21, e89_22, e89_25, e89_28, e89_29, e89_31, e89_32, e89_32N, e89_33, e89_36, e89_36N, e89_37, e89_40, e89_41, e89_43, e89_44, e89_45, e89_46, e89_46N, e89_47, e89_48, e89_51, e89_52, e89_53, e89_56, e89_59, e89_60, true_or, m_psh_s, m_psh_n, m_kl_i, m_kl_f, m_kl_r, m_kl_n, m_kl_j, m_kl_l, m_kl_d, c_i, c_f, c_r, c_n, List.length_nil, List.length_cons, true_and, and_true, Nat.reduceAdd, Nat.reduceLeDiff, Nat.reduceSub, Nat.reduceEqDiff, Nat.reduceLT, ge_iff_le, gt_iff_lt, n_lit, m_in, m_nar0, m_nar1, and_self, not_false_eq_true, not_true_eq_false, ne_eq, reduceIte, ite_self, Nat.reduceMul, Nat.reduceDiv, Nat.reduceMod, Nat.reducePow, Nat.zero_add, Nat.add_zero, Nat.one_mul, Nat.mul_one, n_in, n_min, n_clamp, n_eq_t, n_eq_f, n_eq, n_le_t, n_le_f, n_le, n_lt_t, n_lt_f, n_lt, n_sub0, n_sublt, n_suble, n_negsub, m_up_hit, m_up_miss, m_row_hit, m_row_miss, n_eqm, n_meq, n_meqm, n_ltm, n_lem, n_mlt, n_mle, n_sub, n_div, n_and1, n_shl, n_shr, n_inc, n_mul, n_rem, z_lt, z_le, z_nlt, z_nle, Nat.not_lt_zero, Nat.le_zero_eq, Nat.zero_le, if_true, if_false, l1, l2, l3, h1, h4]
theorem s_takeNumber {s v t : Nat} (hl : PLy lay R) (h : PA I pl pc s) (hp : padOK pl pc) (hs : s ≤ pl) (hd : 1 ≤ d) (hv : q_nm pl pc s = .inr (v, t)) (ht : ¬ q_dig pl pc t) (hQ : ∀ I', PA I' pl pc t → Off 33 33 I F R I' F R → Q (some (.int (nI v))) I' F R n) : Ev lay d 89 0 [.ref 33, m_j] [] I F R n Q := by
  have P1 := PA_up (t := s + 1) h
  have P2 := PA_up (t := s + 2) P1
  simp (disch := omega) only [e89_0, e89_1, true_or, m_psh_s, m_psh_n, m_kl_i, m_kl_f, m_kl_r, m_kl_n, m_kl_j, m_kl_l, m_kl_d, c_i, c_f, c_r, c_n, List.length_nil, List.length_cons, true_and, and_true, Nat.reduceAdd, Nat.reduceLeDiff, Nat.reduceSub, Nat.reduceEqDiff, Nat.reduceLT, ge_iff_le, gt_iff_lt, n_lit, m_in, m_nar0, m_nar1, and_self, not_false_eq_true, not_true_eq_false, ne_eq, reduceIte, ite_self, Nat.reduceMul, Nat.reduceDiv, Nat.reduceMod, Nat.reducePow, Nat.zero_add, Nat.add_zero, Nat.one_mul, Nat.mul_one, n_in, n_min, n_clamp, n_eq_t, n_eq_f, n_eq, n_le_t, n_le_f, n_le, n_lt_t, n_lt_f, n_lt, n_sub0, n_sublt, n_suble, n_negsub, m_up_hit, m_up_miss, m_row_hit, m_row_miss, n_eqm, n_meq, n_meqm, n_ltm, n_lem, n_mlt, n_mle, n_sub, n_div, n_and1, n_shl, n_shr, n_inc, n_mul, n_rem, z_lt, z_le, z_nlt, z_nle, Nat.not_lt_zero, Nat.le_zero_eq, Nat.zero_le, if_true, if_false]
  rw [s_num1 hl h hp hs hd]
  unfold q_nm at hv
  by_cases c : q_dig pl pc s
  · rw [if_pos c] at hv ⊢
    rw [s_num1 hl P1 hp (by omega) hd]
    by_cases c2 : pc s = 48
    · rw [if_pos c2] at hv
      cases hv
      rw [if_neg ht, c2]
      exact hQ _ P1 (Off_I (by omega) (by omega))
    · rw [if_neg c2] at hv
      by_cases c3 : q_dig pl pc (s + 1)
      · rw [if_pos c3] at hv ⊢
        cases hv
        rw [s_num1 hl P2 hp (by omega) hd, if_neg ht]
        have key := hQ _ P2 (Off_trans (Off_I (by omega) (by omega)) (Off_I (by omega) (by omega)))
        rw [show (0 * 10 + (pc s - 48)) * 10 + (pc (s + 1) - 48) = 10 * (pc s - 48) + (pc (s + 1) - 48) by omega]
        exact key
      · rw [if_neg c3] at hv ⊢
        cases hv
        rw [show 0 * 10 + (pc s - 48) = pc s - 48 by omega]
        exact hQ _ P1 (Off_I (by omega) (by omega))
  · rw [if_neg c] at hv
    cases hv
/-- behind a number of a text that holds stands no digit -/
theorem ff_nd {s mk me : Nat} (hs : s ≤ pl) (hm : mk < 48) (h : ff pl pc s (3, mk, me) = none) : ¬ q_dig pl pc s := by
  intro c
  rw [ff_mark hs, if_pos c.1, if_neg (by omega), if_neg (by omega)] at h
  cases h
theorem ff_num_some {s mk me : Nat} (hs : s ≤ pl) (h : ff pl pc s (1, mk, me) = none) : ∃ v t, q_nm pl pc s = .inr (v, t) ∧ ff pl pc t (3, mk, me) = none := by
  rw [ff_num hs] at h
  cases e : q_nm pl pc s with
  | inl p => rw [e] at h; cases h
  | inr x =>
    obtain ⟨v, t⟩ := x
    rw [e] at h
    exact ⟨v, t, rfl, h⟩
def q_W (w : Nat) : Nat := if w = 1 then 65536 else 0
theorem q_bk_b (f : Nat) : ∀ s t w t' w' s1, t < 65536 → w ≤ 1 → q_bk pl pc f s t w = .inr (t', w', s1) → t' < 65536 ∧ w' ≤ 1 := by
  induction f with
  | zero => intro s t w t' w' s1 _ _ h; cases h
  | succ f ih =>
    intro s t w t' w' s1 ht hw h
    rw [q_bk] at h
    cases e : q_nm pl pc s with
    | inl p => rw [e] at h; cases h
    | inr vt =>
      obtain ⟨v, s2⟩ := vt
      rw [e] at h
      have h1 : (if v < 16 then t ||| 2 ^ v else t) < 65536 := by
        split
        · rename_i c
          exact Nat.or_lt_two_pow (n := 16) ht (Nat.pow_lt_pow_right (by decide) c)
        · exact ht
      have h2 : (if v < 16 then w else 1) ≤ 1 := by split <;> omega
      dsimp only at h
      split at h
      · exact ih _ _ _ _ _ _ h1 h2 h
      · cases h; exact ⟨h1, h2⟩
theorem q_W_s {t w v : Nat} (hw : w ≤ 1) : (if v < 16 then t ||| 2 ^ v else t) ||| q_W (if v < 16 then w else 1) = t ||| q_W w ||| 2 ^ (if v < 16 then v else 16) := by
  by_cases c : v < 16
  · rw [if_pos c, if_pos c, if_pos c, Nat.or_assoc, Nat.or_assoc, Nat.or_comm (2 ^ v)]
  · rw [if_neg c, if_neg c, if_neg c, Nat.or_assoc]
    congr 1
    have : w = 0 ∨ w = 1 := by omega
    rcases this with rfl | rfl <;> rfl
theorem s_bask0 (hl : PLy lay R) (hp : padOK pl pc) (h80 : pl ≤ 80) (hd : 2 ≤ d) (f : Nat) : ∀ (s t w k t' w' s1 : Nat) (I : mI), PA I pl pc s → s ≤ pl → 2 * k ≤ s → t < 65536 → w ≤ 1 → ff pl pc s (1, 44, 1) = none → q_bk pl pc f s t w = .inr (t', w', s1) → (∀ I', PA I' pl pc s1 → Off 33 33 I F R I' F R → Q (some (.int (nI (t' ||| q_W w')))) I' F R n) → Ev lay d 90 6 [.ref 33, .int (nI (t ||| q_W w)), .int (nI 1), .int (nI k)] [] I F R n Q := by
  have l1 := hl.1
  induction f with
  | zero => intro s t w k t' w' s1 I _ _ _ _ _ _ h; cases h
  | succ f ih =>
    intro s t w k t' w' s1 I hP hs hk ht hw hf h hQ
    obtain ⟨v, s2, e, hf2⟩ := ff_num_some hs hf
    have e1 := q_nm_lt e
    have nd := ff_nd (by omega) (by omega) hf2
    have kn : ∀ (Q : mP), _ → _ := fun Q hQ => s_takeNumber (d := d - 1) (F := F) (n := n) (Q := Q) hl hP hp hs (by omega) e nd hQ
    rw [q_bk, e] at h
    dsimp only at h
    rw [e90_6]
    simp (disch := omega) only [e90_7, e90_10, e90_11, e90_13, e90_16, e90_17, e90_18, e90_18N, e90_19, true_or, m_psh_s, m_psh_n, m_kl_i, m_kl_f, m_kl_r, m_kl_n, m_kl_j, m_kl_l, m_kl_d, c_i, c_f, c_r, c_n, List.length_nil, List.length_cons, true_and, and_true, Nat.reduceAdd, Nat.reduceLeDiff, Nat.reduceSub, Nat.reduceEqDiff, Nat.reduceLT, ge_iff_le, gt_iff_lt, n_lit, m_in, m_nar0, m_nar1, and_self, not_false_eq_true, not_true_eq_false, ne_eq, reduceIte, ite_self, Nat.reduceMul, Nat.reduceDiv, Nat.reduceMod, Nat.reducePow, Nat.zero_add, Nat.add_zero, Nat.one_mul, Nat.mul_one, n_in, n_min, n_clamp, n_eq_t, n_eq_f, n_eq, n_le_t, n_le_f, n_le, n_lt_t, n_lt_f, n_lt, n_sub0, n_sublt, n_suble, n_negsub, m_up_hit, m_up_miss, m_row_hit, m_row_miss, n_eqm, n_meq, n_meqm, n_ltm, n_lem, n_mlt, n_mle, n_sub, n_div, n_and1, n_shl, n_shr, n_inc, n_mul, n_rem, z_lt, z_le, z_nlt, z_nle, Nat.not_lt_zero, Nat.le_zero_eq, Nat.zero_le, if_true, if_false, l1]
    apply kn
    intro I1 P1 o1
    have kp : ∀ (Q : mP), _ → _ := fun Q hQ => s_passes (d := d - 1) (x := 44) (F := F) (n := n) (Q := Q) hl P1 (by omega) hp (by omega) hQ
    have emin : (if 16 < v then 16 else v) = if v < 16 then v else 16 := by
      by_cases c : v < 16
      · rw [if_neg (by omega), if_pos c]
      · rw [if_neg c]
        split <;> omega
    have hm16 : (if v < 16 then v else 16) ≤ 16 := by split <;> omega
    have esh : nI 1 <<< (nI (if v < 16 then v else 16) &&& nI 31) = nI (2 ^ (if v < 16 then v else 16)) := by
      have h2 : (2 : Nat) ^ (if v < 16 then v else 16) ≤ 2 ^ 16 := Nat.pow_le_pow_right (by decide) hm16
      have := n_shl (x := 1) (k := if v < 16 then v else 16) (by omega) (by omega)
      rw [Nat.one_mul] at this
      exact this
    have go : ∀ (B : Int32), B = nI (t ||| q_W w ||| 2 ^ (if v < 16 then v else 16)) → Ev lay d 90 29 [.ref 33, .int (nI (t ||| q_W w)), .int (nI 1), .int (nI k)] [.int B] I1 F R n Q := by
      intro B hB
      rw [← q_W_s hw] at hB
      subst hB
      simp (disch := omega) only [e90_29, e90_30, e90_30N, e90_31, e90_33, true_or, m_psh_s, m_psh_n, m_kl_i, m_kl_f, m_kl_r, m_kl_n, m_kl_j, m_kl_l, m_kl_d, c_i, c_f, c_r, c_n, List.length_nil, List.length_cons, true_and, and_true, Nat.reduceAdd, Nat.reduceLeDiff, Nat.reduceSub, Nat.reduceEqDiff, Nat.reduceLT, ge_iff_le, gt_iff_lt, n_lit, m_in, m_nar0, m_nar1, and_self, not_false_eq_true, not_true_eq_false, ne_eq, reduceIte, ite_self, Nat.reduceMul, Nat.reduceDiv, Nat.reduceMod, Nat.reducePow, Nat.zero_add, Nat.add_zero, Nat.one_mul, Nat.mul_one, n_in, n_min, n_clamp, n_eq_t, n_eq_f, n_eq, n_le_t, n_le_f, n_le, n_lt_t, n_lt_f, n_lt, n_sub0, n_sublt, n_suble, n_negsub, m_up_hit, m_up_miss, m_row_hit, m_row_miss, n_eqm, n_meq, n_meqm, n_ltm, n_lem, n_mlt, n_mle, n_sub, n_div, n_and1, n_shl, n_shr, n_inc, n_mul, n_rem, z_lt, z_le, z_nlt, z_nle, Nat.not_lt_zero, Nat.le_zero_eq, Nat.zero_le, if_true, if_false, l1]
      apply kp
      intro I2 P2 o2
      by_cases c : s2 < pl ∧ pc s2 = 44
      · rw [if_pos c] at h P2 ⊢
        have hf3 : ff pl pc (s2 + 1) (1, 44, 1) = none := by
          rw [ff_mark (by omega), if_pos c.1, if_neg (by omega), if_pos c.2, if_neg (by omega), if_neg (by omega)] at hf2
          exact hf2
        have h1 : (if v < 16 then t ||| 2 ^ v else t) < 65536 := by
          split
          · rename_i c
            exact Nat.or_lt_two_pow (n := 16) ht (Nat.pow_lt_pow_right (by decide) c)
          · exact ht
        have h2 : (if v < 16 then w else 1) ≤ 1 := by split <;> omega
        have key := ih (s2 + 1) _ _ (k + 1) t' w' s1 I2 P2 (by omega) (by omega) h1 h2 hf3 h (fun I' t1 t2 => hQ I' t1 (Off_trans o1 (Off_trans o2 t2)))
        simp (disch := omega) only [e90_36, e90_37, e90_40, true_or, m_psh_s, m_psh_n, m_kl_i, m_kl_f, m_kl_r, m_kl_n, m_kl_j, m_kl_l, m_kl_d, c_i, c_f, c_r, c_n, List.length_nil, List.length_cons, true_and, and_true, Nat.reduceAdd, Nat.reduceLeDiff, Nat.reduceSub, Nat.reduceEqDiff, Nat.reduceLT, ge_iff_le, gt_iff_lt, n_lit, m_in, m_nar0, m_nar1, and_self, not_false_eq_true, not_true_eq_false, ne_eq, reduceIte, ite_self, Nat.reduceMul, Nat.reduceDiv, Nat.reduceMod, Nat.reducePow, Nat.zero_add, Nat.add_zero, Nat.one_mul, Nat.mul_one, n_in, n_min, n_clamp, n_eq_t, n_eq_f, n_eq, n_le_t, n_le_f, n_le, n_lt_t, n_lt_f, n_lt, n_sub0, n_sublt, n_suble, n_negsub, m_up_hit, m_up_miss, m_row_hit, m_row_miss, n_eqm, n_meq, n_meqm, n_ltm, n_lem, n_mlt, n_mle, n_sub, n_div, n_and1, n_shl, n_shr, n_inc, n_mul, n_rem, z_lt, z_le, z_nlt, z_nle, Nat.not_lt_zero, Nat.le_zero_eq, Nat.zero_le, if_true, if_false]
        exact key
      · rw [if_neg c] at h P2 ⊢
        cases h
        have key := hQ I2 P2 (Off_trans o1 o2)
        simp (disch := omega) only [e90_36, e90_37, e90_40, true_or, m_psh_s, m_psh_n, m_kl_i, m_kl_f, m_kl_r, m_kl_n, m_kl_j, m_kl_l, m_kl_d, c_i, c_f, c_r, c_n, List.length_nil, List.length_cons, true_and, and_true, Nat.reduceAdd, Nat.reduceLeDiff, Nat.reduceSub, Nat.reduceEqDiff, Nat.reduceLT, ge_iff_le, gt_iff_lt, n_lit, m_in, m_nar0, m_nar1, and_self, not_false_eq_true, not_true_eq_false, ne_eq, reduceIte, ite_self, Nat.reduceMul, Nat.reduceDiv, Nat.reduceMod, Nat.reducePow, Nat.zero_add, Nat.add_zero, Nat.one_mul, Nat.mul_one, n_in, n_min, n_clamp, n_eq_t, n_eq_f, n_eq, n_le_t, n_le_f, n_le, n_lt_t, n_lt_f, n_lt, n_sub0, n_sublt, n_suble, n_negsub, m_up_hit, m_up_miss, m_row_hit, m_row_miss, n_eqm, n_meq, n_meqm, n_ltm, n_lem, n_mlt, n_mle, n_sub, n_div, n_and1, n_shl, n_shr, n_inc, n_mul, n_rem, z_lt, z_le, z_nlt, z_nle, Nat.not_lt_zero, Nat.le_zero_eq, Nat.zero_le, if_true, if_false]
        rw [e90_6]
        simp (disch := omega) only [e90_7, e90_10, e90_43, e90_44, true_or, m_psh_s, m_psh_n, m_kl_i, m_kl_f, m_kl_r, m_kl_n, m_kl_j, m_kl_l, m_kl_d, c_i, c_f, c_r, c_n, List.length_nil, List.length_cons, true_and, and_true, Nat.reduceAdd, Nat.reduceLeDiff, Nat.reduceSub, Nat.reduceEqDiff, Nat.reduceLT, ge_iff_le, gt_iff_lt, n_lit, m_in, m_nar0, m_nar1, and_self, not_false_eq_true, not_true_eq_false, ne_eq, reduceIte, ite_self, Nat.reduceMul, Nat.reduceDiv, Nat.reduceMod, Nat.reducePow, Nat.zero_add, Nat.add_zero, Nat.one_mul, Nat.mul_one, n_in, n_min, n_clamp, n_eq_t, n_eq_f, n_eq, n_le_t, n_le_f, n_le, n_lt_t, n_lt_f, n_lt, n_sub0, n_sublt, n_suble, n_negsub, m_up_hit, m_up_miss, m_row_hit, m_row_miss, n_eqm, n_meq, n_meqm, n_ltm, n_lem, n_mlt, n_mle, n_sub, n_div, n_and1, n_shl, n_shr, n_inc, n_mul, n_rem, z_lt, z_le, z_nlt, z_nle, Nat.not_lt_zero, Nat.le_zero_eq, Nat.zero_le, if_true, if_false]
        exact key
    by_cases c16 : 16 < v
    · have key := go (nI (t ||| q_W w) ||| nI 1 <<< (nI 16 &&& nI 31)) (by
        rw [← emin, if_pos c16] at esh ⊢
        rw [esh, n_or])
      simp (disch := omega) only [e90_22, e90_24, e90_27, e90_28, true_or, m_psh_s, m_psh_n, m_kl_i, m_kl_f, m_kl_r, m_kl_n, m_kl_j, m_kl_l, m_kl_d, c_i, c_f, c_r, c_n, List.length_nil, List.length_cons, true_and, and_true, Nat.reduceAdd, Nat.reduceLeDiff, Nat.reduceSub, Nat.reduceEqDiff, Nat.reduceLT, ge_iff_le, gt_iff_lt, n_lit, m_in, m_nar0, m_nar1, and_self, not_false_eq_true, not_true_eq_false, ne_eq, reduceIte, ite_self, Nat.reduceMul, Nat.reduceDiv, Nat.reduceMod, Nat.reducePow, Nat.zero_add, Nat.add_zero, Nat.one_mul, Nat.mul_one, n_in, n_min, n_clamp, n_eq_t, n_eq_f, n_eq, n_le_t, n_le_f, n_le, n_lt_t, n_lt_f, n_lt, n_sub0, n_sublt, n_suble, n_negsub, m_up_hit, m_up_miss, m_row_hit, m_row_miss, n_eqm, n_meq, n_meqm, n_ltm, n_lem, n_mlt, n_mle, n_sub, n_div, n_and1, n_shl, n_shr, n_inc, n_mul, n_rem, z_lt, z_le, z_nlt, z_nle, Nat.not_lt_zero, Nat.le_zero_eq, Nat.zero_le, if_true, if_false]
      exact key
    · have key := go (nI (t ||| q_W w) ||| nI 1 <<< (nI v &&& nI 31)) (by
        rw [← emin, if_neg c16] at esh ⊢
        rw [esh, n_or])
      simp (disch := omega) only [e90_22, e90_24, e90_27, e90_28, true_or, m_psh_s, m_psh_n, m_kl_i, m_kl_f, m_kl_r, m_kl_n, m_kl_j, m_kl_l, m_kl_d, c_i, c_f, c_r, c_n, List.length_nil, List.length_cons, true_and, and_true, Nat.reduceAdd, Nat.reduceLeDiff, Nat.reduceSub, Nat.reduceEqDiff, Nat.reduceLT, ge_iff_le, gt_iff_lt, n_lit, m_in, m_nar0, m_nar1, and_self, not_false_eq_true, not_true_eq_false, ne_eq, reduceIte, ite_self, Nat.reduceMul, Nat.reduceDiv, Nat.reduceMod, Nat.reducePow, Nat.zero_add, Nat.add_zero, Nat.one_mul, Nat.mul_one, n_in, n_min, n_clamp, n_eq_t, n_eq_f, n_eq, n_le_t, n_le_f, n_le, n_lt_t, n_lt_f, n_lt, n_sub0, n_sublt, n_suble, n_negsub, m_up_hit, m_up_miss, m_row_hit, m_row_miss, n_eqm, n_meq, n_meqm, n_ltm, n_lem, n_mlt, n_mle, n_sub, n_div, n_and1, n_shl, n_shr, n_inc, n_mul, n_rem, z_lt, z_le, z_nlt, z_nle, Nat.not_lt_zero, Nat.le_zero_eq, Nat.zero_le, if_true, if_false]
      exact key
theorem s_takeBasket {s t' w' s1 : Nat} (hl : PLy lay R) (hp : padOK pl pc) (h80 : pl ≤ 80) (hd : 2 ≤ d) (hP : PA I pl pc s) (hs : s ≤ pl) (hf : ff pl pc s (1, 44, 1) = none) (h : q_bk pl pc 81 s 0 0 = .inr (t', w', s1)) (hQ : ∀ I', PA I' pl pc s1 → Off 33 33 I F R I' F R → Q (some (.int (nI (t' ||| q_W w')))) I' F R n) : Ev lay d 90 0 [.ref 33, m_j, m_j, m_j] [] I F R n Q := by
  have key := s_bask0 (n := n) (F := F) (Q := Q) hl hp h80 hd 81 s 0 0 0 t' w' s1 I hP hs (by omega) (by omega) (by omega) hf h hQ
  have e0 : (0 : Nat) ||| q_W 0 = 0 := rfl
  rw [e0] at key
  simp (disch := omega) only [e90_0, e90_1, e90_2, e90_3, e90_4, e90_5, true_or, m_psh_s, m_psh_n, m_kl_i, m_kl_f, m_kl_r, m_kl_n, m_kl_j, m_kl_l, m_kl_d, c_i, c_f, c_r, c_n, List.length_nil, List.length_cons, true_and, and_true, Nat.reduceAdd, Nat.reduceLeDiff, Nat.reduceSub, Nat.reduceEqDiff, Nat.reduceLT, ge_iff_le, gt_iff_lt, n_lit, m_in, m_nar0, m_nar1, and_self, not_false_eq_true, not_true_eq_false, ne_eq, reduceIte, ite_self, Nat.reduceMul, Nat.reduceDiv, Nat.reduceMod, Nat.reducePow, Nat.zero_add, Nat.add_zero, Nat.one_mul, Nat.mul_one, n_in, n_min, n_clamp, n_eq_t, n_eq_f, n_eq, n_le_t, n_le_f, n_le, n_lt_t, n_lt_f, n_lt, n_sub0, n_sublt, n_suble, n_negsub, m_up_hit, m_up_miss, m_row_hit, m_row_miss, n_eqm, n_meq, n_meqm, n_ltm, n_lem, n_mlt, n_mle, n_sub, n_div, n_and1, n_shl, n_shr, n_inc, n_mul, n_rem, z_lt, z_le, z_nlt, z_nle, Nat.not_lt_zero, Nat.le_zero_eq, Nat.zero_le, if_true, if_false]
  exact key
end TAKE
