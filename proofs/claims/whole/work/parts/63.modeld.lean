section MODELD
variable {lay : mL} {d a n n' : Nat} {I I' : mI} {F F' : mF} {R R' : mR} {Q : mP} {S : Nat → Nat} {sp : Nat → UInt32} {hi : List Nat}
def q_ctI (I : mI) (S : Nat → Nat) (g : Option Nat) : mI := match g with
  | none => I
  | some g => m_up I 167 (7 + 4 * g) (nI (S (7 + 4 * g) + 1))
theorem MS_ct {g : Option Nat} (h : MS I F S sp) : MS (q_ctI I S g) F (q_ct S g) sp := by
  cases g with
  | none => exact h
  | some g => exact MS_up h
theorem Om_ct {g : Option Nat} (hg : ∀ x, g = some x → x < 16) : Om I F R (q_ctI I S g) F := by
  cases g with
  | none => exact Om_refl
  | some g => exact Om_up (by have := hg g rfl; omega)
theorem r_counts {s : Nat} (hl : ML lay R) (h : MS I F S sp) (w : Wsh S) (hs : s < 30) (hd : 3 ≤ d) (hQ : ∀ I', MS I' F (q_ct S (q_gi S s)) sp → Om I F R I' F → Q none I' F R n) : Ev lay d 113 0 [.ref 166, .int (nI s), m_j] [] I F R n Q := by
  have hl' := hl
  have k1 : ∀ (Q : mP), _ := fun Q => r_goodIn (d := d - 1) (n := n) (Q := Q) hl' h w hs (by omega)
  have g1 : ∀ x, q_gi S s = some x → x < 16 := fun x e => q_gi_lt16 w.1 e
  have key := hQ _ (MS_ct h) (Om_ct g1)
  obtain ⟨hm0, hm1, hm2, hm3, hm4, hm5, hm6, hm7, hm8, hm9, hm10, hm11, hm12, hm13, hm14, hm15, hm16, hm17, hm18, hm19, hm20, hm21, hm22, hm23, hm24, hm25, hm26⟩ := hl
  cases e1 : q_gi S s with
  | none =>
    rw [e1] at key k1
    simp only [q_oI] at k1
    simp (disch := omega) only [e113_0, e113_0N, e113_1, e113_2, e113_5, e113_6, e113_7, e113_9, e113_12, e113_12N, e113_13, e113_16, e113_17, e113_18, e113_21, e113_22, e113_23, e113_24, e113_25, e113_26, true_or, m_psh_s, m_psh_n, m_kl_i, m_kl_f, m_kl_r, m_kl_n, m_kl_j, m_kl_l, m_kl_d, c_i, c_f, c_r, c_n, List.length_nil, List.length_cons, true_and, and_true, Nat.reduceAdd, Nat.reduceLeDiff, Nat.reduceSub, Nat.reduceEqDiff, Nat.reduceLT, ge_iff_le, gt_iff_lt, n_lit, m_in, m_nar0, m_nar1, and_self, not_false_eq_true, not_true_eq_false, ne_eq, reduceIte, ite_self, Nat.reduceMul, Nat.reduceDiv, Nat.reduceMod, Nat.reducePow, Nat.zero_add, Nat.add_zero, Nat.one_mul, Nat.mul_one, n_in, n_min, n_clamp, n_eq_t, n_eq_f, n_eq, n_le_t, n_le_f, n_le, n_lt_t, n_lt_f, n_lt, n_sub0, n_sublt, n_suble, n_negsub, m_up_hit, m_up_miss, m_row_hit, m_row_miss, n_eqm, n_meq, n_meqm, n_ltm, n_lem, n_mlt, n_mle, n_sub, n_div, n_and1, n_shl, n_shr, n_inc, n_mul, n_rem, z_lt, z_le, z_nlt, z_nle, Nat.not_lt_zero, Nat.le_zero_eq, Nat.zero_le, if_true, if_false, hm0, hm1, hm2, hm3, hm4, hm5, hm6, hm7, hm8, hm9, hm10, hm11, hm12, hm13, hm14, hm15, hm16, hm17, hm18, hm19, hm20, hm21, hm22, hm23, hm24, hm25, hm26, k1]
    exact key
  | some x =>
    have hx := g1 x e1
    have hp := h.1 (4 + 4 * x + 3) (by omega)
    have e7 : 4 + 4 * x + 3 = 7 + 4 * x := by omega
    rw [e7] at hp
    rw [e1] at key k1
    simp only [q_oI] at k1
    simp (disch := omega) only [e113_0, e113_0N, e113_1, e113_2, e113_5, e113_6, e113_7, e113_9, e113_12, e113_12N, e113_13, e113_16, e113_17, e113_18, e113_21, e113_22, e113_23, e113_24, e113_25, e113_26, true_or, m_psh_s, m_psh_n, m_kl_i, m_kl_f, m_kl_r, m_kl_n, m_kl_j, m_kl_l, m_kl_d, c_i, c_f, c_r, c_n, List.length_nil, List.length_cons, true_and, and_true, Nat.reduceAdd, Nat.reduceLeDiff, Nat.reduceSub, Nat.reduceEqDiff, Nat.reduceLT, ge_iff_le, gt_iff_lt, n_lit, m_in, m_nar0, m_nar1, and_self, not_false_eq_true, not_true_eq_false, ne_eq, reduceIte, ite_self, Nat.reduceMul, Nat.reduceDiv, Nat.reduceMod, Nat.reducePow, Nat.zero_add, Nat.add_zero, Nat.one_mul, Nat.mul_one, n_in, n_min, n_clamp, n_eq_t, n_eq_f, n_eq, n_le_t, n_le_f, n_le, n_lt_t, n_lt_f, n_lt, n_sub0, n_sublt, n_suble, n_negsub, m_up_hit, m_up_miss, m_row_hit, m_row_miss, n_eqm, n_meq, n_meqm, n_ltm, n_lem, n_mlt, n_mle, n_sub, n_div, n_and1, n_shl, n_shr, n_inc, n_mul, n_rem, z_lt, z_le, z_nlt, z_nle, Nat.not_lt_zero, Nat.le_zero_eq, Nat.zero_le, if_true, if_false, hm0, hm1, hm2, hm3, hm4, hm5, hm6, hm7, hm8, hm9, hm10, hm11, hm12, hm13, hm14, hm15, hm16, hm17, hm18, hm19, hm20, hm21, hm22, hm23, hm24, hm25, hm26, k1, r_ofGood, e7, hp]
    exact key
theorem r_swaps {x y : Int32} (hl : ML lay R) (h : MS I F S sp) (w : Wsh S) (hd : 4 ≤ d) (hQ : ∀ I', MS I' F (q_swp S x y).2 sp → Om I F R I' F → Q (some (.int (q_swp S x y).1)) I' F R n) : Ev lay d 111 0 [.ref 166, .int x, .int y, m_j] [] I F R n Q := by
  have hl' := hl
  have m0 := hl.1
  have ki : ∀ (x : Int32) (Q : mP), _ := fun x Q => r_isSlot (lay := lay) (x := x) (d := d - 1) (I := I) (F := F) (R := R) (n := n) (Q := Q) (by omega)
  unfold q_swp at hQ
  by_cases c : isS x
  · by_cases c2 : isS y
    · rw [if_pos ⟨c, c2⟩] at hQ
      obtain ⟨k, k1, k2, k3⟩ := isS_to c
      obtain ⟨j, j1, j2, j3⟩ := isS_to c2
      simp (disch := omega) only [e111_0, e111_1, e111_4, e111_7, e111_8, e111_11, true_or, m_psh_s, m_psh_n, m_kl_i, m_kl_f, m_kl_r, m_kl_n, m_kl_j, m_kl_l, m_kl_d, c_i, c_f, c_r, c_n, List.length_nil, List.length_cons, true_and, and_true, Nat.reduceAdd, Nat.reduceLeDiff, Nat.reduceSub, Nat.reduceEqDiff, Nat.reduceLT, ge_iff_le, gt_iff_lt, n_lit, m_in, m_nar0, m_nar1, and_self, not_false_eq_true, not_true_eq_false, ne_eq, reduceIte, ite_self, Nat.reduceMul, Nat.reduceDiv, Nat.reduceMod, Nat.reducePow, Nat.zero_add, Nat.add_zero, Nat.one_mul, Nat.mul_one, n_in, n_min, n_clamp, n_eq_t, n_eq_f, n_eq, n_le_t, n_le_f, n_le, n_lt_t, n_lt_f, n_lt, n_sub0, n_sublt, n_suble, n_negsub, m_up_hit, m_up_miss, m_row_hit, m_row_miss, n_eqm, n_meq, n_meqm, n_ltm, n_lem, n_mlt, n_mle, n_sub, n_div, n_and1, n_shl, n_shr, n_inc, n_mul, n_rem, z_lt, z_le, z_nlt, z_nle, Nat.not_lt_zero, Nat.le_zero_eq, Nat.zero_le, if_true, if_false, ki, if_pos c, if_pos c2]
      rw [k3, j3] at hQ
      subst k2
      subst j2
      by_cases e : nI k = nI j
      · rw [if_pos e] at hQ
        have key := hQ I h Om_refl
        have e' : k = j := (n_eq (by omega) (by omega)).mp e
        subst e'
        simp (disch := omega) only [e111_16, e111_17, e111_18, e111_21, e111_23, true_or, m_psh_s, m_psh_n, m_kl_i, m_kl_f, m_kl_r, m_kl_n, m_kl_j, m_kl_l, m_kl_d, c_i, c_f, c_r, c_n, List.length_nil, List.length_cons, true_and, and_true, Nat.reduceAdd, Nat.reduceLeDiff, Nat.reduceSub, Nat.reduceEqDiff, Nat.reduceLT, ge_iff_le, gt_iff_lt, n_lit, m_in, m_nar0, m_nar1, and_self, not_false_eq_true, not_true_eq_false, ne_eq, reduceIte, ite_self, Nat.reduceMul, Nat.reduceDiv, Nat.reduceMod, Nat.reducePow, Nat.zero_add, Nat.add_zero, Nat.one_mul, Nat.mul_one, n_in, n_min, n_clamp, n_eq_t, n_eq_f, n_eq, n_le_t, n_le_f, n_le, n_lt_t, n_lt_f, n_lt, n_sub0, n_sublt, n_suble, n_negsub, m_up_hit, m_up_miss, m_row_hit, m_row_miss, n_eqm, n_meq, n_meqm, n_ltm, n_lem, n_mlt, n_mle, n_sub, n_div, n_and1, n_shl, n_shr, n_inc, n_mul, n_rem, z_lt, z_le, z_nlt, z_nle, Nat.not_lt_zero, Nat.le_zero_eq, Nat.zero_le, if_true, if_false]
        exact key
      · rw [if_neg e] at hQ
        have e' : k ≠ j := fun z => e (by rw [z])
        have ke : ∀ (Q : mP), _ → _ := fun Q hQ => r_exchanges (d := d - 1) (n := n) (Q := Q) hl' h w k1 j1 (by omega) hQ
        simp (disch := omega) only [e111_16, e111_17, e111_18, e111_21, e111_23, e111_24, e111_24N, e111_25, e111_26, e111_27, true_or, m_psh_s, m_psh_n, m_kl_i, m_kl_f, m_kl_r, m_kl_n, m_kl_j, m_kl_l, m_kl_d, c_i, c_f, c_r, c_n, List.length_nil, List.length_cons, true_and, and_true, Nat.reduceAdd, Nat.reduceLeDiff, Nat.reduceSub, Nat.reduceEqDiff, Nat.reduceLT, ge_iff_le, gt_iff_lt, n_lit, m_in, m_nar0, m_nar1, and_self, not_false_eq_true, not_true_eq_false, ne_eq, reduceIte, ite_self, Nat.reduceMul, Nat.reduceDiv, Nat.reduceMod, Nat.reducePow, Nat.zero_add, Nat.add_zero, Nat.one_mul, Nat.mul_one, n_in, n_min, n_clamp, n_eq_t, n_eq_f, n_eq, n_le_t, n_le_f, n_le, n_lt_t, n_lt_f, n_lt, n_sub0, n_sublt, n_suble, n_negsub, m_up_hit, m_up_miss, m_row_hit, m_row_miss, n_eqm, n_meq, n_meqm, n_ltm, n_lem, n_mlt, n_mle, n_sub, n_div, n_and1, n_shl, n_shr, n_inc, n_mul, n_rem, z_lt, z_le, z_nlt, z_nle, Nat.not_lt_zero, Nat.le_zero_eq, Nat.zero_le, if_true, if_false, m0]
        apply ke
        intro I1 h1 o1
        have wX := Wsh_ex w k1 j1
        have kc : ∀ (Q : mP), _ → _ := fun Q hQ => r_counts (d := d - 1) (n := n) (Q := Q) hl' h1 wX k1 (by omega) hQ
        simp (disch := omega) only [e111_30, e111_31, e111_31N, e111_32, e111_33, true_or, m_psh_s, m_psh_n, m_kl_i, m_kl_f, m_kl_r, m_kl_n, m_kl_j, m_kl_l, m_kl_d, c_i, c_f, c_r, c_n, List.length_nil, List.length_cons, true_and, and_true, Nat.reduceAdd, Nat.reduceLeDiff, Nat.reduceSub, Nat.reduceEqDiff, Nat.reduceLT, ge_iff_le, gt_iff_lt, n_lit, m_in, m_nar0, m_nar1, and_self, not_false_eq_true, not_true_eq_false, ne_eq, reduceIte, ite_self, Nat.reduceMul, Nat.reduceDiv, Nat.reduceMod, Nat.reducePow, Nat.zero_add, Nat.add_zero, Nat.one_mul, Nat.mul_one, n_in, n_min, n_clamp, n_eq_t, n_eq_f, n_eq, n_le_t, n_le_f, n_le, n_lt_t, n_lt_f, n_lt, n_sub0, n_sublt, n_suble, n_negsub, m_up_hit, m_up_miss, m_row_hit, m_row_miss, n_eqm, n_meq, n_meqm, n_ltm, n_lem, n_mlt, n_mle, n_sub, n_div, n_and1, n_shl, n_shr, n_inc, n_mul, n_rem, z_lt, z_le, z_nlt, z_nle, Nat.not_lt_zero, Nat.le_zero_eq, Nat.zero_le, if_true, if_false, m0]
        apply kc
        intro I2 h2 o2
        have kc2 : ∀ (Q : mP), _ → _ := fun Q hQ => r_counts (d := d - 1) (n := n) (Q := Q) hl' h2 (Wsh_ct wX) j1 (by omega) hQ
        rw [q_gi_ct] at kc2
        simp (disch := omega) only [e111_36, e111_36N, e111_37, e111_38, true_or, m_psh_s, m_psh_n, m_kl_i, m_kl_f, m_kl_r, m_kl_n, m_kl_j, m_kl_l, m_kl_d, c_i, c_f, c_r, c_n, List.length_nil, List.length_cons, true_and, and_true, Nat.reduceAdd, Nat.reduceLeDiff, Nat.reduceSub, Nat.reduceEqDiff, Nat.reduceLT, ge_iff_le, gt_iff_lt, n_lit, m_in, m_nar0, m_nar1, and_self, not_false_eq_true, not_true_eq_false, ne_eq, reduceIte, ite_self, Nat.reduceMul, Nat.reduceDiv, Nat.reduceMod, Nat.reducePow, Nat.zero_add, Nat.add_zero, Nat.one_mul, Nat.mul_one, n_in, n_min, n_clamp, n_eq_t, n_eq_f, n_eq, n_le_t, n_le_f, n_le, n_lt_t, n_lt_f, n_lt, n_sub0, n_sublt, n_suble, n_negsub, m_up_hit, m_up_miss, m_row_hit, m_row_miss, n_eqm, n_meq, n_meqm, n_ltm, n_lem, n_mlt, n_mle, n_sub, n_div, n_and1, n_shl, n_shr, n_inc, n_mul, n_rem, z_lt, z_le, z_nlt, z_nle, Nat.not_lt_zero, Nat.le_zero_eq, Nat.zero_le, if_true, if_false, m0]
        apply kc2
        intro I3 h3 o3
        have key := hQ I3 h3 (Om_trans o1 (Om_trans o2 o3))
        simp (disch := omega) only [e111_41, e111_42, true_or, m_psh_s, m_psh_n, m_kl_i, m_kl_f, m_kl_r, m_kl_n, m_kl_j, m_kl_l, m_kl_d, c_i, c_f, c_r, c_n, List.length_nil, List.length_cons, true_and, and_true, Nat.reduceAdd, Nat.reduceLeDiff, Nat.reduceSub, Nat.reduceEqDiff, Nat.reduceLT, ge_iff_le, gt_iff_lt, n_lit, m_in, m_nar0, m_nar1, and_self, not_false_eq_true, not_true_eq_false, ne_eq, reduceIte, ite_self, Nat.reduceMul, Nat.reduceDiv, Nat.reduceMod, Nat.reducePow, Nat.zero_add, Nat.add_zero, Nat.one_mul, Nat.mul_one, n_in, n_min, n_clamp, n_eq_t, n_eq_f, n_eq, n_le_t, n_le_f, n_le, n_lt_t, n_lt_f, n_lt, n_sub0, n_sublt, n_suble, n_negsub, m_up_hit, m_up_miss, m_row_hit, m_row_miss, n_eqm, n_meq, n_meqm, n_ltm, n_lem, n_mlt, n_mle, n_sub, n_div, n_and1, n_shl, n_shr, n_inc, n_mul, n_rem, z_lt, z_le, z_nlt, z_nle, Nat.not_lt_zero, Nat.le_zero_eq, Nat.zero_le, if_true, if_false]
        exact key
    · rw [if_neg (fun z => c2 z.2)] at hQ
      have key := hQ I h Om_refl
      simp (disch := omega) only [e111_0, e111_1, e111_4, e111_7, e111_8, e111_11, e111_14, e111_15, true_or, m_psh_s, m_psh_n, m_kl_i, m_kl_f, m_kl_r, m_kl_n, m_kl_j, m_kl_l, m_kl_d, c_i, c_f, c_r, c_n, List.length_nil, List.length_cons, true_and, and_true, Nat.reduceAdd, Nat.reduceLeDiff, Nat.reduceSub, Nat.reduceEqDiff, Nat.reduceLT, ge_iff_le, gt_iff_lt, n_lit, m_in, m_nar0, m_nar1, and_self, not_false_eq_true, not_true_eq_false, ne_eq, reduceIte, ite_self, Nat.reduceMul, Nat.reduceDiv, Nat.reduceMod, Nat.reducePow, Nat.zero_add, Nat.add_zero, Nat.one_mul, Nat.mul_one, n_in, n_min, n_clamp, n_eq_t, n_eq_f, n_eq, n_le_t, n_le_f, n_le, n_lt_t, n_lt_f, n_lt, n_sub0, n_sublt, n_suble, n_negsub, m_up_hit, m_up_miss, m_row_hit, m_row_miss, n_eqm, n_meq, n_meqm, n_ltm, n_lem, n_mlt, n_mle, n_sub, n_div, n_and1, n_shl, n_shr, n_inc, n_mul, n_rem, z_lt, z_le, z_nlt, z_nle, Nat.not_lt_zero, Nat.le_zero_eq, Nat.zero_le, if_true, if_false, ki, if_pos c, if_neg c2]
      exact key
  · rw [if_neg (fun z => c z.1)] at hQ
    have key := hQ I h Om_refl
    simp (disch := omega) only [e111_0, e111_1, e111_4, e111_7, e111_8, e111_11, e111_14, e111_15, true_or, m_psh_s, m_psh_n, m_kl_i, m_kl_f, m_kl_r, m_kl_n, m_kl_j, m_kl_l, m_kl_d, c_i, c_f, c_r, c_n, List.length_nil, List.length_cons, true_and, and_true, Nat.reduceAdd, Nat.reduceLeDiff, Nat.reduceSub, Nat.reduceEqDiff, Nat.reduceLT, ge_iff_le, gt_iff_lt, n_lit, m_in, m_nar0, m_nar1, and_self, not_false_eq_true, not_true_eq_false, ne_eq, reduceIte, ite_self, Nat.reduceMul, Nat.reduceDiv, Nat.reduceMod, Nat.reducePow, Nat.zero_add, Nat.add_zero, Nat.one_mul, Nat.mul_one, n_in, n_min, n_clamp, n_eq_t, n_eq_f, n_eq, n_le_t, n_le_f, n_le, n_lt_t, n_lt_f, n_lt, n_sub0, n_sublt, n_suble, n_negsub, m_up_hit, m_up_miss, m_row_hit, m_row_miss, n_eqm, n_meq, n_meqm, n_ltm, n_lem, n_mlt, n_mle, n_sub, n_div, n_and1, n_shl, n_shr, n_inc, n_mul, n_rem, z_lt, z_le, z_nlt, z_nle, Nat.not_lt_zero, Nat.le_zero_eq, Nat.zero_le, if_true, if_false, ki, if_neg c]
    exact key
theorem r_forg0 (hl : ML lay R) (w : Wsh S) (hc : S 1 ≤ 100) (ao : q_aok S sp) (hd : 1 ≤ d) (j : Nat) : ∀ (k : Nat) (v2 : Value) (F : mF), k + j = S 3 → MS I F S (q_age S sp k) → (∀ F', MS I F' S (q_age S sp (S 3)) → Om I F R I F' → Q none I F' R n) → Ev lay d 127 2 [.ref 166, .int (nI k), v2] [] I F R n Q := by
  have w1 := w.1
  have hl' := hl
  induction j with
  | zero =>
    intro k v2 F hk h hQ
    have h3 := h.1 3 (by omega)
    have hk2 : k = S 3 := by omega
    subst hk2
    have key := hQ F h Om_refl
    obtain ⟨hm0, hm1, hm2, hm3, hm4, hm5, hm6, hm7, hm8, hm9, hm10, hm11, hm12, hm13, hm14, hm15, hm16, hm17, hm18, hm19, hm20, hm21, hm22, hm23, hm24, hm25, hm26⟩ := hl
    rw [e127_2]
    simp (disch := omega) only [e127_3, e127_3N, e127_4, e127_7, e127_8, e127_9, e127_12, e127_12N, e127_13, e127_16, e127_17, e127_18, e127_21, e127_22, e127_23, e127_23N, e127_24, e127_27, e127_28, e127_28N, e127_29, e127_32, e127_33, e127_34, e127_34N, e127_35, e127_38, e127_39, e127_40, e127_41, e127_42, e127_44, e127_45, e127_46, e127_47, e127_49, e127_49N, e127_50, e127_53, e127_54, e127_55, e127_56, e127_57, e127_58, e127_60, e127_61, e127_62, e127_63, e127_66, e127_69, true_or, m_psh_s, m_psh_n, m_kl_i, m_kl_f, m_kl_r, m_kl_n, m_kl_j, m_kl_l, m_kl_d, c_i, c_f, c_r, c_n, List.length_nil, List.length_cons, true_and, and_true, Nat.reduceAdd, Nat.reduceLeDiff, Nat.reduceSub, Nat.reduceEqDiff, Nat.reduceLT, ge_iff_le, gt_iff_lt, n_lit, m_in, m_nar0, m_nar1, and_self, not_false_eq_true, not_true_eq_false, ne_eq, reduceIte, ite_self, Nat.reduceMul, Nat.reduceDiv, Nat.reduceMod, Nat.reducePow, Nat.zero_add, Nat.add_zero, Nat.one_mul, Nat.mul_one, n_in, n_min, n_clamp, n_eq_t, n_eq_f, n_eq, n_le_t, n_le_f, n_le, n_lt_t, n_lt_f, n_lt, n_sub0, n_sublt, n_suble, n_negsub, m_up_hit, m_up_miss, m_row_hit, m_row_miss, n_eqm, n_meq, n_meqm, n_ltm, n_lem, n_mlt, n_mle, n_sub, n_div, n_and1, n_shl, n_shr, n_inc, n_mul, n_rem, z_lt, z_le, z_nlt, z_nle, Nat.not_lt_zero, Nat.le_zero_eq, Nat.zero_le, if_true, if_false, hm0, hm1, hm2, hm3, hm4, hm5, hm6, hm7, hm8, hm9, hm10, hm11, hm12, hm13, hm14, hm15, hm16, hm17, hm18, hm19, hm20, hm21, hm22, hm23, hm24, hm25, hm26, h3]
    exact key
  | succ j ih =>
    intro k v2 F hk h hQ
    have h3 := h.1 3 (by omega)
    have h1 := h.1 1 (by omega)
    have p5 := h.1 (4 + 4 * k + 1) (by omega)
    have e5 : 4 + 4 * k + 1 = 5 + 4 * k := by omega
    rw [e5] at p5
    have hF : F 168 k = sp k := by
      rw [h.2 k (by omega)]
      unfold q_age
      rw [if_neg (by omega)]
    obtain ⟨u1, u2, u3, u4, u5⟩ := ao k (by omega)
    have u5' : vf_n32 (FP.fadd (FP.fdiv (FP.fmul (sp k) (FP.i2f (nI (S 1)))) 1120403456) (FP.fdiv (FP.fmul (FP.i2f (nI (S (5 + 4 * k)))) (FP.i2f (nI (100 - S 1)))) 1120403456)) := u5
    have hM : MS I (m_up F 168 k (q_agef (S 1) (S (5 + 4 * k)) (sp k))) S (q_age S sp (k + 1)) := ⟨h.1, fun g hg => by
      by_cases e : g = k
      · subst e
        rw [m_up_at]
        unfold q_age
        rw [if_pos (by omega)]
      · rw [m_up_miss (by omega), h.2 g hg]
        unfold q_age
        by_cases c : g < k
        · rw [if_pos c, if_pos (by omega)]
        · rw [if_neg c, if_neg (by omega)]⟩
    have key := fun v2 => ih (k + 1) v2 _ (by omega) hM (fun F' t1 t2 => hQ F' t1 (Om_trans Om_F t2))
    obtain ⟨hm0, hm1, hm2, hm3, hm4, hm5, hm6, hm7, hm8, hm9, hm10, hm11, hm12, hm13, hm14, hm15, hm16, hm17, hm18, hm19, hm20, hm21, hm22, hm23, hm24, hm25, hm26⟩ := hl
    rw [e127_2]
    simp (disch := omega) only [e127_3, e127_3N, e127_4, e127_7, e127_8, e127_9, e127_12, e127_12N, e127_13, e127_16, e127_17, e127_18, e127_21, e127_22, e127_23, e127_23N, e127_24, e127_27, e127_28, e127_28N, e127_29, e127_32, e127_33, e127_34, e127_34N, e127_35, e127_38, e127_39, e127_40, e127_41, e127_42, e127_44, e127_45, e127_46, e127_47, e127_49, e127_49N, e127_50, e127_53, e127_54, e127_55, e127_56, e127_57, e127_58, e127_60, e127_61, e127_62, e127_63, e127_66, e127_69, true_or, m_psh_s, m_psh_n, m_kl_i, m_kl_f, m_kl_r, m_kl_n, m_kl_j, m_kl_l, m_kl_d, c_i, c_f, c_r, c_n, List.length_nil, List.length_cons, true_and, and_true, Nat.reduceAdd, Nat.reduceLeDiff, Nat.reduceSub, Nat.reduceEqDiff, Nat.reduceLT, ge_iff_le, gt_iff_lt, n_lit, m_in, m_nar0, m_nar1, and_self, not_false_eq_true, not_true_eq_false, ne_eq, reduceIte, ite_self, Nat.reduceMul, Nat.reduceDiv, Nat.reduceMod, Nat.reducePow, Nat.zero_add, Nat.add_zero, Nat.one_mul, Nat.mul_one, n_in, n_min, n_clamp, n_eq_t, n_eq_f, n_eq, n_le_t, n_le_f, n_le, n_lt_t, n_lt_f, n_lt, n_sub0, n_sublt, n_suble, n_negsub, m_up_hit, m_up_miss, m_row_hit, m_row_miss, n_eqm, n_meq, n_meqm, n_ltm, n_lem, n_mlt, n_mle, n_sub, n_div, n_and1, n_shl, n_shr, n_inc, n_mul, n_rem, z_lt, z_le, z_nlt, z_nle, Nat.not_lt_zero, Nat.le_zero_eq, Nat.zero_le, if_true, if_false, hm0, hm1, hm2, hm3, hm4, hm5, hm6, hm7, hm8, hm9, hm10, hm11, hm12, hm13, hm14, hm15, hm16, hm17, hm18, hm19, hm20, hm21, hm22, hm23, hm24, hm25, hm26, h3, h1, r_ofGood, e5, p5, hF, u1, u2, u3, u4, u5']
    exact key _
theorem r_forgets (hl : ML lay R) (h : MS I F S sp) (w : Wsh S) (hc : S 1 ≤ 100) (ao : q_aok S sp) (hd : 1 ≤ d) (hQ : ∀ F', MS I F' S (q_age S sp (S 3)) → Om I F R I F' → Q none I F' R n) : Ev lay d 127 0 [.ref 166, m_j, m_j] [] I F R n Q := by
  have h0 : MS I F S (q_age S sp 0) := ⟨h.1, fun g hg => by
    rw [h.2 g hg]
    unfold q_age
    rw [if_neg (by omega)]⟩
  have key := r_forg0 (n := n) (Q := Q) hl w hc ao hd (S 3) 0 m_j F (Nat.zero_add _) h0 hQ
  simp (disch := omega) only [e127_0, e127_1, true_or, m_psh_s, m_psh_n, m_kl_i, m_kl_f, m_kl_r, m_kl_n, m_kl_j, m_kl_l, m_kl_d, c_i, c_f, c_r, c_n, List.length_nil, List.length_cons, true_and, and_true, Nat.reduceAdd, Nat.reduceLeDiff, Nat.reduceSub, Nat.reduceEqDiff, Nat.reduceLT, ge_iff_le, gt_iff_lt, n_lit, m_in, m_nar0, m_nar1, and_self, not_false_eq_true, not_true_eq_false, ne_eq, reduceIte, ite_self, Nat.reduceMul, Nat.reduceDiv, Nat.reduceMod, Nat.reducePow, Nat.zero_add, Nat.add_zero, Nat.one_mul, Nat.mul_one, n_in, n_min, n_clamp, n_eq_t, n_eq_f, n_eq, n_le_t, n_le_f, n_le, n_lt_t, n_lt_f, n_lt, n_sub0, n_sublt, n_suble, n_negsub, m_up_hit, m_up_miss, m_row_hit, m_row_miss, n_eqm, n_meq, n_meqm, n_ltm, n_lem, n_mlt, n_mle, n_sub, n_div, n_and1, n_shl, n_shr, n_inc, n_mul, n_rem, z_lt, z_le, z_nlt, z_nle, Nat.not_lt_zero, Nat.le_zero_eq, Nat.zero_le, if_true, if_false]
  exact key
theorem q_bp_ok {m p : Nat} (h : (q_bp S sp m).1 = some p) : p < m ∧ p / 30 < p % 30 := by
  induction m with
  | zero => cases h
  | succ m ihm =>
    rw [q_bp] at h
    split at h
    · rename_i c
      cases h
      exact ⟨by omega, c.1.1⟩
    · have := ihm h; omega
theorem q_swp_n {k j : Nat} (hk : k < 30) (hj : j < 30) (h : k ≠ j) : (q_swp S (nI k) (nI j)).2 = q_swS S k j := by
  unfold q_swp
  rw [if_pos ⟨(isS_n (by omega)).mpr hk, (isS_n (by omega)).mpr hj⟩, if_neg (by rw [n_eq (by omega) (by omega)]; exact h), q_N_n (by omega), q_N_n (by omega)]
theorem nzT_sw {s o : Nat} (w : Wsh S) (hz : nzT S) : nzT (q_swS S s o) := fun k hk => by
  rw [q_swS_k w.1 (by omega)] at hk ⊢
  exact hz k hk
def q_oj (S : Nat → Nat) (sp : Nat → UInt32) : Nat → Option Nat
  | 0 => none
  | _ + 1 => (q_bp S sp 900).1
theorem r_nights0 {m0 : Nat} (hl : ML lay R) (hd : 6 ≤ d) (hm0 : m0 ≤ 9) (j : Nat) : ∀ (S : Nat → Nat) (k : Nat) (v3 : Value) (I : mI), Wsh S → S 2 ≤ 9 → S 68 < 1073741824 → dOK S → nzT S → allW S sp → S 0 = m0 → k + j = m0 → MS I F S sp →
    (∀ I' v2 v3, MS I' F (q_nl sp j S).2 sp → Om I F R I' F → Ev lay d 126 87 [.ref 166, .int (nI (k + (q_nl sp j S).1)), .int v2, v3] [] I' F R n Q) →
    Ev lay d 126 42 [.ref 166, .int (nI k), .int (q_oI (q_oj S sp j)), v3] [] I F R n Q := by
  have hl' := hl
  have m0' := hl.1
  have m7 : lay 167 = (0, 124) := hl.2.1
  have r0 : m_rv (R 166 0) = .ref 167 := by
    obtain ⟨hm0, hm1, hm2, hm3, hm4, hm5, hm6, hm7, hm8, hm9, hm10, hm11, hm12, hm13, hm14, hm15, hm16, hm17, hm18, hm19, hm20, hm21, hm22, hm23, hm24, hm25, hm26⟩ := hl
    assumption
  induction j with
  | zero =>
    intro S k v3 I w hc9 hc2 hD hz wo hS0 hk h hQ
    have key := hQ I (-nI 6) v3 h Om_refl
    simp (disch := omega) only [e126_42, e126_43, e126_45, true_or, m_psh_s, m_psh_n, m_kl_i, m_kl_f, m_kl_r, m_kl_n, m_kl_j, m_kl_l, m_kl_d, c_i, c_f, c_r, c_n, List.length_nil, List.length_cons, true_and, and_true, Nat.reduceAdd, Nat.reduceLeDiff, Nat.reduceSub, Nat.reduceEqDiff, Nat.reduceLT, ge_iff_le, gt_iff_lt, n_lit, m_in, m_nar0, m_nar1, and_self, not_false_eq_true, not_true_eq_false, ne_eq, reduceIte, ite_self, Nat.reduceMul, Nat.reduceDiv, Nat.reduceMod, Nat.reducePow, Nat.zero_add, Nat.add_zero, Nat.one_mul, Nat.mul_one, n_in, n_min, n_clamp, n_eq_t, n_eq_f, n_eq, n_le_t, n_le_f, n_le, n_lt_t, n_lt_f, n_lt, n_sub0, n_sublt, n_suble, n_negsub, m_up_hit, m_up_miss, m_row_hit, m_row_miss, n_eqm, n_meq, n_meqm, n_ltm, n_lem, n_mlt, n_mle, n_sub, n_div, n_and1, n_shl, n_shr, n_inc, n_mul, n_rem, z_lt, z_le, z_nlt, z_nle, Nat.not_lt_zero, Nat.le_zero_eq, Nat.zero_le, if_true, if_false, q_oj, q_oI]
    exact key
  | succ j ih =>
    intro S k v3 I w hc9 hc2 hD hz wo hS0 hk h hQ
    rw [q_nl] at hQ
    unfold q_oj
    cases e : (q_bp S sp 900).1 with
    | none =>
      rw [e] at hQ
      have key := hQ I (-nI 6) v3 h Om_refl
      simp (disch := omega) only [e126_42, e126_43, e126_45, true_or, m_psh_s, m_psh_n, m_kl_i, m_kl_f, m_kl_r, m_kl_n, m_kl_j, m_kl_l, m_kl_d, c_i, c_f, c_r, c_n, List.length_nil, List.length_cons, true_and, and_true, Nat.reduceAdd, Nat.reduceLeDiff, Nat.reduceSub, Nat.reduceEqDiff, Nat.reduceLT, ge_iff_le, gt_iff_lt, n_lit, m_in, m_nar0, m_nar1, and_self, not_false_eq_true, not_true_eq_false, ne_eq, reduceIte, ite_self, Nat.reduceMul, Nat.reduceDiv, Nat.reduceMod, Nat.reducePow, Nat.zero_add, Nat.add_zero, Nat.one_mul, Nat.mul_one, n_in, n_min, n_clamp, n_eq_t, n_eq_f, n_eq, n_le_t, n_le_f, n_le, n_lt_t, n_lt_f, n_lt, n_sub0, n_sublt, n_suble, n_negsub, m_up_hit, m_up_miss, m_row_hit, m_row_miss, n_eqm, n_meq, n_meqm, n_ltm, n_lem, n_mlt, n_mle, n_sub, n_div, n_and1, n_shl, n_shr, n_inc, n_mul, n_rem, z_lt, z_le, z_nlt, z_nle, Nat.not_lt_zero, Nat.le_zero_eq, Nat.zero_le, if_true, if_false, q_oI]
      exact key
    | some p =>
      have hp := q_bp_ok e
      rw [e] at hQ
      have esw := q_swp_n (S := S) (k := p / 30) (j := p % 30) (by omega) (by omega) (by omega)
      have ks : ∀ (Q : mP), _ → _ := fun Q hQ => r_swaps (d := d - 1) (n := n) (Q := Q) (x := nI (p / 30)) (y := nI (p % 30)) hl' h w (by omega) hQ
      rw [esw] at ks
      simp only [q_oI]
      simp (disch := omega) only [e126_42, e126_43, e126_45, e126_48, e126_48N, e126_49, e126_50, e126_52, e126_53, e126_54, e126_56, e126_57, true_or, m_psh_s, m_psh_n, m_kl_i, m_kl_f, m_kl_r, m_kl_n, m_kl_j, m_kl_l, m_kl_d, c_i, c_f, c_r, c_n, List.length_nil, List.length_cons, true_and, and_true, Nat.reduceAdd, Nat.reduceLeDiff, Nat.reduceSub, Nat.reduceEqDiff, Nat.reduceLT, ge_iff_le, gt_iff_lt, n_lit, m_in, m_nar0, m_nar1, and_self, not_false_eq_true, not_true_eq_false, ne_eq, reduceIte, ite_self, Nat.reduceMul, Nat.reduceDiv, Nat.reduceMod, Nat.reducePow, Nat.zero_add, Nat.add_zero, Nat.one_mul, Nat.mul_one, n_in, n_min, n_clamp, n_eq_t, n_eq_f, n_eq, n_le_t, n_le_f, n_le, n_lt_t, n_lt_f, n_lt, n_sub0, n_sublt, n_suble, n_negsub, m_up_hit, m_up_miss, m_row_hit, m_row_miss, n_eqm, n_meq, n_meqm, n_ltm, n_lem, n_mlt, n_mle, n_sub, n_div, n_and1, n_shl, n_shr, n_inc, n_mul, n_rem, z_lt, z_le, z_nlt, z_nle, Nat.not_lt_zero, Nat.le_zero_eq, Nat.zero_le, if_true, if_false, m0']
      apply ks
      intro I1 h1 o1
      have k3 := fun k hk => q_swS_k (S := S) (s := p / 30) (o := p % 30) (k := k) w.1 hk
      have w' := Wsh_sw (s := p / 30) (o := p % 30) w (by omega) (by omega)
      have s0 := h1.1 0 (by omega)
      rw [k3 0 (by omega), hS0] at s0
      have wo' : allW (q_swS S (p / 30) (p % 30)) sp := fun T t3 t2 wT => wo T (t3.trans (k3 3 (by omega))) (t2.trans (k3 2 (by omega))) wT
      have key := fun v3 I2 h2 => ih (q_swS S (p / 30) (p % 30)) (k + 1) v3 I2 w' (by rw [k3 2 (by omega)]; exact hc9) (by rw [k3 68 (by omega)]; exact hc2) (dOK_sw w hD) (nzT_sw w hz) wo' (by rw [k3 0 (by omega)]; exact hS0) (by omega) h2
      have hQ' : ∀ I2, Om I1 F R I2 F → ∀ I' v2 v3, MS I' F (q_nl sp j (q_swS S (p / 30) (p % 30))).2 sp → Om I2 F R I' F → Ev lay d 126 87 [.ref 166, .int (nI (k + 1 + (q_nl sp j (q_swS S (p / 30) (p % 30))).1)), .int v2, v3] [] I' F R n Q := fun I2 o2 I' v2 v3 t1 t2 => by
        have := hQ I' v2 v3 t1 (Om_trans o1 (Om_trans o2 t2))
        rw [show k + 1 + (q_nl sp j (q_swS S (p / 30) (p % 30))).1 = k + ((q_nl sp j (q_swS S (p / 30) (p % 30))).1 + 1) by omega]
        exact this
      cases j with
      | zero =>
        have hk' : k + 1 = m0 := by omega
        have kk := key (.int (q_swp S (nI (p / 30)) (nI (p % 30))).1) I1 h1 (hQ' I1 Om_refl)
        simp only [q_oj, q_oI] at kk
        simp (disch := omega) only [e126_60, e126_61, e126_64, e126_65, e126_65N, e126_66, e126_69, e126_70, e126_71, e126_74, e126_74N, e126_75, e126_78, e126_81, e126_83, e126_84, true_or, m_psh_s, m_psh_n, m_kl_i, m_kl_f, m_kl_r, m_kl_n, m_kl_j, m_kl_l, m_kl_d, c_i, c_f, c_r, c_n, List.length_nil, List.length_cons, true_and, and_true, Nat.reduceAdd, Nat.reduceLeDiff, Nat.reduceSub, Nat.reduceEqDiff, Nat.reduceLT, ge_iff_le, gt_iff_lt, n_lit, m_in, m_nar0, m_nar1, and_self, not_false_eq_true, not_true_eq_false, ne_eq, reduceIte, ite_self, Nat.reduceMul, Nat.reduceDiv, Nat.reduceMod, Nat.reducePow, Nat.zero_add, Nat.add_zero, Nat.one_mul, Nat.mul_one, n_in, n_min, n_clamp, n_eq_t, n_eq_f, n_eq, n_le_t, n_le_f, n_le, n_lt_t, n_lt_f, n_lt, n_sub0, n_sublt, n_suble, n_negsub, m_up_hit, m_up_miss, m_row_hit, m_row_miss, n_eqm, n_meq, n_meqm, n_ltm, n_lem, n_mlt, n_mle, n_sub, n_div, n_and1, n_shl, n_shr, n_inc, n_mul, n_rem, z_lt, z_le, z_nlt, z_nle, Nat.not_lt_zero, Nat.le_zero_eq, Nat.zero_le, if_true, if_false, m0', m7, r0, s0]
        exact kk
      | succ j =>
        have kb : ∀ (Q : mP), _ → _ := fun Q hQ => r_best (d := d - 1) (n := n) (Q := Q) hl' h1 w' (by rw [k3 2 (by omega)]; exact hc9) (by rw [k3 68 (by omega)]; exact hc2) (dOK_sw w hD) (nzT_sw w hz) wo' (by omega) hQ
        simp (disch := omega) only [e126_60, e126_61, e126_64, e126_65, e126_65N, e126_66, e126_69, e126_70, e126_71, e126_74, e126_74N, e126_75, true_or, m_psh_s, m_psh_n, m_kl_i, m_kl_f, m_kl_r, m_kl_n, m_kl_j, m_kl_l, m_kl_d, c_i, c_f, c_r, c_n, List.length_nil, List.length_cons, true_and, and_true, Nat.reduceAdd, Nat.reduceLeDiff, Nat.reduceSub, Nat.reduceEqDiff, Nat.reduceLT, ge_iff_le, gt_iff_lt, n_lit, m_in, m_nar0, m_nar1, and_self, not_false_eq_true, not_true_eq_false, ne_eq, reduceIte, ite_self, Nat.reduceMul, Nat.reduceDiv, Nat.reduceMod, Nat.reducePow, Nat.zero_add, Nat.add_zero, Nat.one_mul, Nat.mul_one, n_in, n_min, n_clamp, n_eq_t, n_eq_f, n_eq, n_le_t, n_le_f, n_le, n_lt_t, n_lt_f, n_lt, n_sub0, n_sublt, n_suble, n_negsub, m_up_hit, m_up_miss, m_row_hit, m_row_miss, n_eqm, n_meq, n_meqm, n_ltm, n_lem, n_mlt, n_mle, n_sub, n_div, n_and1, n_shl, n_shr, n_inc, n_mul, n_rem, z_lt, z_le, z_nlt, z_nle, Nat.not_lt_zero, Nat.le_zero_eq, Nat.zero_le, if_true, if_false, m0', m7, r0, s0]
        apply kb
        intro I2 h2 o2
        have kk := key (.int (q_swp S (nI (p / 30)) (nI (p % 30))).1) I2 h2 (hQ' I2 o2)
        simp only [q_oj] at kk
        simp (disch := omega) only [e126_78, e126_81, e126_83, e126_84, true_or, m_psh_s, m_psh_n, m_kl_i, m_kl_f, m_kl_r, m_kl_n, m_kl_j, m_kl_l, m_kl_d, c_i, c_f, c_r, c_n, List.length_nil, List.length_cons, true_and, and_true, Nat.reduceAdd, Nat.reduceLeDiff, Nat.reduceSub, Nat.reduceEqDiff, Nat.reduceLT, ge_iff_le, gt_iff_lt, n_lit, m_in, m_nar0, m_nar1, and_self, not_false_eq_true, not_true_eq_false, ne_eq, reduceIte, ite_self, Nat.reduceMul, Nat.reduceDiv, Nat.reduceMod, Nat.reducePow, Nat.zero_add, Nat.add_zero, Nat.one_mul, Nat.mul_one, n_in, n_min, n_clamp, n_eq_t, n_eq_f, n_eq, n_le_t, n_le_f, n_le, n_lt_t, n_lt_f, n_lt, n_sub0, n_sublt, n_suble, n_negsub, m_up_hit, m_up_miss, m_row_hit, m_row_miss, n_eqm, n_meq, n_meqm, n_ltm, n_lem, n_mlt, n_mle, n_sub, n_div, n_and1, n_shl, n_shr, n_inc, n_mul, n_rem, z_lt, z_le, z_nlt, z_nle, Nat.not_lt_zero, Nat.le_zero_eq, Nat.zero_le, if_true, if_false]
        exact kk
end MODELD
