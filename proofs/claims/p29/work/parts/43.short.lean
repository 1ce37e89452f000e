section SHORT
variable {lay : mL} {d a n n' : Nat} {I I' : mI} {F F' : mF} {R R' : mR} {Q : mP} {S : Nat → Nat} {sp : Nat → UInt32} {hi : List Nat} {nx pl : Nat} {hs : List St} {pc : Nat → Nat} {sv : Nat → Option St}
def q_lp (pos : Nat → Nat) (b A : Nat) : Nat → Option Nat
  | 0 => none
  | k + 1 => if b / 2 ^ k % 2 = 1 ∧ pos k / 6 = A then some (match q_lp pos b A k with
    | none => pos k % 6
    | some m => if m < pos k % 6 then pos k % 6 else m) else q_lp pos b A k
def q_th (pos : Nat → Nat) (b : Nat) : Nat → Nat
  | 0 => 1
  | A + 1 => q_th pos b A + (q_lp pos b A 16).getD 0
def q_la (pos : Nat → Nat) (b : Nat) : Nat → Nat
  | 0 => 0
  | A + 1 => if (q_lp pos b A 16).isSome = true then A else q_la pos b A
def q_short (S : Nat → Nat) (b : Nat) : Nat := 2 * (q_th (q_pos S) b 5 + S 2 * q_la (q_pos S) b 5)
theorem q_lp_lt {pos : Nat → Nat} {b A k m : Nat} (h : q_lp pos b A k = some m) : m < 6 := by
  induction k generalizing m with
  | zero => cases h
  | succ k ih =>
    rw [q_lp] at h
    split at h
    · split at h
      · cases h; omega
      · rename_i m' e
        have := ih e
        cases h
        split <;> omega
    · exact ih h
theorem s_lp0 {b A m : Nat} (h : CSh lay I F R n a S sp hi) (w : Wsh S) (hw : WK lay R) (hm : m = q_on b 16) (hm6 : m ≤ 6) (h31 : I 30 1 = nI m) (hl : ∀ g, g < 16 → b / 2 ^ g % 2 = 1 → I 31 (q_on b g) = nI g) (hg : ∀ g, g < 16 → b / 2 ^ g % 2 = 1 → g < S 3) (hA : A < 5) (hd : 1 ≤ d) (j k : Nat) (hk : k + j = 16) (v5 : Value) :
    Ev lay d 68 6 [.ref 30, .ref a, .int (nI A), .int (q_oI (q_lp (q_pos S) b A k)), .int (nI (q_on b k)), v5] [] I F R n Q ↔ Q (some (.int (q_oI (q_lp (q_pos S) b A 16)))) I F R n := by
  obtain ⟨w1, w2, w3⟩ := hw
  have h3 := w.1
  induction j generalizing k v5 with
  | zero =>
    have hk2 : k = 16 := by omega
    subst hk2
    rw [hm] at h31 hm6
    rw [e68_6]
    simp (disch := omega) only [e68_8, e68_8N, e68_9, e68_12, e68_15, e68_15N, e68_16, e68_19, e68_19N, e68_20, e68_23, e68_25, e68_26, e68_27, e68_29, e68_31, e68_33, e68_34, e68_35, e68_38, e68_39, e68_41, e68_43, e68_44, e68_47, e68_48, e68_51, e68_54, e68_55, true_or, m_psh_s, m_psh_n, m_kl_i, m_kl_f, m_kl_r, m_kl_n, m_kl_j, m_kl_l, m_kl_d, c_i, c_f, c_r, c_n, List.length_nil, List.length_cons, true_and, and_true, Nat.reduceAdd, Nat.reduceLeDiff, Nat.reduceSub, Nat.reduceEqDiff, Nat.reduceLT, ge_iff_le, gt_iff_lt, n_lit, m_in, m_nar0, m_nar1, and_self, not_false_eq_true, not_true_eq_false, ne_eq, reduceIte, ite_self, Nat.reduceMul, Nat.reduceDiv, Nat.reduceMod, Nat.reducePow, Nat.zero_add, Nat.add_zero, Nat.one_mul, Nat.mul_one, n_in, n_min, n_clamp, n_eq_t, n_eq_f, n_eq, n_le_t, n_le_f, n_le, n_lt_t, n_lt_f, n_lt, n_sub0, n_sublt, n_suble, n_negsub, m_up_hit, m_up_miss, m_row_hit, m_row_miss, n_eqm, n_meq, n_meqm, n_ltm, n_lem, n_mlt, n_mle, n_sub, n_div, n_and1, n_shl, n_shr, n_inc, n_mul, n_rem, z_lt, z_le, z_nlt, z_nle, Nat.not_lt_zero, Nat.le_zero_eq, Nat.zero_le, if_true, if_false, w1, w2, w3, h31]
  | succ j ih =>
    have hk1 : q_on b (k + 1) ≤ q_on b 16 := q_on_mono (by omega)
    rw [q_on_s] at hk1
    rcases Nat.mod_two_eq_zero_or_one (b / 2 ^ k) with hbit | hbit
    · have key := ih (k + 1) (by omega) v5
      rw [q_on_s, hbit, q_lp, if_neg (by omega), Nat.add_zero] at key
      exact key
    · have gk := hg k (by omega) hbit
      have e31 := hl k (by omega) hbit
      have p2 : I (a + 2) k = nI (q_pos S k) := h.2.1 _ _ _ (cS_2 (by omega))
      have hp : q_pos S k < 30 := w.2.1 k gk
      have key := fun v5 => ih (k + 1) (by omega) v5
      rw [q_on_s, hbit] at key
      rw [e68_6]
      by_cases c : q_pos S k / 6 = A
      · rw [q_lp, if_pos ⟨hbit, c⟩] at key
        cases e : q_lp (q_pos S) b A k with
        | none =>
          rw [e] at key
          simp only [q_oI] at key ⊢
          obtain ⟨hs0, hs1, hs2, hs3, hs4, hs5, hs6, hs7, hs8, hs9, hs10, hs11, hs12, hs13, hs14, hs15, hs16, hs17, hs18, hs19, hs20, hs21, hs22, hs23, hs24, hs25, hs26⟩ := h.1
          simp (disch := omega) only [e68_8, e68_8N, e68_9, e68_12, e68_15, e68_15N, e68_16, e68_19, e68_19N, e68_20, e68_23, e68_25, e68_26, e68_27, e68_29, e68_31, e68_33, e68_34, e68_35, e68_38, e68_39, e68_41, e68_43, e68_44, e68_47, e68_48, e68_51, e68_54, e68_55, true_or, m_psh_s, m_psh_n, m_kl_i, m_kl_f, m_kl_r, m_kl_n, m_kl_j, m_kl_l, m_kl_d, c_i, c_f, c_r, c_n, List.length_nil, List.length_cons, true_and, and_true, Nat.reduceAdd, Nat.reduceLeDiff, Nat.reduceSub, Nat.reduceEqDiff, Nat.reduceLT, ge_iff_le, gt_iff_lt, n_lit, m_in, m_nar0, m_nar1, and_self, not_false_eq_true, not_true_eq_false, ne_eq, reduceIte, ite_self, Nat.reduceMul, Nat.reduceDiv, Nat.reduceMod, Nat.reducePow, Nat.zero_add, Nat.add_zero, Nat.one_mul, Nat.mul_one, n_in, n_min, n_clamp, n_eq_t, n_eq_f, n_eq, n_le_t, n_le_f, n_le, n_lt_t, n_lt_f, n_lt, n_sub0, n_sublt, n_suble, n_negsub, m_up_hit, m_up_miss, m_row_hit, m_row_miss, n_eqm, n_meq, n_meqm, n_ltm, n_lem, n_mlt, n_mle, n_sub, n_div, n_and1, n_shl, n_shr, n_inc, n_mul, n_rem, z_lt, z_le, z_nlt, z_nle, Nat.not_lt_zero, Nat.le_zero_eq, Nat.zero_le, if_true, if_false, hs0, hs1, hs2, hs3, hs4, hs5, hs6, hs7, hs8, hs9, hs10, hs11, hs12, hs13, hs14, hs15, hs16, hs17, hs18, hs19, hs20, hs21, hs22, hs23, hs24, hs25, hs26, w1, w2, w3, h31, e31, p2]
          exact key _
        | some q =>
          have hq := q_lp_lt e
          rw [e] at key
          simp only [q_oI] at key ⊢
          by_cases c2 : q < q_pos S k % 6
          · simp only [if_pos c2] at key
            obtain ⟨hs0, hs1, hs2, hs3, hs4, hs5, hs6, hs7, hs8, hs9, hs10, hs11, hs12, hs13, hs14, hs15, hs16, hs17, hs18, hs19, hs20, hs21, hs22, hs23, hs24, hs25, hs26⟩ := h.1
            simp (disch := omega) only [e68_8, e68_8N, e68_9, e68_12, e68_15, e68_15N, e68_16, e68_19, e68_19N, e68_20, e68_23, e68_25, e68_26, e68_27, e68_29, e68_31, e68_33, e68_34, e68_35, e68_38, e68_39, e68_41, e68_43, e68_44, e68_47, e68_48, e68_51, e68_54, e68_55, true_or, m_psh_s, m_psh_n, m_kl_i, m_kl_f, m_kl_r, m_kl_n, m_kl_j, m_kl_l, m_kl_d, c_i, c_f, c_r, c_n, List.length_nil, List.length_cons, true_and, and_true, Nat.reduceAdd, Nat.reduceLeDiff, Nat.reduceSub, Nat.reduceEqDiff, Nat.reduceLT, ge_iff_le, gt_iff_lt, n_lit, m_in, m_nar0, m_nar1, and_self, not_false_eq_true, not_true_eq_false, ne_eq, reduceIte, ite_self, Nat.reduceMul, Nat.reduceDiv, Nat.reduceMod, Nat.reducePow, Nat.zero_add, Nat.add_zero, Nat.one_mul, Nat.mul_one, n_in, n_min, n_clamp, n_eq_t, n_eq_f, n_eq, n_le_t, n_le_f, n_le, n_lt_t, n_lt_f, n_lt, n_sub0, n_sublt, n_suble, n_negsub, m_up_hit, m_up_miss, m_row_hit, m_row_miss, n_eqm, n_meq, n_meqm, n_ltm, n_lem, n_mlt, n_mle, n_sub, n_div, n_and1, n_shl, n_shr, n_inc, n_mul, n_rem, z_lt, z_le, z_nlt, z_nle, Nat.not_lt_zero, Nat.le_zero_eq, Nat.zero_le, if_true, if_false, hs0, hs1, hs2, hs3, hs4, hs5, hs6, hs7, hs8, hs9, hs10, hs11, hs12, hs13, hs14, hs15, hs16, hs17, hs18, hs19, hs20, hs21, hs22, hs23, hs24, hs25, hs26, w1, w2, w3, h31, e31, p2]
            exact key _
          · simp only [if_neg c2] at key
            obtain ⟨hs0, hs1, hs2, hs3, hs4, hs5, hs6, hs7, hs8, hs9, hs10, hs11, hs12, hs13, hs14, hs15, hs16, hs17, hs18, hs19, hs20, hs21, hs22, hs23, hs24, hs25, hs26⟩ := h.1
            simp (disch := omega) only [e68_8, e68_8N, e68_9, e68_12, e68_15, e68_15N, e68_16, e68_19, e68_19N, e68_20, e68_23, e68_25, e68_26, e68_27, e68_29, e68_31, e68_33, e68_34, e68_35, e68_38, e68_39, e68_41, e68_43, e68_44, e68_47, e68_48, e68_51, e68_54, e68_55, true_or, m_psh_s, m_psh_n, m_kl_i, m_kl_f, m_kl_r, m_kl_n, m_kl_j, m_kl_l, m_kl_d, c_i, c_f, c_r, c_n, List.length_nil, List.length_cons, true_and, and_true, Nat.reduceAdd, Nat.reduceLeDiff, Nat.reduceSub, Nat.reduceEqDiff, Nat.reduceLT, ge_iff_le, gt_iff_lt, n_lit, m_in, m_nar0, m_nar1, and_self, not_false_eq_true, not_true_eq_false, ne_eq, reduceIte, ite_self, Nat.reduceMul, Nat.reduceDiv, Nat.reduceMod, Nat.reducePow, Nat.zero_add, Nat.add_zero, Nat.one_mul, Nat.mul_one, n_in, n_min, n_clamp, n_eq_t, n_eq_f, n_eq, n_le_t, n_le_f, n_le, n_lt_t, n_lt_f, n_lt, n_sub0, n_sublt, n_suble, n_negsub, m_up_hit, m_up_miss, m_row_hit, m_row_miss, n_eqm, n_meq, n_meqm, n_ltm, n_lem, n_mlt, n_mle, n_sub, n_div, n_and1, n_shl, n_shr, n_inc, n_mul, n_rem, z_lt, z_le, z_nlt, z_nle, Nat.not_lt_zero, Nat.le_zero_eq, Nat.zero_le, if_true, if_false, hs0, hs1, hs2, hs3, hs4, hs5, hs6, hs7, hs8, hs9, hs10, hs11, hs12, hs13, hs14, hs15, hs16, hs17, hs18, hs19, hs20, hs21, hs22, hs23, hs24, hs25, hs26, w1, w2, w3, h31, e31, p2]
            exact key _
      · rw [q_lp, if_neg (fun z => c z.2)] at key
        obtain ⟨hs0, hs1, hs2, hs3, hs4, hs5, hs6, hs7, hs8, hs9, hs10, hs11, hs12, hs13, hs14, hs15, hs16, hs17, hs18, hs19, hs20, hs21, hs22, hs23, hs24, hs25, hs26⟩ := h.1
        simp (disch := omega) only [e68_8, e68_8N, e68_9, e68_12, e68_15, e68_15N, e68_16, e68_19, e68_19N, e68_20, e68_23, e68_25, e68_26, e68_27, e68_29, e68_31, e68_33, e68_34, e68_35, e68_38, e68_39, e68_41, e68_43, e68_44, e68_47, e68_48, e68_51, e68_54, e68_55, true_or, m_psh_s, m_psh_n, m_kl_i, m_kl_f, m_kl_r, m_kl_n, m_kl_j, m_kl_l, m_kl_d, c_i, c_f, c_r, c_n, List.length_nil, List.length_cons, true_and, and_true, Nat.reduceAdd, Nat.reduceLeDiff, Nat.reduceSub, Nat.reduceEqDiff, Nat.reduceLT, ge_iff_le, gt_iff_lt, n_lit, m_in, m_nar0, m_nar1, and_self, not_false_eq_true, not_true_eq_false, ne_eq, reduceIte, ite_self, Nat.reduceMul, Nat.reduceDiv, Nat.reduceMod, Nat.reducePow, Nat.zero_add, Nat.add_zero, Nat.one_mul, Nat.mul_one, n_in, n_min, n_clamp, n_eq_t, n_eq_f, n_eq, n_le_t, n_le_f, n_le, n_lt_t, n_lt_f, n_lt, n_sub0, n_sublt, n_suble, n_negsub, m_up_hit, m_up_miss, m_row_hit, m_row_miss, n_eqm, n_meq, n_meqm, n_ltm, n_lem, n_mlt, n_mle, n_sub, n_div, n_and1, n_shl, n_shr, n_inc, n_mul, n_rem, z_lt, z_le, z_nlt, z_nle, Nat.not_lt_zero, Nat.le_zero_eq, Nat.zero_le, if_true, if_false, hs0, hs1, hs2, hs3, hs4, hs5, hs6, hs7, hs8, hs9, hs10, hs11, hs12, hs13, hs14, hs15, hs16, hs17, hs18, hs19, hs20, hs21, hs22, hs23, hs24, hs25, hs26, w1, w2, w3, h31, e31, p2]
        exact key _
theorem s_lp {b A m : Nat} (h : CSh lay I F R n a S sp hi) (w : Wsh S) (hw : WK lay R) (hm : m = q_on b 16) (hm6 : m ≤ 6) (h31 : I 30 1 = nI m) (hl : ∀ g, g < 16 → b / 2 ^ g % 2 = 1 → I 31 (q_on b g) = nI g) (hg : ∀ g, g < 16 → b / 2 ^ g % 2 = 1 → g < S 3) (hA : A < 5) (hd : 1 ≤ d) :
    Ev lay d 68 0 [.ref 30, .ref a, .int (nI A), m_j, m_j, m_j] [] I F R n Q ↔ Q (some (.int (q_oI (q_lp (q_pos S) b A 16)))) I F R n := by
  have key := s_lp0 (d := d) (Q := Q) h w hw hm hm6 h31 hl hg hA hd 16 0 rfl m_j
  simp (disch := omega) only [e68_0, e68_2, e68_3, e68_4, true_or, m_psh_s, m_psh_n, m_kl_i, m_kl_f, m_kl_r, m_kl_n, m_kl_j, m_kl_l, m_kl_d, c_i, c_f, c_r, c_n, List.length_nil, List.length_cons, true_and, and_true, Nat.reduceAdd, Nat.reduceLeDiff, Nat.reduceSub, Nat.reduceEqDiff, Nat.reduceLT, ge_iff_le, gt_iff_lt, n_lit, m_in, m_nar0, m_nar1, and_self, not_false_eq_true, not_true_eq_false, ne_eq, reduceIte, ite_self, Nat.reduceMul, Nat.reduceDiv, Nat.reduceMod, Nat.reducePow, Nat.zero_add, Nat.add_zero, Nat.one_mul, Nat.mul_one, n_in, n_min, n_clamp, n_eq_t, n_eq_f, n_eq, n_le_t, n_le_f, n_le, n_lt_t, n_lt_f, n_lt, n_sub0, n_sublt, n_suble, n_negsub, m_up_hit, m_up_miss, m_row_hit, m_row_miss, n_eqm, n_meq, n_meqm, n_ltm, n_lem, n_mlt, n_mle, n_sub, n_div, n_and1, n_shl, n_shr, n_inc, n_mul, n_rem, z_lt, z_le, z_nlt, z_nle, Nat.not_lt_zero, Nat.le_zero_eq, Nat.zero_le, if_true, if_false]
  exact key
theorem s_sh0 {b m : Nat} (h : CSh lay I F R n a S sp hi) (w : Wsh S) (hw : WK lay R) (hm : m = q_on b 16) (hm6 : m ≤ 6) (h31 : I 30 1 = nI m) (hl : ∀ g, g < 16 → b / 2 ^ g % 2 = 1 → I 31 (q_on b g) = nI g) (hg : ∀ g, g < 16 → b / 2 ^ g % 2 = 1 → g < S 3) (hd : 2 ≤ d) (j A : Nat) (hA : A + j = 5) (v2 : Int32) (v6 : Value) :
    Ev lay d 67 13 [.ref 30, .ref a, .int v2, .int (nI (q_th (q_pos S) b A)), .int (nI (q_la (q_pos S) b A)), .int (nI A), v6] [] I F R n Q ↔ Q (some (.int (nI (q_short S b)))) I F R n := by
  have hw' := hw
  obtain ⟨w1, w2, w3⟩ := hw
  have p0 : I (a + 1) 2 = nI (S 2) := h.2.1 _ _ _ (cS_1 (by omega))
  induction j generalizing A v6 with
  | zero =>
    have hk2 : A = 5 := by omega
    subst hk2
    rw [e67_13]
    obtain ⟨hs0, hs1, hs2, hs3, hs4, hs5, hs6, hs7, hs8, hs9, hs10, hs11, hs12, hs13, hs14, hs15, hs16, hs17, hs18, hs19, hs20, hs21, hs22, hs23, hs24, hs25, hs26⟩ := h.1
    simp (disch := omega) only [e67_15, e67_16, e67_19, e67_19N, e67_20, e67_20N, e67_21, e67_23, e67_26, e67_28, e67_30, e67_32, e67_35, e67_36, e67_38, e67_39, e67_40, e67_42, e67_44, e67_47, e67_50, e67_51, e67_52, e67_52N, e67_53, e67_56, e67_57, e67_58, e67_60, e67_61, e67_62, e67_63, true_or, m_psh_s, m_psh_n, m_kl_i, m_kl_f, m_kl_r, m_kl_n, m_kl_j, m_kl_l, m_kl_d, c_i, c_f, c_r, c_n, List.length_nil, List.length_cons, true_and, and_true, Nat.reduceAdd, Nat.reduceLeDiff, Nat.reduceSub, Nat.reduceEqDiff, Nat.reduceLT, ge_iff_le, gt_iff_lt, n_lit, m_in, m_nar0, m_nar1, and_self, not_false_eq_true, not_true_eq_false, ne_eq, reduceIte, ite_self, Nat.reduceMul, Nat.reduceDiv, Nat.reduceMod, Nat.reducePow, Nat.zero_add, Nat.add_zero, Nat.one_mul, Nat.mul_one, n_in, n_min, n_clamp, n_eq_t, n_eq_f, n_eq, n_le_t, n_le_f, n_le, n_lt_t, n_lt_f, n_lt, n_sub0, n_sublt, n_suble, n_negsub, m_up_hit, m_up_miss, m_row_hit, m_row_miss, n_eqm, n_meq, n_meqm, n_ltm, n_lem, n_mlt, n_mle, n_sub, n_div, n_and1, n_shl, n_shr, n_inc, n_mul, n_rem, z_lt, z_le, z_nlt, z_nle, Nat.not_lt_zero, Nat.le_zero_eq, Nat.zero_le, if_true, if_false, hs0, hs1, hs2, hs3, hs4, hs5, hs6, hs7, hs8, hs9, hs10, hs11, hs12, hs13, hs14, hs15, hs16, hs17, hs18, hs19, hs20, hs21, hs22, hs23, hs24, hs25, hs26, w1, p0]
    rfl
  | succ j ih =>
    have kl : ∀ (Q : mP), _ := fun Q => s_lp (d := d - 1) (Q := Q) (A := A) h w hw' hm hm6 h31 hl hg (by omega) (by omega)
    have key := fun v6 => ih (A + 1) (by omega) v6
    rw [q_th, q_la] at key
    rw [e67_13]
    cases e : q_lp (q_pos S) b A 16 with
    | none =>
      rw [e] at key kl
      simp only [Option.getD_none, Option.isSome_none, Nat.add_zero, Bool.false_eq_true, if_false] at key
      simp only [q_oI] at kl
      simp (disch := omega) only [e67_15, e67_16, e67_19, e67_19N, e67_20, e67_20N, e67_21, e67_23, e67_26, e67_28, e67_30, e67_32, e67_35, e67_36, e67_38, e67_39, e67_40, e67_42, e67_44, e67_47, true_or, m_psh_s, m_psh_n, m_kl_i, m_kl_f, m_kl_r, m_kl_n, m_kl_j, m_kl_l, m_kl_d, c_i, c_f, c_r, c_n, List.length_nil, List.length_cons, true_and, and_true, Nat.reduceAdd, Nat.reduceLeDiff, Nat.reduceSub, Nat.reduceEqDiff, Nat.reduceLT, ge_iff_le, gt_iff_lt, n_lit, m_in, m_nar0, m_nar1, and_self, not_false_eq_true, not_true_eq_false, ne_eq, reduceIte, ite_self, Nat.reduceMul, Nat.reduceDiv, Nat.reduceMod, Nat.reducePow, Nat.zero_add, Nat.add_zero, Nat.one_mul, Nat.mul_one, n_in, n_min, n_clamp, n_eq_t, n_eq_f, n_eq, n_le_t, n_le_f, n_le, n_lt_t, n_lt_f, n_lt, n_sub0, n_sublt, n_suble, n_negsub, m_up_hit, m_up_miss, m_row_hit, m_row_miss, n_eqm, n_meq, n_meqm, n_ltm, n_lem, n_mlt, n_mle, n_sub, n_div, n_and1, n_shl, n_shr, n_inc, n_mul, n_rem, z_lt, z_le, z_nlt, z_nle, Nat.not_lt_zero, Nat.le_zero_eq, Nat.zero_le, if_true, if_false, w1, kl]
      exact key _
    | some q =>
      have hq := q_lp_lt e
      rw [e] at key kl
      simp only [Option.getD_some, Option.isSome_some, if_true] at key
      simp only [q_oI] at kl
      simp (disch := omega) only [e67_15, e67_16, e67_19, e67_19N, e67_20, e67_20N, e67_21, e67_23, e67_26, e67_28, e67_30, e67_32, e67_35, e67_36, e67_38, e67_39, e67_40, e67_42, e67_44, e67_47, true_or, m_psh_s, m_psh_n, m_kl_i, m_kl_f, m_kl_r, m_kl_n, m_kl_j, m_kl_l, m_kl_d, c_i, c_f, c_r, c_n, List.length_nil, List.length_cons, true_and, and_true, Nat.reduceAdd, Nat.reduceLeDiff, Nat.reduceSub, Nat.reduceEqDiff, Nat.reduceLT, ge_iff_le, gt_iff_lt, n_lit, m_in, m_nar0, m_nar1, and_self, not_false_eq_true, not_true_eq_false, ne_eq, reduceIte, ite_self, Nat.reduceMul, Nat.reduceDiv, Nat.reduceMod, Nat.reducePow, Nat.zero_add, Nat.add_zero, Nat.one_mul, Nat.mul_one, n_in, n_min, n_clamp, n_eq_t, n_eq_f, n_eq, n_le_t, n_le_f, n_le, n_lt_t, n_lt_f, n_lt, n_sub0, n_sublt, n_suble, n_negsub, m_up_hit, m_up_miss, m_row_hit, m_row_miss, n_eqm, n_meq, n_meqm, n_ltm, n_lem, n_mlt, n_mle, n_sub, n_div, n_and1, n_shl, n_shr, n_inc, n_mul, n_rem, z_lt, z_le, z_nlt, z_nle, Nat.not_lt_zero, Nat.le_zero_eq, Nat.zero_le, if_true, if_false, w1, kl]
      exact key _
theorem s_shortestOf {b : Nat} (h : CSh lay I F R n a S sp hi) (w : Wsh S) (hw : WK lay R) (hd : 3 ≤ d) (ha : a + 13 < 30 ∨ 31 < a) (hb : bOK S b) (hQ : ∀ I', Off 30 31 I F R I' F R → Q (some (.int (nI (q_short S b)))) I' F R n) : Ev lay d 67 0 [.ref 30, .ref a, .int (nI b), m_j, m_j, m_j, m_j] [] I F R n Q := by
  obtain ⟨hb1, hb2, hb3⟩ := hb
  have kl : ∀ (Q : mP), _ → _ := fun Q hQ => s_list (d := d - 1) (I := I) (F := F) (n := n) (Q := Q) hw hb1 hb2 hQ
  have w1 := hw.1
  simp (disch := omega) only [e67_0, e67_0N, e67_1, e67_2, true_or, m_psh_s, m_psh_n, m_kl_i, m_kl_f, m_kl_r, m_kl_n, m_kl_j, m_kl_l, m_kl_d, c_i, c_f, c_r, c_n, List.length_nil, List.length_cons, true_and, and_true, Nat.reduceAdd, Nat.reduceLeDiff, Nat.reduceSub, Nat.reduceEqDiff, Nat.reduceLT, ge_iff_le, gt_iff_lt, n_lit, m_in, m_nar0, m_nar1, and_self, not_false_eq_true, not_true_eq_false, ne_eq, reduceIte, ite_self, Nat.reduceMul, Nat.reduceDiv, Nat.reduceMod, Nat.reducePow, Nat.zero_add, Nat.add_zero, Nat.one_mul, Nat.mul_one, n_in, n_min, n_clamp, n_eq_t, n_eq_f, n_eq, n_le_t, n_le_f, n_le, n_lt_t, n_lt_f, n_lt, n_sub0, n_sublt, n_suble, n_negsub, m_up_hit, m_up_miss, m_row_hit, m_row_miss, n_eqm, n_meq, n_meqm, n_ltm, n_lem, n_mlt, n_mle, n_sub, n_div, n_and1, n_shl, n_shr, n_inc, n_mul, n_rem, z_lt, z_le, z_nlt, z_nle, Nat.not_lt_zero, Nat.le_zero_eq, Nat.zero_le, if_true, if_false, w1]
  apply kl
  intro I1 m1 m2 m3
  have h1 := CSh_off h m3 (by omega) (Nat.le_refl _) (by omega)
  have key := (s_sh0 (d := d) (Q := Q) h1 w hw rfl hb2 m1 m2 hb3 (by omega) 5 0 rfl (nI b) m_j).mpr (hQ I1 m3)
  simp (disch := omega) only [e67_5, e67_6, e67_7, e67_8, e67_10, e67_11, true_or, m_psh_s, m_psh_n, m_kl_i, m_kl_f, m_kl_r, m_kl_n, m_kl_j, m_kl_l, m_kl_d, c_i, c_f, c_r, c_n, List.length_nil, List.length_cons, true_and, and_true, Nat.reduceAdd, Nat.reduceLeDiff, Nat.reduceSub, Nat.reduceEqDiff, Nat.reduceLT, ge_iff_le, gt_iff_lt, n_lit, m_in, m_nar0, m_nar1, and_self, not_false_eq_true, not_true_eq_false, ne_eq, reduceIte, ite_self, Nat.reduceMul, Nat.reduceDiv, Nat.reduceMod, Nat.reducePow, Nat.zero_add, Nat.add_zero, Nat.one_mul, Nat.mul_one, n_in, n_min, n_clamp, n_eq_t, n_eq_f, n_eq, n_le_t, n_le_f, n_le, n_lt_t, n_lt_f, n_lt, n_sub0, n_sublt, n_suble, n_negsub, m_up_hit, m_up_miss, m_row_hit, m_row_miss, n_eqm, n_meq, n_meqm, n_ltm, n_lem, n_mlt, n_mle, n_sub, n_div, n_and1, n_shl, n_shr, n_inc, n_mul, n_rem, z_lt, z_le, z_nlt, z_nle, Nat.not_lt_zero, Nat.le_zero_eq, Nat.zero_le, if_true, if_false]
  exact key
def q_sht (S : Nat → Nat) (x : Int32) : Int32 := if q_err S x = nI 0 then nI (q_short S (q_N x)) else q_err S x
theorem f_shortest {x : Int32} (h : XS lay I F R n S sp hi nx hs pl pc sv) (w : Wsh S) (hd : 4 ≤ d) (hQ : ∀ I' F' R', XS lay I' F' R' n S sp hi nx hs pl pc sv → FrM n I F R I' F' R' → Q (some (.int (q_sht S x))) I' F' R' n) : Ev lay d 66 0 [.ref 1, .int x, m_j] [] I F R n Q := by
  have hX := h
  have l2 := XS_sh h
  have ke : ∀ (d : Nat) (Q : mP), 1 ≤ d → (_ ↔ _) := fun d Q hd => s_err (d := d) (Q := Q) (x := x) h.2.2.1 h.1.1.1 h.1.1.2.1 w.1 hd
  obtain ⟨⟨x1, x2, x3, x4, x5, x6, x7, x8, x9⟩, ⟨xw1, xw2, xw3⟩, ⟨xv1, xv2⟩, ⟨xp1, xp2, xp3, xp4, xp5⟩, ⟨xh1, xh2, xh3, xh4⟩, xs1, xs2, xs3⟩ := h.1
  unfold q_sht at hQ
  simp (disch := omega) only [e66_0, e66_0N, e66_1, e66_2, true_or, m_psh_s, m_psh_n, m_kl_i, m_kl_f, m_kl_r, m_kl_n, m_kl_j, m_kl_l, m_kl_d, c_i, c_f, c_r, c_n, List.length_nil, List.length_cons, true_and, and_true, Nat.reduceAdd, Nat.reduceLeDiff, Nat.reduceSub, Nat.reduceEqDiff, Nat.reduceLT, ge_iff_le, gt_iff_lt, n_lit, m_in, m_nar0, m_nar1, and_self, not_false_eq_true, not_true_eq_false, ne_eq, reduceIte, ite_self, Nat.reduceMul, Nat.reduceDiv, Nat.reduceMod, Nat.reducePow, Nat.zero_add, Nat.add_zero, Nat.one_mul, Nat.mul_one, n_in, n_min, n_clamp, n_eq_t, n_eq_f, n_eq, n_le_t, n_le_f, n_le, n_lt_t, n_lt_f, n_lt, n_sub0, n_sublt, n_suble, n_negsub, m_up_hit, m_up_miss, m_row_hit, m_row_miss, n_eqm, n_meq, n_meqm, n_ltm, n_lem, n_mlt, n_mle, n_sub, n_div, n_and1, n_shl, n_shr, n_inc, n_mul, n_rem, z_lt, z_le, z_nlt, z_nle, Nat.not_lt_zero, Nat.le_zero_eq, Nat.zero_le, if_true, if_false, x1, x2, x3, x4, x5, x6, x7, x8, x9, xw1, xv1, xp1, xp2, xp3, xp4, xp5, xh1, xs1, xs2, ke]
  by_cases c : q_err S x = nI 0
  · obtain ⟨b1, b2, b3⟩ := q_err_ok w.1 c
    rw [if_pos c] at hQ
    have kl : ∀ (Q : mP), _ → _ := fun Q hQ => s_shortestOf (d := d - 1) (Q := Q) h.2.2.1 w h.1.2.1 (by omega) (by omega) b1 hQ
    rw [← b2] at kl
    simp (disch := omega) only [e66_5, e66_6, e66_7, e66_10, e66_11, e66_14, e66_14N, e66_15, e66_18, e66_18N, e66_19, e66_22, e66_23, true_or, m_psh_s, m_psh_n, m_kl_i, m_kl_f, m_kl_r, m_kl_n, m_kl_j, m_kl_l, m_kl_d, c_i, c_f, c_r, c_n, List.length_nil, List.length_cons, true_and, and_true, Nat.reduceAdd, Nat.reduceLeDiff, Nat.reduceSub, Nat.reduceEqDiff, Nat.reduceLT, ge_iff_le, gt_iff_lt, n_lit, m_in, m_nar0, m_nar1, and_self, not_false_eq_true, not_true_eq_false, ne_eq, reduceIte, ite_self, Nat.reduceMul, Nat.reduceDiv, Nat.reduceMod, Nat.reducePow, Nat.zero_add, Nat.add_zero, Nat.one_mul, Nat.mul_one, n_in, n_min, n_clamp, n_eq_t, n_eq_f, n_eq, n_le_t, n_le_f, n_le, n_lt_t, n_lt_f, n_lt, n_sub0, n_sublt, n_suble, n_negsub, m_up_hit, m_up_miss, m_row_hit, m_row_miss, n_eqm, n_meq, n_meqm, n_ltm, n_lem, n_mlt, n_mle, n_sub, n_div, n_and1, n_shl, n_shr, n_inc, n_mul, n_rem, z_lt, z_le, z_nlt, z_nle, Nat.not_lt_zero, Nat.le_zero_eq, Nat.zero_le, if_true, if_false, x1, x2, x3, x4, x5, x6, x7, x8, x9, xw1, xv1, xp1, xp2, xp3, xp4, xp5, xh1, xs1, xs2, l2, c]
    apply kl
    intro I1 t1
    have X1 := XS_now hX (CSh_off hX.2.2.1 t1 (by omega) (Nat.le_refl _) (by omega)) (FrN_k t1) (Nat.le_refl _)
    have key := hQ I1 F R X1 (FrN_M (FrN_k t1))
    simp (disch := omega) only [e66_26, true_or, m_psh_s, m_psh_n, m_kl_i, m_kl_f, m_kl_r, m_kl_n, m_kl_j, m_kl_l, m_kl_d, c_i, c_f, c_r, c_n, List.length_nil, List.length_cons, true_and, and_true, Nat.reduceAdd, Nat.reduceLeDiff, Nat.reduceSub, Nat.reduceEqDiff, Nat.reduceLT, ge_iff_le, gt_iff_lt, n_lit, m_in, m_nar0, m_nar1, and_self, not_false_eq_true, not_true_eq_false, ne_eq, reduceIte, ite_self, Nat.reduceMul, Nat.reduceDiv, Nat.reduceMod, Nat.reducePow, Nat.zero_add, Nat.add_zero, Nat.one_mul, Nat.mul_one, n_in, n_min, n_clamp, n_eq_t, n_eq_f, n_eq, n_le_t, n_le_f, n_le, n_lt_t, n_lt_f, n_lt, n_sub0, n_sublt, n_suble, n_negsub, m_up_hit, m_up_miss, m_row_hit, m_row_miss, n_eqm, n_meq, n_meqm, n_ltm, n_lem, n_mlt, n_mle, n_sub, n_div, n_and1, n_shl, n_shr, n_inc, n_mul, n_rem, z_lt, z_le, z_nlt, z_nle, Nat.not_lt_zero, Nat.le_zero_eq, Nat.zero_le, if_true, if_false]
    exact key
  · rw [if_neg c] at hQ
    have key := hQ I F R hX FrM_refl
    simp (disch := omega) only [e66_5, e66_6, e66_7, e66_10, e66_11, e66_14, e66_14N, e66_15, e66_18, e66_18N, e66_19, e66_22, e66_23, e66_26, true_or, m_psh_s, m_psh_n, m_kl_i, m_kl_f, m_kl_r, m_kl_n, m_kl_j, m_kl_l, m_kl_d, c_i, c_f, c_r, c_n, List.length_nil, List.length_cons, true_and, and_true, Nat.reduceAdd, Nat.reduceLeDiff, Nat.reduceSub, Nat.reduceEqDiff, Nat.reduceLT, ge_iff_le, gt_iff_lt, n_lit, m_in, m_nar0, m_nar1, and_self, not_false_eq_true, not_true_eq_false, ne_eq, reduceIte, ite_self, Nat.reduceMul, Nat.reduceDiv, Nat.reduceMod, Nat.reducePow, Nat.zero_add, Nat.add_zero, Nat.one_mul, Nat.mul_one, n_in, n_min, n_clamp, n_eq_t, n_eq_f, n_eq, n_le_t, n_le_f, n_le, n_lt_t, n_lt_f, n_lt, n_sub0, n_sublt, n_suble, n_negsub, m_up_hit, m_up_miss, m_row_hit, m_row_miss, n_eqm, n_meq, n_meqm, n_ltm, n_lem, n_mlt, n_mle, n_sub, n_div, n_and1, n_shl, n_shr, n_inc, n_mul, n_rem, z_lt, z_le, z_nlt, z_nle, Nat.not_lt_zero, Nat.le_zero_eq, Nat.zero_le, if_true, if_false, c]
    exact key
end SHORT
