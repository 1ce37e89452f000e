section WALKER
-- bits of a set of goods, and the walk as numbers
theorem n_dec {a b : Nat} (h : b ≤ a) : nI a + -nI b = nI (a - b) := by
  rw [← Int32.sub_eq_add_neg, n_sub h]
theorem b_tb (x i : Nat) : x / 2 ^ i % 2 = (x.testBit i).toNat := by
  rw [Nat.testBit_eq_decide_div_mod_eq]
  rcases Nat.mod_two_eq_zero_or_one (x / 2 ^ i) with h | h <;> simp [h]
theorem b_xor (b g h : Nat) : (b ^^^ 2 ^ g) / 2 ^ h % 2 = if h = g then 1 - b / 2 ^ h % 2 else b / 2 ^ h % 2 := by
  rw [b_tb, b_tb, Nat.testBit_xor, Nat.testBit_two_pow]
  by_cases e : h = g
  · subst e
    cases b.testBit h <;> simp
  · have e' : ¬ g = h := fun x => e x.symm
    cases b.testBit h <;> simp [e, e']
theorem b_lt {b g : Nat} (hb : b < 65536) (hg : g < 16) : b ^^^ 2 ^ g < 65536 := by
  have h1 : (2 : Nat) ^ g < 2 ^ 16 := Nat.pow_lt_pow_right (by decide) hg
  exact Nat.xor_lt_two_pow (n := 16) hb h1
def q_on (b : Nat) : Nat → Nat
  | 0 => 0
  | k + 1 => q_on b k + b / 2 ^ k % 2
theorem q_on_s (b k : Nat) : q_on b (k + 1) = q_on b k + b / 2 ^ k % 2 := rfl
theorem q_on_mono {b j k : Nat} (h : j ≤ k) : q_on b j ≤ q_on b k := by
  induction k with
  | zero =>
    have : j = 0 := by omega
    subst this; exact Nat.le_refl _
  | succ k ih =>
    by_cases e : j = k + 1
    · subst e; exact Nat.le_refl _
    · have := ih (by omega)
      rw [q_on_s]; omega
theorem q_on_lt {b j k : Nat} (h : j < k) (hb : b / 2 ^ j % 2 = 1) : q_on b j < q_on b k := by
  have := q_on_mono (b := b) (show j + 1 ≤ k from h)
  rw [q_on_s] at this
  omega
theorem q_on_x {b g k : Nat} (hb : b / 2 ^ g % 2 = 1) : q_on (b ^^^ 2 ^ g) k = if g < k then q_on b k - 1 else q_on b k := by
  induction k with
  | zero => rfl
  | succ k ih =>
    rw [q_on_s, q_on_s, ih, b_xor]
    by_cases e : k = g
    · subst e
      rw [if_neg (by omega), if_pos rfl, if_pos (by omega), hb]
      rfl
    · rw [if_neg e]
      by_cases e2 : g < k
      · have := q_on_lt e2 hb
        rw [if_pos e2, if_pos (by omega)]; omega
      · rw [if_neg e2, if_neg (by omega)]
def q_nx (f : Nat → Nat) (b : Nat) : Nat → Option Nat
  | 0 => none
  | k + 1 => if b / 2 ^ k % 2 = 1 then (match q_nx f b k with
    | none => some k
    | some g => if f k < f g then some k else some g) else q_nx f b k
theorem q_nx_bit {f : Nat → Nat} {b k g : Nat} (h : q_nx f b k = some g) : g < k ∧ b / 2 ^ g % 2 = 1 := by
  induction k with
  | zero => cases h
  | succ k ih =>
    unfold q_nx at h
    split at h
    · rename_i hb
      split at h
      · cases h; exact ⟨by omega, hb⟩
      · rename_i g' e
        split at h
        · cases h; exact ⟨by omega, hb⟩
        · cases h
          have := ih e
          exact ⟨by omega, this.2⟩
    · have := ih h
      exact ⟨by omega, this.2⟩
theorem q_nx_none {f : Nat → Nat} {b k : Nat} (h : q_nx f b k = none) : q_on b k = 0 := by
  induction k with
  | zero => rfl
  | succ k ih =>
    unfold q_nx at h
    split at h
    · split at h
      · cases h
      · split at h <;> cases h
    · rw [q_on_s, ih h]
      omega
def q_wl (c : Nat) (pos : Nat → Nat) : Nat → Nat → Nat → Nat
  | 0, _, s => q_dsk c s
  | k + 1, b, s => match q_nx (fun g => q_stp c s (pos g)) b 16 with
    | none => q_dsk c s
    | some g => q_stp c s (pos g) + q_wl c pos k (b ^^^ 2 ^ g) (pos g)
def q_vi (c : Nat) (pos : Nat → Nat) : Nat → Nat → Nat → Nat
  | 0, b, s => (q_nx (fun g => q_stp c s (pos g)) b 16).getD 0
  | k + 1, b, s => match q_nx (fun g => q_stp c s (pos g)) b 16 with
    | none => 0
    | some g => q_vi c pos k (b ^^^ 2 ^ g) (pos g)
def q_pos (S : Nat → Nat) : Nat → Nat := fun g => S (4 + 4 * g)
def q_len (S : Nat → Nat) (b : Nat) : Nat := 1 + q_wl (S 2) (q_pos S) (q_on b 16) b 0
def bOK (S : Nat → Nat) (b : Nat) : Prop := b < 65536 ∧ q_on b 16 ≤ 6 ∧ ∀ g, g < 16 → b / 2 ^ g % 2 = 1 → g < S 3
theorem q_stp_lt {c s o : Nat} (hc : c ≤ 9) (hs : s < 30) (ho : o < 30) : q_stp c s o < 60 := by
  unfold q_stp
  have h1 : c * (if o / 6 ≤ s / 6 then s / 6 - o / 6 else o / 6 - s / 6) ≤ 9 * 4 := Nat.mul_le_mul hc (by split <;> omega)
  split
  · split <;> omega
  · omega
def WK (lay : mL) (R : mR) : Prop := lay 30 = (12, 0) ∧ lay 31 = (0, 6) ∧ m_rv (R 30 0) = .ref 31
variable {lay : mL} {d a n : Nat} {I : mI} {F : mF} {R : mR} {Q : mP} {S : Nat → Nat} {sp : Nat → UInt32} {hi : List Nat}
theorem s_list0 {b : Nat} (hw : WK lay R) (hb : b < 65536) (h6 : q_on b 16 ≤ 6) (j k : Nat) (hk : k + j = 16) (hm : I 30 1 = nI (q_on b k)) (hl : ∀ g, g < k → b / 2 ^ g % 2 = 1 → I 31 (q_on b g) = nI g) (hQ : ∀ I', I' 30 1 = nI (q_on b 16) → (∀ g, g < 16 → b / 2 ^ g % 2 = 1 → I' 31 (q_on b g) = nI g) → Off 30 31 I F R I' F R → Q none I' F R n) : Ev lay d 32 7 [.ref 30, .int (nI b), .int (nI k)] [] I F R n Q := by
  obtain ⟨w1, w2, w3⟩ := hw
  induction j generalizing k I with
  | zero =>
    have hk2 : k = 16 := by omega
    subst hk2
    have key := hQ I hm hl Off_refl
    rw [e32_7]
    simp (disch := omega) only [e32_8, e32_10, e32_13, e32_14, e32_15, e32_16, e32_17, e32_18, e32_21, e32_21N, e32_22, e32_25, e32_27, e32_30, e32_30N, e32_31, e32_34, e32_34N, e32_35, e32_38, e32_39, e32_40, e32_40N, e32_41, e32_42, e32_45, e32_46, e32_47, e32_50, e32_53, e32_56, true_or, m_psh_s, m_psh_n, m_kl_i, m_kl_f, m_kl_r, m_kl_n, m_kl_j, m_kl_l, m_kl_d, c_i, c_f, c_r, c_n, List.length_nil, List.length_cons, true_and, and_true, Nat.reduceAdd, Nat.reduceLeDiff, Nat.reduceSub, Nat.reduceEqDiff, Nat.reduceLT, ge_iff_le, gt_iff_lt, n_lit, m_in, m_nar0, m_nar1, and_self, not_false_eq_true, not_true_eq_false, ne_eq, reduceIte, ite_self, Nat.reduceMul, Nat.reduceDiv, Nat.reduceMod, Nat.reducePow, Nat.zero_add, Nat.add_zero, Nat.one_mul, Nat.mul_one, n_in, n_min, n_clamp, n_eq_t, n_eq_f, n_eq, n_le_t, n_le_f, n_le, n_lt_t, n_lt_f, n_lt, n_sub0, n_sublt, n_suble, n_negsub, m_up_hit, m_up_miss, m_row_hit, m_row_miss, n_eqm, n_meq, n_meqm, n_ltm, n_lem, n_mlt, n_mle, n_sub, n_div, n_and1, n_shl, n_shr, n_inc, n_mul, n_rem, z_lt, z_le, z_nlt, z_nle, Nat.not_lt_zero, Nat.le_zero_eq, Nat.zero_le, if_true, if_false]
    exact key
  | succ j ih =>
    have hk1 : q_on b (k + 1) ≤ q_on b 16 := q_on_mono (by omega)
    rw [q_on_s] at hk1
    rw [e32_7]
    rcases Nat.mod_two_eq_zero_or_one (b / 2 ^ k) with hbit | hbit
    · have key := ih (I := I) (k + 1) (by omega) (by rw [q_on_s, hbit]; exact hm) (fun g hg hgb => by
        by_cases e : g = k
        · subst e; omega
        · exact hl g (by omega) hgb) hQ
      simp (disch := omega) only [e32_8, e32_10, e32_13, e32_14, e32_15, e32_16, e32_17, e32_18, e32_21, e32_21N, e32_22, e32_25, e32_27, e32_30, e32_30N, e32_31, e32_34, e32_34N, e32_35, e32_38, e32_39, e32_40, e32_40N, e32_41, e32_42, e32_45, e32_46, e32_47, e32_50, e32_53, e32_56, true_or, m_psh_s, m_psh_n, m_kl_i, m_kl_f, m_kl_r, m_kl_n, m_kl_j, m_kl_l, m_kl_d, c_i, c_f, c_r, c_n, List.length_nil, List.length_cons, true_and, and_true, Nat.reduceAdd, Nat.reduceLeDiff, Nat.reduceSub, Nat.reduceEqDiff, Nat.reduceLT, ge_iff_le, gt_iff_lt, n_lit, m_in, m_nar0, m_nar1, and_self, not_false_eq_true, not_true_eq_false, ne_eq, reduceIte, ite_self, Nat.reduceMul, Nat.reduceDiv, Nat.reduceMod, Nat.reducePow, Nat.zero_add, Nat.add_zero, Nat.one_mul, Nat.mul_one, n_in, n_min, n_clamp, n_eq_t, n_eq_f, n_eq, n_le_t, n_le_f, n_le, n_lt_t, n_lt_f, n_lt, n_sub0, n_sublt, n_suble, n_negsub, m_up_hit, m_up_miss, m_row_hit, m_row_miss, n_eqm, n_meq, n_meqm, n_ltm, n_lem, n_mlt, n_mle, n_sub, n_div, n_and1, n_shl, n_shr, n_inc, n_mul, n_rem, z_lt, z_le, z_nlt, z_nle, Nat.not_lt_zero, Nat.le_zero_eq, Nat.zero_le, if_true, if_false, hbit]
      exact key
    · have key := ih (I := m_up (m_up I 31 (q_on b k) (nI k)) 30 1 (nI (q_on b k + 1))) (k + 1) (by omega) (by rw [q_on_s, hbit, m_up_at]) (fun g hg hgb => by
        rw [m_up_miss (by omega)]
        by_cases e : g = k
        · subst e; rw [m_up_at]
        · have := q_on_lt (k := k) (show g < k by omega) hgb
          rw [m_up_miss (by omega)]
          exact hl g (by omega) hgb) (fun I' h1 h2 h3 => hQ I' h1 h2 (Off_trans (Off_trans (Off_I (by omega) (by omega)) (Off_I (by omega) (by omega))) h3))
      simp (disch := omega) only [e32_8, e32_10, e32_13, e32_14, e32_15, e32_16, e32_17, e32_18, e32_21, e32_21N, e32_22, e32_25, e32_27, e32_30, e32_30N, e32_31, e32_34, e32_34N, e32_35, e32_38, e32_39, e32_40, e32_40N, e32_41, e32_42, e32_45, e32_46, e32_47, e32_50, e32_53, e32_56, true_or, m_psh_s, m_psh_n, m_kl_i, m_kl_f, m_kl_r, m_kl_n, m_kl_j, m_kl_l, m_kl_d, c_i, c_f, c_r, c_n, List.length_nil, List.length_cons, true_and, and_true, Nat.reduceAdd, Nat.reduceLeDiff, Nat.reduceSub, Nat.reduceEqDiff, Nat.reduceLT, ge_iff_le, gt_iff_lt, n_lit, m_in, m_nar0, m_nar1, and_self, not_false_eq_true, not_true_eq_false, ne_eq, reduceIte, ite_self, Nat.reduceMul, Nat.reduceDiv, Nat.reduceMod, Nat.reducePow, Nat.zero_add, Nat.add_zero, Nat.one_mul, Nat.mul_one, n_in, n_min, n_clamp, n_eq_t, n_eq_f, n_eq, n_le_t, n_le_f, n_le, n_lt_t, n_lt_f, n_lt, n_sub0, n_sublt, n_suble, n_negsub, m_up_hit, m_up_miss, m_row_hit, m_row_miss, n_eqm, n_meq, n_meqm, n_ltm, n_lem, n_mlt, n_mle, n_sub, n_div, n_and1, n_shl, n_shr, n_inc, n_mul, n_rem, z_lt, z_le, z_nlt, z_nle, Nat.not_lt_zero, Nat.le_zero_eq, Nat.zero_le, if_true, if_false, hbit, w1, w2, w3, hm]
      exact key
theorem s_list {b : Nat} (hw : WK lay R) (hb : b < 65536) (h6 : q_on b 16 ≤ 6) (hQ : ∀ I', I' 30 1 = nI (q_on b 16) → (∀ g, g < 16 → b / 2 ^ g % 2 = 1 → I' 31 (q_on b g) = nI g) → Off 30 31 I F R I' F R → Q none I' F R n) : Ev lay d 32 0 [.ref 30, .int (nI b), m_j] [] I F R n Q := by
  have key := s_list0 (I := m_up I 30 1 (nI 0)) (d := d) (F := F) (R := R) (n := n) (Q := Q) hw hb h6 16 0 rfl m_up_at (fun g hg _ => absurd hg (by omega)) (fun I' h1 h2 h3 => hQ I' h1 h2 (Off_trans (Off_I (by omega) (by omega)) h3))
  obtain ⟨w1, w2, w3⟩ := hw
  simp (disch := omega) only [e32_0, e32_0N, e32_1, e32_2, e32_5, e32_6, true_or, m_psh_s, m_psh_n, m_kl_i, m_kl_f, m_kl_r, m_kl_n, m_kl_j, m_kl_l, m_kl_d, c_i, c_f, c_r, c_n, List.length_nil, List.length_cons, true_and, and_true, Nat.reduceAdd, Nat.reduceLeDiff, Nat.reduceSub, Nat.reduceEqDiff, Nat.reduceLT, ge_iff_le, gt_iff_lt, n_lit, m_in, m_nar0, m_nar1, and_self, not_false_eq_true, not_true_eq_false, ne_eq, reduceIte, ite_self, Nat.reduceMul, Nat.reduceDiv, Nat.reduceMod, Nat.reducePow, Nat.zero_add, Nat.add_zero, Nat.one_mul, Nat.mul_one, n_in, n_min, n_clamp, n_eq_t, n_eq_f, n_eq, n_le_t, n_le_f, n_le, n_lt_t, n_lt_f, n_lt, n_sub0, n_sublt, n_suble, n_negsub, m_up_hit, m_up_miss, m_row_hit, m_row_miss, n_eqm, n_meq, n_meqm, n_ltm, n_lem, n_mlt, n_mle, n_sub, n_div, n_and1, n_shl, n_shr, n_inc, n_mul, n_rem, z_lt, z_le, z_nlt, z_nle, Nat.not_lt_zero, Nat.le_zero_eq, Nat.zero_le, if_true, if_false, w1]
  exact key
theorem s_mv0 {g t : Nat} {v1 : Value} (hw : WK lay R) (j : Nat) (hj : t + j < 6) (hQ : ∀ I', I' 31 t = nI g → (∀ x, t < x → x ≤ t + j → I' 31 x = I 31 (x - 1)) → (∀ x, x < t ∨ t + j < x → I' 31 x = I 31 x) → Off 31 31 I F R I' F R → Q none I' F R n) : Ev lay d 34 10 [.ref 30, v1, .int (nI t), .int (nI g), .int (nI (t + j))] [] I F R n Q := by
  have hw' := hw
  obtain ⟨w1, w2, w3⟩ := hw
  induction j generalizing I with
  | zero =>
    have key := hQ (m_up I 31 t (nI g)) m_up_at (fun x h1 h2 => by omega) (fun x h1 => by rw [m_up_miss (by omega)]) (Off_I (by omega) (by omega))
    rw [Nat.add_zero] at hj ⊢
    rw [e34_10]
    simp (disch := omega) only [e34_12, e34_13, e34_16, e34_16N, e34_17, e34_20, e34_22, e34_22N, e34_23, e34_26, e34_28, e34_29, e34_30, e34_31, e34_32, e34_35, e34_38, e34_38N, e34_39, e34_42, e34_43, e34_44, e34_45, true_or, m_psh_s, m_psh_n, m_kl_i, m_kl_f, m_kl_r, m_kl_n, m_kl_j, m_kl_l, m_kl_d, c_i, c_f, c_r, c_n, List.length_nil, List.length_cons, true_and, and_true, Nat.reduceAdd, Nat.reduceLeDiff, Nat.reduceSub, Nat.reduceEqDiff, Nat.reduceLT, ge_iff_le, gt_iff_lt, n_lit, m_in, m_nar0, m_nar1, and_self, not_false_eq_true, not_true_eq_false, ne_eq, reduceIte, ite_self, Nat.reduceMul, Nat.reduceDiv, Nat.reduceMod, Nat.reducePow, Nat.zero_add, Nat.add_zero, Nat.one_mul, Nat.mul_one, n_in, n_min, n_clamp, n_eq_t, n_eq_f, n_eq, n_le_t, n_le_f, n_le, n_lt_t, n_lt_f, n_lt, n_sub0, n_sublt, n_suble, n_negsub, m_up_hit, m_up_miss, m_row_hit, m_row_miss, n_eqm, n_meq, n_meqm, n_ltm, n_lem, n_mlt, n_mle, n_sub, n_div, n_and1, n_shl, n_shr, n_inc, n_mul, n_rem, z_lt, z_le, z_nlt, z_nle, Nat.not_lt_zero, Nat.le_zero_eq, Nat.zero_le, if_true, if_false, w1, w2, w3]
    exact key
  | succ j ih =>
    have key := ih (I := m_up I 31 (t + j + 1) (I 31 (t + j))) (by omega) (fun I' h1 h2 h3 h4 => hQ I' h1 (fun x h5 h6 => by
      by_cases e : x = t + j + 1
      · subst e
        rw [h3 _ (by omega), m_up_at, Nat.add_sub_cancel]
      · rw [h2 x h5 (by omega), m_up_miss (by omega)]) (fun x h5 => by rw [h3 x (by omega), m_up_miss (by omega)]) (Off_trans (Off_I (by omega) (by omega)) h4))
    rw [show t + (j + 1) = t + j + 1 from rfl] at hj ⊢
    have e1 : t + j + 1 - 1 = t + j := by omega
    rw [e34_10]
    simp (disch := omega) only [e34_12, e34_13, e34_16, e34_16N, e34_17, e34_20, e34_22, e34_22N, e34_23, e34_26, e34_28, e34_29, e34_30, e34_31, e34_32, e34_35, e34_38, e34_38N, e34_39, e34_42, e34_43, e34_44, e34_45, true_or, m_psh_s, m_psh_n, m_kl_i, m_kl_f, m_kl_r, m_kl_n, m_kl_j, m_kl_l, m_kl_d, c_i, c_f, c_r, c_n, List.length_nil, List.length_cons, true_and, and_true, Nat.reduceAdd, Nat.reduceLeDiff, Nat.reduceSub, Nat.reduceEqDiff, Nat.reduceLT, ge_iff_le, gt_iff_lt, n_lit, m_in, m_nar0, m_nar1, and_self, not_false_eq_true, not_true_eq_false, ne_eq, reduceIte, ite_self, Nat.reduceMul, Nat.reduceDiv, Nat.reduceMod, Nat.reducePow, Nat.zero_add, Nat.add_zero, Nat.one_mul, Nat.mul_one, n_in, n_min, n_clamp, n_eq_t, n_eq_f, n_eq, n_le_t, n_le_f, n_le, n_lt_t, n_lt_f, n_lt, n_sub0, n_sublt, n_suble, n_negsub, m_up_hit, m_up_miss, m_row_hit, m_row_miss, n_eqm, n_meq, n_meqm, n_ltm, n_lem, n_mlt, n_mle, n_sub, n_div, n_and1, n_shl, n_shr, n_inc, n_mul, n_rem, z_lt, z_le, z_nlt, z_nle, Nat.not_lt_zero, Nat.le_zero_eq, Nat.zero_le, if_true, if_false, w1, w2, w3, e1, n_dec, Nat.add_sub_cancel]
    exact key
theorem s_mv {g t j : Nat} (hw : WK lay R) (hj : t + j < 6) (hg : I 31 (t + j) = nI g) (hQ : ∀ I', I' 31 t = nI g → (∀ x, t < x → x ≤ t + j → I' 31 x = I 31 (x - 1)) → (∀ x, x < t ∨ t + j < x → I' 31 x = I 31 x) → Off 31 31 I F R I' F R → Q none I' F R n) : Ev lay d 34 0 [.ref 30, .int (nI (t + j)), .int (nI t), m_j, m_j] [] I F R n Q := by
  have key := s_mv0 (d := d) (v1 := .int (nI (t + j))) hw j hj hQ
  obtain ⟨w1, w2, w3⟩ := hw
  simp (disch := omega) only [e34_0, e34_0N, e34_1, e34_4, e34_5, e34_6, e34_7, e34_8, true_or, m_psh_s, m_psh_n, m_kl_i, m_kl_f, m_kl_r, m_kl_n, m_kl_j, m_kl_l, m_kl_d, c_i, c_f, c_r, c_n, List.length_nil, List.length_cons, true_and, and_true, Nat.reduceAdd, Nat.reduceLeDiff, Nat.reduceSub, Nat.reduceEqDiff, Nat.reduceLT, ge_iff_le, gt_iff_lt, n_lit, m_in, m_nar0, m_nar1, and_self, not_false_eq_true, not_true_eq_false, ne_eq, reduceIte, ite_self, Nat.reduceMul, Nat.reduceDiv, Nat.reduceMod, Nat.reducePow, Nat.zero_add, Nat.add_zero, Nat.one_mul, Nat.mul_one, n_in, n_min, n_clamp, n_eq_t, n_eq_f, n_eq, n_le_t, n_le_f, n_le, n_lt_t, n_lt_f, n_lt, n_sub0, n_sublt, n_suble, n_negsub, m_up_hit, m_up_miss, m_row_hit, m_row_miss, n_eqm, n_meq, n_meqm, n_ltm, n_lem, n_mlt, n_mle, n_sub, n_div, n_and1, n_shl, n_shr, n_inc, n_mul, n_rem, z_lt, z_le, z_nlt, z_nle, Nat.not_lt_zero, Nat.le_zero_eq, Nat.zero_le, if_true, if_false, w1, w2, w3, hg]
  exact key
end WALKER
