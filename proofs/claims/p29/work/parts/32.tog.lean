section TOG
variable {lay : mL} {d a n : Nat} {I : mI} {F : mF} {R : mR} {Q : mP} {S : Nat → Nat} {sp : Nat → UInt32} {hi : List Nat}
def q_tws (S : Nat → Nat) : Nat → Nat
  | 0 => 0
  | k + 1 => q_tws S k + q_len S (S (71 + 2 * k))
theorem q_dsk_le {c s : Nat} (hc : c ≤ 9) (hs : s < 30) : q_dsk c s ≤ 60 := by
  unfold q_dsk
  have : c * (s / 6) ≤ 9 * 4 := Nat.mul_le_mul hc (by omega)
  omega
theorem q_wl_le {c : Nat} {pos : Nat → Nat} {m : Nat} (hc : c ≤ 9) (hp : ∀ g, g < m → pos g < 30) (k : Nat) : ∀ b s, s < 30 → (∀ g, g < 16 → b / 2 ^ g % 2 = 1 → g < m) → q_wl c pos k b s ≤ 60 * k + 60 := by
  induction k with
  | zero =>
    intro b s hs hg
    rw [q_wl]
    have := q_dsk_le hc hs
    omega
  | succ k ih =>
    intro b s hs hg
    rw [q_wl]
    have := q_dsk_le hc hs
    split
    · omega
    · rename_i g e
      have gg := q_nx_bit e
      have hpg := hp g (hg g gg.1 gg.2)
      have h1 := q_stp_lt hc hs hpg
      have h2 := ih (b ^^^ 2 ^ g) (pos g) hpg (fun x hx hb2 => by
        rw [b_xor] at hb2
        by_cases e : x = g
        · subst e; rw [if_pos rfl, gg.2] at hb2; omega
        · rw [if_neg e] at hb2
          exact hg x hx hb2)
      omega
theorem q_len_le {b : Nat} (w : Wsh S) (hc : S 2 ≤ 9) (hb : bOK S b) : q_len S b ≤ 500 := by
  have h := q_wl_le (m := S 3) (pos := q_pos S) hc (fun g hg => w.2.1 g hg) (q_on b 16) b 0 (by omega) hb.2.2
  have := hb.2.1
  unfold q_len
  omega
/-- the baskets of today -/
def dOK (S : Nat → Nat) : Prop := S 69 ≤ 12 ∧ ∀ k, k < S 69 → bOK S (S (71 + 2 * k))
theorem q_tws_le (w : Wsh S) (hc : S 2 ≤ 9) (hD : dOK S) (k : Nat) (hk : k ≤ S 69) : q_tws S k ≤ 500 * k := by
  induction k with
  | zero => exact Nat.le_refl _
  | succ k ih =>
    have h1 := ih (by omega)
    have h2 := q_len_le w hc (hD.2 k (by omega))
    rw [q_tws]
    omega
theorem CSh_today {k : Nat} (h : CSh lay I F R n a S sp hi) (hk : k < 12) : I (a + 9) k = nI (S (71 + 2 * k)) := h.2.1 _ _ _ (cS_9 hk)
theorem s_tgo0 (w : Wsh S) (hc9 : S 2 ≤ 9) (hD : dOK S) (hw : WK lay R) (hd : 2 ≤ d) (ha : a + 13 < 30 ∨ 31 < a) (j : Nat) : ∀ (k : Nat) (I : mI), k + j = S 69 → CSh lay I F R n a S sp hi → (∀ I', Off 30 31 I F R I' F R → Q (some (.int (nI (q_tws S (S 69))))) I' F R n) → Ev lay d 46 4 [.ref 30, .ref a, .int (nI (q_tws S k)), .int (nI k)] [] I F R n Q := by
  have hD1 := hD.1
  have w1 := hw.1
  induction j with
  | zero =>
    intro k I hk h hQ
    have hk2 : k = S 69 := by omega
    subst hk2
    have h69 := h.2.1 _ _ _ cS_8
    have key := hQ I Off_refl
    obtain ⟨hs0, hs1, hs2, hs3, hs4, hs5, hs6, hs7, hs8, hs9, hs10, hs11, hs12, hs13, hs14, hs15, hs16, hs17, hs18, hs19, hs20, hs21, hs22, hs23, hs24, hs25, hs26⟩ := h.1
    rw [e46_4]
    simp (disch := omega) only [e46_5, e46_5N, e46_6, e46_9, e46_12, e46_15, e46_16, e46_16N, e46_17, e46_17N, e46_18, e46_18N, e46_19, e46_22, e46_25, e46_26, e46_27, e46_30, e46_31, e46_32, e46_35, e46_38, e46_39, true_or, m_psh_s, m_psh_n, m_kl_i, m_kl_f, m_kl_r, m_kl_n, m_kl_j, m_kl_l, m_kl_d, c_i, c_f, c_r, c_n, List.length_nil, List.length_cons, true_and, and_true, Nat.reduceAdd, Nat.reduceLeDiff, Nat.reduceSub, Nat.reduceEqDiff, Nat.reduceLT, ge_iff_le, gt_iff_lt, n_lit, m_in, m_nar0, m_nar1, and_self, not_false_eq_true, not_true_eq_false, ne_eq, reduceIte, ite_self, Nat.reduceMul, Nat.reduceDiv, Nat.reduceMod, Nat.reducePow, Nat.zero_add, Nat.add_zero, Nat.one_mul, Nat.mul_one, n_in, n_min, n_clamp, n_eq_t, n_eq_f, n_eq, n_le_t, n_le_f, n_le, n_lt_t, n_lt_f, n_lt, n_sub0, n_sublt, n_suble, n_negsub, m_up_hit, m_up_miss, m_row_hit, m_row_miss, n_eqm, n_meq, n_meqm, n_ltm, n_lem, n_mlt, n_mle, n_sub, n_div, n_and1, n_shl, n_shr, n_inc, n_mul, n_rem, z_lt, z_le, z_nlt, z_nle, Nat.not_lt_zero, Nat.le_zero_eq, Nat.zero_le, if_true, if_false, hs0, hs1, hs2, hs3, hs4, hs5, hs6, hs7, hs8, hs9, hs10, hs11, hs12, hs13, hs14, hs15, hs16, hs17, hs18, hs19, hs20, hs21, hs22, hs23, hs24, hs25, hs26, h69]
    exact key
  | succ j ih =>
    intro k I hk h hQ
    have h69 := h.2.1 _ _ _ cS_8
    have eb := CSh_today h (k := k) (by omega)
    have kl : ∀ (Q : mP), (∀ I', Off 30 31 I F R I' F R → (∀ i, i < q_on (S (71 + 2 * k)) 16 → I' 31 i = nI (q_vi (S 2) (q_pos S) i (S (71 + 2 * k)) 0)) → I' 30 1 = nI (q_on (S (71 + 2 * k)) 16) → Q (some (.int (nI (q_len S (S (71 + 2 * k)))))) I' F R n) → _ := fun Q hQ => s_lengthOf (d := d - 1) (Q := Q) h w hc9 hw (by omega) ha (hD.2 k (by omega)) hQ
    obtain ⟨hs0, hs1, hs2, hs3, hs4, hs5, hs6, hs7, hs8, hs9, hs10, hs11, hs12, hs13, hs14, hs15, hs16, hs17, hs18, hs19, hs20, hs21, hs22, hs23, hs24, hs25, hs26⟩ := h.1
    rw [e46_4]
    simp (disch := omega) only [e46_5, e46_5N, e46_6, e46_9, e46_12, e46_15, e46_16, e46_16N, e46_17, e46_17N, e46_18, e46_18N, e46_19, e46_22, e46_25, e46_26, e46_27, true_or, m_psh_s, m_psh_n, m_kl_i, m_kl_f, m_kl_r, m_kl_n, m_kl_j, m_kl_l, m_kl_d, c_i, c_f, c_r, c_n, List.length_nil, List.length_cons, true_and, and_true, Nat.reduceAdd, Nat.reduceLeDiff, Nat.reduceSub, Nat.reduceEqDiff, Nat.reduceLT, ge_iff_le, gt_iff_lt, n_lit, m_in, m_nar0, m_nar1, and_self, not_false_eq_true, not_true_eq_false, ne_eq, reduceIte, ite_self, Nat.reduceMul, Nat.reduceDiv, Nat.reduceMod, Nat.reducePow, Nat.zero_add, Nat.add_zero, Nat.one_mul, Nat.mul_one, n_in, n_min, n_clamp, n_eq_t, n_eq_f, n_eq, n_le_t, n_le_f, n_le, n_lt_t, n_lt_f, n_lt, n_sub0, n_sublt, n_suble, n_negsub, m_up_hit, m_up_miss, m_row_hit, m_row_miss, n_eqm, n_meq, n_meqm, n_ltm, n_lem, n_mlt, n_mle, n_sub, n_div, n_and1, n_shl, n_shr, n_inc, n_mul, n_rem, z_lt, z_le, z_nlt, z_nle, Nat.not_lt_zero, Nat.le_zero_eq, Nat.zero_le, if_true, if_false, hs0, hs1, hs2, hs3, hs4, hs5, hs6, hs7, hs8, hs9, hs10, hs11, hs12, hs13, hs14, hs15, hs16, hs17, hs18, hs19, hs20, hs21, hs22, hs23, hs24, hs25, hs26, h69, eb, w1]
    apply kl
    intro I1 o1 _ _
    have key := ih (k + 1) I1 (by omega) (CSh_off h o1 (by omega) (Nat.le_refl _) (by omega)) (fun I' o2 => hQ I' (Off_trans o1 o2))
    simp (disch := omega) only [e46_30, e46_31, e46_32, e46_35, e46_38, e46_39, true_or, m_psh_s, m_psh_n, m_kl_i, m_kl_f, m_kl_r, m_kl_n, m_kl_j, m_kl_l, m_kl_d, c_i, c_f, c_r, c_n, List.length_nil, List.length_cons, true_and, and_true, Nat.reduceAdd, Nat.reduceLeDiff, Nat.reduceSub, Nat.reduceEqDiff, Nat.reduceLT, ge_iff_le, gt_iff_lt, n_lit, m_in, m_nar0, m_nar1, and_self, not_false_eq_true, not_true_eq_false, ne_eq, reduceIte, ite_self, Nat.reduceMul, Nat.reduceDiv, Nat.reduceMod, Nat.reducePow, Nat.zero_add, Nat.add_zero, Nat.one_mul, Nat.mul_one, n_in, n_min, n_clamp, n_eq_t, n_eq_f, n_eq, n_le_t, n_le_f, n_le, n_lt_t, n_lt_f, n_lt, n_sub0, n_sublt, n_suble, n_negsub, m_up_hit, m_up_miss, m_row_hit, m_row_miss, n_eqm, n_meq, n_meqm, n_ltm, n_lem, n_mlt, n_mle, n_sub, n_div, n_and1, n_shl, n_shr, n_inc, n_mul, n_rem, z_lt, z_le, z_nlt, z_nle, Nat.not_lt_zero, Nat.le_zero_eq, Nat.zero_le, if_true, if_false]
    exact key
theorem s_tgo (h : CSh lay I F R n a S sp hi) (w : Wsh S) (hc9 : S 2 ≤ 9) (hD : dOK S) (hw : WK lay R) (hd : 2 ≤ d) (ha : a + 13 < 30 ∨ 31 < a) (hQ : ∀ I', Off 30 31 I F R I' F R → Q (some (.int (nI (q_tws S (S 69))))) I' F R n) : Ev lay d 46 0 [.ref 30, .ref a, m_j, m_j] [] I F R n Q := by
  have key := s_tgo0 (d := d) w hc9 hD hw hd ha (S 69) 0 I (Nat.zero_add _) h hQ
  simp (disch := omega) only [e46_0, e46_1, e46_2, e46_3, true_or, m_psh_s, m_psh_n, m_kl_i, m_kl_f, m_kl_r, m_kl_n, m_kl_j, m_kl_l, m_kl_d, c_i, c_f, c_r, c_n, List.length_nil, List.length_cons, true_and, and_true, Nat.reduceAdd, Nat.reduceLeDiff, Nat.reduceSub, Nat.reduceEqDiff, Nat.reduceLT, ge_iff_le, gt_iff_lt, n_lit, m_in, m_nar0, m_nar1, and_self, not_false_eq_true, not_true_eq_false, ne_eq, reduceIte, ite_self, Nat.reduceMul, Nat.reduceDiv, Nat.reduceMod, Nat.reducePow, Nat.zero_add, Nat.add_zero, Nat.one_mul, Nat.mul_one, n_in, n_min, n_clamp, n_eq_t, n_eq_f, n_eq, n_le_t, n_le_f, n_le, n_lt_t, n_lt_f, n_lt, n_sub0, n_sublt, n_suble, n_negsub, m_up_hit, m_up_miss, m_row_hit, m_row_miss, n_eqm, n_meq, n_meqm, n_ltm, n_lem, n_mlt, n_mle, n_sub, n_div, n_and1, n_shl, n_shr, n_inc, n_mul, n_rem, z_lt, z_le, z_nlt, z_nle, Nat.not_lt_zero, Nat.le_zero_eq, Nat.zero_le, if_true, if_false]
  exact key
end TOG
