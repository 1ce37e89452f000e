section WALKB
variable {lay : mL} {d a n : Nat} {I : mI} {F : mF} {R : mR} {Q : mP} {S : Nat → Nat} {sp : Nat → UInt32} {hi : List Nat}
def q_nrI (r b : Nat) : Option Nat → Nat
  | none => r
  | some g => r + q_on b g
def q_lsI (f : Nat → Nat) : Option Nat → Nat
  | none => 1000000
  | some g => f g
theorem q_nx_0 {f : Nat → Nat} {b k : Nat} (h : b / 2 ^ k % 2 = 0) : q_nx f b (k + 1) = q_nx f b k := by
  rw [q_nx, if_neg (by omega)]
theorem q_nx_1n {f : Nat → Nat} {b k : Nat} (h : b / 2 ^ k % 2 = 1) (e : q_nx f b k = none) : q_nx f b (k + 1) = some k := by
  rw [q_nx, if_pos h, e]
theorem q_nx_1t {f : Nat → Nat} {b k g : Nat} (h : b / 2 ^ k % 2 = 1) (e : q_nx f b k = some g) (c : f k < f g) : q_nx f b (k + 1) = some k := by
  rw [q_nx, if_pos h, e]
  exact if_pos c
theorem q_nx_1f {f : Nat → Nat} {b k g : Nat} (h : b / 2 ^ k % 2 = 1) (e : q_nx f b k = some g) (c : f g ≤ f k) : q_nx f b (k + 1) = some g := by
  rw [q_nx, if_pos h, e]
  exact if_neg (by omega)
/-- the inner loop of a walk: the nearest of the goods that are left -/
theorem s_wk1 {b at_ r m : Nat} {v2 v3 v9 : Value} (h : CSh lay I F R n a S sp hi) (w : Wsh S) (hc9 : S 2 ≤ 9) (hw : WK lay R) (hd : 1 ≤ d) (hat : at_ < 30) (hm : m = r + q_on b 16) (hm6 : m ≤ 6) (h31 : I 30 1 = nI m) (hl : ∀ g, g < 16 → b / 2 ^ g % 2 = 1 → I 31 (r + q_on b g) = nI g) (hg : ∀ g, g < 16 → b / 2 ^ g % 2 = 1 → g < S 3) (j k : Nat) (hk : k + j = 16)
    (hQ : ∀ v9, Ev lay d 31 84 [.ref 30, .ref a, v2, v3, .int (nI at_), .int (nI r), .int (nI (q_nrI r b (q_nx (fun g => q_stp (S 2) at_ (q_pos S g)) b 16))), .int (nI (q_lsI (fun g => q_stp (S 2) at_ (q_pos S g)) (q_nx (fun g => q_stp (S 2) at_ (q_pos S g)) b 16))), .int (nI m), v9] [] I F R n Q) :
    Ev lay d 31 34 [.ref 30, .ref a, v2, v3, .int (nI at_), .int (nI r), .int (nI (q_nrI r b (q_nx (fun g => q_stp (S 2) at_ (q_pos S g)) b k))), .int (nI (q_lsI (fun g => q_stp (S 2) at_ (q_pos S g)) (q_nx (fun g => q_stp (S 2) at_ (q_pos S g)) b k))), .int (nI (r + q_on b k)), v9] [] I F R n Q := by
  have hw' := hw
  obtain ⟨w1, w2, w3⟩ := hw
  have h3 := w.1
  induction j generalizing k v9 with
  | zero =>
    have hk2 : k = 16 := by omega
    subst hk2
    have key := hQ v9
    rw [hm] at key h31 hm6
    rw [e31_34]
    simp (disch := omega) only [e31_36, e31_36N, e31_37, e31_40, e31_43, e31_43N, e31_44, e31_46, e31_46N, e31_47, e31_50, e31_50N, e31_51, e31_54, e31_56, e31_57, e31_58, e31_61, e31_63, e31_65, e31_67, e31_70, e31_72, e31_74, e31_76, e31_78, e31_81, true_or, m_psh_s, m_psh_n, m_kl_i, m_kl_f, m_kl_r, m_kl_n, m_kl_j, m_kl_l, m_kl_d, c_i, c_f, c_r, c_n, List.length_nil, List.length_cons, true_and, and_true, Nat.reduceAdd, Nat.reduceLeDiff, Nat.reduceSub, Nat.reduceEqDiff, Nat.reduceLT, ge_iff_le, gt_iff_lt, n_lit, m_in, m_nar0, m_nar1, and_self, not_false_eq_true, not_true_eq_false, ne_eq, reduceIte, ite_self, Nat.reduceMul, Nat.reduceDiv, Nat.reduceMod, Nat.reducePow, Nat.zero_add, Nat.add_zero, Nat.one_mul, Nat.mul_one, n_in, n_min, n_clamp, n_eq_t, n_eq_f, n_eq, n_le_t, n_le_f, n_le, n_lt_t, n_lt_f, n_lt, n_sub0, n_sublt, n_suble, n_negsub, m_up_hit, m_up_miss, m_row_hit, m_row_miss, n_eqm, n_meq, n_meqm, n_ltm, n_lem, n_mlt, n_mle, n_sub, n_div, n_and1, n_shl, n_shr, n_inc, n_mul, n_rem, z_lt, z_le, z_nlt, z_nle, Nat.not_lt_zero, Nat.le_zero_eq, Nat.zero_le, if_true, if_false, w1, w2, w3, h31]
    exact key
  | succ j ih =>
    have hk1 : q_on b (k + 1) ≤ q_on b 16 := q_on_mono (by omega)
    rw [q_on_s] at hk1
    rcases Nat.mod_two_eq_zero_or_one (b / 2 ^ k) with hbit | hbit
    · have key := ih (k + 1) (by omega) (v9 := v9)
      rw [q_on_s, hbit, q_nx_0 hbit, Nat.add_zero] at key
      exact key
    · have gk := hg k (by omega) hbit
      have e31 := hl k (by omega) hbit
      have p2 : I (a + 2) k = nI (q_pos S k) := h.2.1 _ _ _ (cS_2 (by omega))
      have hp : q_pos S k < 30 := w.2.1 k gk
      have hst := q_stp_lt hc9 hat hp
      have key := fun v9 => ih (k + 1) (by omega) (v9 := v9)
      rw [q_on_s, hbit] at key
      have ks : ∀ (d : Nat) (Q : mP), _ := fun d Q => c_steps (d := d) (Q := Q) h hat hp
      rw [e31_34]
      cases hn : q_nx (fun g => q_stp (S 2) at_ (q_pos S g)) b k with
      | none =>
        rw [q_nx_1n hbit hn] at key
        obtain ⟨hs0, hs1, hs2, hs3, hs4, hs5, hs6, hs7, hs8, hs9, hs10, hs11, hs12, hs13, hs14, hs15, hs16, hs17, hs18, hs19, hs20, hs21, hs22, hs23, hs24, hs25, hs26⟩ := h.1
        simp (disch := omega) only [e31_36, e31_36N, e31_37, e31_40, e31_43, e31_43N, e31_44, e31_46, e31_46N, e31_47, e31_50, e31_50N, e31_51, e31_54, e31_56, e31_57, e31_58, e31_61, e31_63, e31_65, e31_67, e31_70, e31_72, e31_74, e31_76, e31_78, e31_81, true_or, m_psh_s, m_psh_n, m_kl_i, m_kl_f, m_kl_r, m_kl_n, m_kl_j, m_kl_l, m_kl_d, c_i, c_f, c_r, c_n, List.length_nil, List.length_cons, true_and, and_true, Nat.reduceAdd, Nat.reduceLeDiff, Nat.reduceSub, Nat.reduceEqDiff, Nat.reduceLT, ge_iff_le, gt_iff_lt, n_lit, m_in, m_nar0, m_nar1, and_self, not_false_eq_true, not_true_eq_false, ne_eq, reduceIte, ite_self, Nat.reduceMul, Nat.reduceDiv, Nat.reduceMod, Nat.reducePow, Nat.zero_add, Nat.add_zero, Nat.one_mul, Nat.mul_one, n_in, n_min, n_clamp, n_eq_t, n_eq_f, n_eq, n_le_t, n_le_f, n_le, n_lt_t, n_lt_f, n_lt, n_sub0, n_sublt, n_suble, n_negsub, m_up_hit, m_up_miss, m_row_hit, m_row_miss, n_eqm, n_meq, n_meqm, n_ltm, n_lem, n_mlt, n_mle, n_sub, n_div, n_and1, n_shl, n_shr, n_inc, n_mul, n_rem, z_lt, z_le, z_nlt, z_nle, Nat.not_lt_zero, Nat.le_zero_eq, Nat.zero_le, if_true, if_false, hs0, hs1, hs2, hs3, hs4, hs5, hs6, hs7, hs8, hs9, hs10, hs11, hs12, hs13, hs14, hs15, hs16, hs17, hs18, hs19, hs20, hs21, hs22, hs23, hs24, hs25, hs26, w1, w2, w3, h31, e31, p2, ks, q_nrI, q_lsI]
        exact key _
      | some g =>
        have gg := q_nx_bit hn
        have hpg : q_pos S g < 30 := w.2.1 g (hg g (by omega) gg.2)
        have hsg := q_stp_lt hc9 hat hpg
        by_cases c : q_stp (S 2) at_ (q_pos S k) < q_stp (S 2) at_ (q_pos S g)
        · rw [q_nx_1t hbit hn c] at key
          obtain ⟨hs0, hs1, hs2, hs3, hs4, hs5, hs6, hs7, hs8, hs9, hs10, hs11, hs12, hs13, hs14, hs15, hs16, hs17, hs18, hs19, hs20, hs21, hs22, hs23, hs24, hs25, hs26⟩ := h.1
          simp (disch := omega) only [e31_36, e31_36N, e31_37, e31_40, e31_43, e31_43N, e31_44, e31_46, e31_46N, e31_47, e31_50, e31_50N, e31_51, e31_54, e31_56, e31_57, e31_58, e31_61, e31_63, e31_65, e31_67, e31_70, e31_72, e31_74, e31_76, e31_78, e31_81, true_or, m_psh_s, m_psh_n, m_kl_i, m_kl_f, m_kl_r, m_kl_n, m_kl_j, m_kl_l, m_kl_d, c_i, c_f, c_r, c_n, List.length_nil, List.length_cons, true_and, and_true, Nat.reduceAdd, Nat.reduceLeDiff, Nat.reduceSub, Nat.reduceEqDiff, Nat.reduceLT, ge_iff_le, gt_iff_lt, n_lit, m_in, m_nar0, m_nar1, and_self, not_false_eq_true, not_true_eq_false, ne_eq, reduceIte, ite_self, Nat.reduceMul, Nat.reduceDiv, Nat.reduceMod, Nat.reducePow, Nat.zero_add, Nat.add_zero, Nat.one_mul, Nat.mul_one, n_in, n_min, n_clamp, n_eq_t, n_eq_f, n_eq, n_le_t, n_le_f, n_le, n_lt_t, n_lt_f, n_lt, n_sub0, n_sublt, n_suble, n_negsub, m_up_hit, m_up_miss, m_row_hit, m_row_miss, n_eqm, n_meq, n_meqm, n_ltm, n_lem, n_mlt, n_mle, n_sub, n_div, n_and1, n_shl, n_shr, n_inc, n_mul, n_rem, z_lt, z_le, z_nlt, z_nle, Nat.not_lt_zero, Nat.le_zero_eq, Nat.zero_le, if_true, if_false, hs0, hs1, hs2, hs3, hs4, hs5, hs6, hs7, hs8, hs9, hs10, hs11, hs12, hs13, hs14, hs15, hs16, hs17, hs18, hs19, hs20, hs21, hs22, hs23, hs24, hs25, hs26, w1, w2, w3, h31, e31, p2, ks, q_nrI, q_lsI]
          exact key _
        · rw [q_nx_1f hbit hn (by omega)] at key
          obtain ⟨hs0, hs1, hs2, hs3, hs4, hs5, hs6, hs7, hs8, hs9, hs10, hs11, hs12, hs13, hs14, hs15, hs16, hs17, hs18, hs19, hs20, hs21, hs22, hs23, hs24, hs25, hs26⟩ := h.1
          simp (disch := omega) only [e31_36, e31_36N, e31_37, e31_40, e31_43, e31_43N, e31_44, e31_46, e31_46N, e31_47, e31_50, e31_50N, e31_51, e31_54, e31_56, e31_57, e31_58, e31_61, e31_63, e31_65, e31_67, e31_70, e31_72, e31_74, e31_76, e31_78, e31_81, true_or, m_psh_s, m_psh_n, m_kl_i, m_kl_f, m_kl_r, m_kl_n, m_kl_j, m_kl_l, m_kl_d, c_i, c_f, c_r, c_n, List.length_nil, List.length_cons, true_and, and_true, Nat.reduceAdd, Nat.reduceLeDiff, Nat.reduceSub, Nat.reduceEqDiff, Nat.reduceLT, ge_iff_le, gt_iff_lt, n_lit, m_in, m_nar0, m_nar1, and_self, not_false_eq_true, not_true_eq_false, ne_eq, reduceIte, ite_self, Nat.reduceMul, Nat.reduceDiv, Nat.reduceMod, Nat.reducePow, Nat.zero_add, Nat.add_zero, Nat.one_mul, Nat.mul_one, n_in, n_min, n_clamp, n_eq_t, n_eq_f, n_eq, n_le_t, n_le_f, n_le, n_lt_t, n_lt_f, n_lt, n_sub0, n_sublt, n_suble, n_negsub, m_up_hit, m_up_miss, m_row_hit, m_row_miss, n_eqm, n_meq, n_meqm, n_ltm, n_lem, n_mlt, n_mle, n_sub, n_div, n_and1, n_shl, n_shr, n_inc, n_mul, n_rem, z_lt, z_le, z_nlt, z_nle, Nat.not_lt_zero, Nat.le_zero_eq, Nat.zero_le, if_true, if_false, hs0, hs1, hs2, hs3, hs4, hs5, hs6, hs7, hs8, hs9, hs10, hs11, hs12, hs13, hs14, hs15, hs16, hs17, hs18, hs19, hs20, hs21, hs22, hs23, hs24, hs25, hs26, w1, w2, w3, h31, e31, p2, ks, q_nrI, q_lsI]
          exact key _
theorem s_wk0 {vb : Int32} (w : Wsh S) (hc9 : S 2 ≤ 9) (hw : WK lay R) (hd : 1 ≤ d) (ha : a + 13 < 30 ∨ 31 < a) (k : Nat) :
    ∀ (r b at_ len : Nat) (v6 v7 v8 v9 : Value) (I : mI), CSh lay I F R n a S sp hi → at_ < 30 → b < 65536 → k = q_on b 16 → r + k ≤ 6 → I 30 1 = nI (r + k) → (∀ g, g < 16 → b / 2 ^ g % 2 = 1 → I 31 (r + q_on b g) = nI g) → (∀ g, g < 16 → b / 2 ^ g % 2 = 1 → g < S 3) →
    (∀ I', Off 30 31 I F R I' F R → (∀ i, i < k → I' 31 (r + i) = nI (q_vi (S 2) (q_pos S) i b at_)) → (∀ i, i < r → I' 31 i = I 31 i) → I' 30 1 = nI (r + k) → Q (some (.int (nI (len + q_wl (S 2) (q_pos S) k b at_)))) I' F R n) →
    Ev lay d 31 13 [.ref 30, .ref a, .int vb, .int (nI len), .int (nI at_), .int (nI r), v6, v7, v8, v9] [] I F R n Q := by
  have hw' := hw
  obtain ⟨w1, w2, w3⟩ := hw
  have h3 := w.1
  induction k with
  | zero =>
    intro r b at_ len v6 v7 v8 v9 I h hat hb hk hrk h31 hl hg hQ
    have key := hQ I Off_refl (fun i hi => by omega) (fun i _ => rfl) h31
    rw [q_wl] at key
    have kd : ∀ (d : Nat) (Q : mP), _ := fun d Q => c_desk (d := d) (Q := Q) h hat
    rw [e31_13]
    obtain ⟨hs0, hs1, hs2, hs3, hs4, hs5, hs6, hs7, hs8, hs9, hs10, hs11, hs12, hs13, hs14, hs15, hs16, hs17, hs18, hs19, hs20, hs21, hs22, hs23, hs24, hs25, hs26⟩ := h.1
    simp (disch := omega) only [e31_15, e31_15N, e31_16, e31_19, e31_22, e31_24, e31_26, e31_28, e31_30, e31_32, e31_34, e31_36, e31_36N, e31_37, e31_40, e31_43, e31_43N, e31_44, e31_46, e31_46N, e31_47, e31_50, e31_50N, e31_51, e31_54, e31_56, e31_57, e31_58, e31_61, e31_63, e31_65, e31_67, e31_70, e31_72, e31_74, e31_76, e31_78, e31_81, e31_84, e31_84N, e31_85, e31_87, e31_89, e31_92, e31_92N, e31_93, e31_96, e31_96N, e31_97, e31_100, e31_102, e31_103, e31_104, e31_106, e31_107, e31_109, e31_110, e31_111, e31_114, e31_117, e31_118, e31_118N, e31_119, e31_121, e31_124, e31_125, true_or, m_psh_s, m_psh_n, m_kl_i, m_kl_f, m_kl_r, m_kl_n, m_kl_j, m_kl_l, m_kl_d, c_i, c_f, c_r, c_n, List.length_nil, List.length_cons, true_and, and_true, Nat.reduceAdd, Nat.reduceLeDiff, Nat.reduceSub, Nat.reduceEqDiff, Nat.reduceLT, ge_iff_le, gt_iff_lt, n_lit, m_in, m_nar0, m_nar1, and_self, not_false_eq_true, not_true_eq_false, ne_eq, reduceIte, ite_self, Nat.reduceMul, Nat.reduceDiv, Nat.reduceMod, Nat.reducePow, Nat.zero_add, Nat.add_zero, Nat.one_mul, Nat.mul_one, n_in, n_min, n_clamp, n_eq_t, n_eq_f, n_eq, n_le_t, n_le_f, n_le, n_lt_t, n_lt_f, n_lt, n_sub0, n_sublt, n_suble, n_negsub, m_up_hit, m_up_miss, m_row_hit, m_row_miss, n_eqm, n_meq, n_meqm, n_ltm, n_lem, n_mlt, n_mle, n_sub, n_div, n_and1, n_shl, n_shr, n_inc, n_mul, n_rem, z_lt, z_le, z_nlt, z_nle, Nat.not_lt_zero, Nat.le_zero_eq, Nat.zero_le, if_true, if_false, hs0, hs1, hs2, hs3, hs4, hs5, hs6, hs7, hs8, hs9, hs10, hs11, hs12, hs13, hs14, hs15, hs16, hs17, hs18, hs19, hs20, hs21, hs22, hs23, hs24, hs25, hs26, w1, w2, w3, h31, kd]
    exact key
  | succ k ih =>
    intro r b at_ len v6 v7 v8 v9 I h hat hb hk hrk h31 hl hg hQ
    cases hn : q_nx (fun g => q_stp (S 2) at_ (q_pos S g)) b 16 with
    | none =>
      have := q_nx_none hn
      omega
    | some g =>
      have gg := q_nx_bit hn
      have hpg : q_pos S g < 30 := w.2.1 g (hg g gg.1 gg.2)
      have hon := q_on_lt gg.1 gg.2
      have eg := hl g gg.1 gg.2
      rw [e31_13]
      have inner : ∀ v6 v7 v8 v9, Ev lay d 31 22 [.ref 30, .ref a, .int vb, .int (nI len), .int (nI at_), .int (nI r), v6, v7, v8, v9] [] I F R n Q := by
        intro v6 v7 v8 v9
        have key := s_wk1 (d := d) (Q := Q) (v2 := .int vb) (v3 := .int (nI len)) (v9 := v9) h w hc9 hw' hd hat (show r + (k + 1) = r + q_on b 16 by rw [hk]) (by omega) h31 hl hg 16 0 rfl
        simp (disch := omega) only [e31_22, e31_24, e31_26, e31_28, e31_30, e31_32, true_or, m_psh_s, m_psh_n, m_kl_i, m_kl_f, m_kl_r, m_kl_n, m_kl_j, m_kl_l, m_kl_d, c_i, c_f, c_r, c_n, List.length_nil, List.length_cons, true_and, and_true, Nat.reduceAdd, Nat.reduceLeDiff, Nat.reduceSub, Nat.reduceEqDiff, Nat.reduceLT, ge_iff_le, gt_iff_lt, n_lit, m_in, m_nar0, m_nar1, and_self, not_false_eq_true, not_true_eq_false, ne_eq, reduceIte, ite_self, Nat.reduceMul, Nat.reduceDiv, Nat.reduceMod, Nat.reducePow, Nat.zero_add, Nat.add_zero, Nat.one_mul, Nat.mul_one, n_in, n_min, n_clamp, n_eq_t, n_eq_f, n_eq, n_le_t, n_le_f, n_le, n_lt_t, n_lt_f, n_lt, n_sub0, n_sublt, n_suble, n_negsub, m_up_hit, m_up_miss, m_row_hit, m_row_miss, n_eqm, n_meq, n_meqm, n_ltm, n_lem, n_mlt, n_mle, n_sub, n_div, n_and1, n_shl, n_shr, n_inc, n_mul, n_rem, z_lt, z_le, z_nlt, z_nle, Nat.not_lt_zero, Nat.le_zero_eq, Nat.zero_le, if_true, if_false]
        refine key fun v9 => ?_
        rw [hn]
        have p2 : ∀ I', Off 30 31 I F R I' F R → I' (a + 2) g = nI (q_pos S g) := fun I' ho => (CSh_off h ho (by omega) (Nat.le_refl _) (by omega)).2.1 _ _ _ (cS_2 (by omega))
        have km : ∀ (Q : mP), (∀ I', I' 31 r = nI g → (∀ x, r < x → x ≤ r + q_on b g → I' 31 x = I 31 (x - 1)) → (∀ x, x < r ∨ r + q_on b g < x → I' 31 x = I 31 x) → Off 31 31 I F R I' F R → Q none I' F R n) → _ := fun Q hQ => s_mv (d := d - 1) (Q := Q) hw' (show r + q_on b g < 6 by omega) eg hQ
        obtain ⟨hs0, hs1, hs2, hs3, hs4, hs5, hs6, hs7, hs8, hs9, hs10, hs11, hs12, hs13, hs14, hs15, hs16, hs17, hs18, hs19, hs20, hs21, hs22, hs23, hs24, hs25, hs26⟩ := h.1
        simp (disch := omega) only [e31_84, e31_84N, e31_85, e31_87, e31_89, true_or, m_psh_s, m_psh_n, m_kl_i, m_kl_f, m_kl_r, m_kl_n, m_kl_j, m_kl_l, m_kl_d, c_i, c_f, c_r, c_n, List.length_nil, List.length_cons, true_and, and_true, Nat.reduceAdd, Nat.reduceLeDiff, Nat.reduceSub, Nat.reduceEqDiff, Nat.reduceLT, ge_iff_le, gt_iff_lt, n_lit, m_in, m_nar0, m_nar1, and_self, not_false_eq_true, not_true_eq_false, ne_eq, reduceIte, ite_self, Nat.reduceMul, Nat.reduceDiv, Nat.reduceMod, Nat.reducePow, Nat.zero_add, Nat.add_zero, Nat.one_mul, Nat.mul_one, n_in, n_min, n_clamp, n_eq_t, n_eq_f, n_eq, n_le_t, n_le_f, n_le, n_lt_t, n_lt_f, n_lt, n_sub0, n_sublt, n_suble, n_negsub, m_up_hit, m_up_miss, m_row_hit, m_row_miss, n_eqm, n_meq, n_meqm, n_ltm, n_lem, n_mlt, n_mle, n_sub, n_div, n_and1, n_shl, n_shr, n_inc, n_mul, n_rem, z_lt, z_le, z_nlt, z_nle, Nat.not_lt_zero, Nat.le_zero_eq, Nat.zero_le, if_true, if_false, hs0, hs1, hs2, hs3, hs4, hs5, hs6, hs7, hs8, hs9, hs10, hs11, hs12, hs13, hs14, hs15, hs16, hs17, hs18, hs19, hs20, hs21, hs22, hs23, hs24, hs25, hs26, w1, w2, w3, q_nrI, q_lsI]
        apply km
        intro I1 m1 m2 m3 m4
        have o4 : Off 30 31 I F R I1 F R := Off_wide m4 (by omega) (by omega)
        have h1 := CSh_off h o4 (by omega) (Nat.le_refl _) (by omega)
        have g2 := p2 I1 o4
        have g1 : I1 30 1 = nI (r + 1 + k) := by rw [(m4 30 (by omega)).1, h31]; congr 1; omega
        have qk : k = q_on (b ^^^ 2 ^ g) 16 := by
          rw [q_on_x gg.2, if_pos gg.1]; omega
        have key := ih (r + 1) (b ^^^ 2 ^ g) (q_pos S g) (len + q_stp (S 2) at_ (q_pos S g)) (.int (nI (r + q_on b g))) (.int (nI (q_stp (S 2) at_ (q_pos S g)))) (.int (nI (r + (k + 1)))) v9 I1 h1 hpg (b_lt hb gg.1) qk (by omega) g1 (fun x hx hb2 => by
            rw [b_xor] at hb2
            by_cases e : x = g
            · subst e; rw [if_pos rfl, gg.2] at hb2; omega
            · rw [if_neg e] at hb2
              rw [q_on_x gg.2]
              by_cases e2 : g < x
              · have := q_on_lt e2 gg.2
                rw [if_pos e2, show r + 1 + (q_on b x - 1) = r + q_on b x by omega, m3 _ (by omega)]
                exact hl x hx hb2
              · have := q_on_lt (b := b) (show x < g by omega) hb2
                rw [if_neg e2, m2 _ (by omega) (by omega), show r + 1 + q_on b x - 1 = r + q_on b x by omega]
                exact hl x hx hb2) (fun x hx hb2 => by
            rw [b_xor] at hb2
            by_cases e : x = g
            · subst e; rw [if_pos rfl, gg.2] at hb2; omega
            · rw [if_neg e] at hb2
              exact hg x hx hb2) (fun I' o5 t1 t2 t3 => by
            have hq := hQ I' (Off_trans o4 o5) (fun i hi => by
              cases i with
              | zero =>
                rw [Nat.add_zero, t2 r (by omega), m1, q_vi, hn]
                rfl
              | succ i =>
                have := t1 i (by omega)
                rw [show r + (i + 1) = r + 1 + i by omega, this, q_vi, hn]) (fun i hi => by rw [t2 i (by omega), m3 i (by omega)]) (by rw [t3]; congr 1; omega)
            rw [q_wl, hn] at hq
            simp only at hq
            rw [Nat.add_assoc]
            exact hq)
        simp (disch := omega) only [e31_92, e31_92N, e31_93, e31_96, e31_96N, e31_97, e31_100, e31_102, e31_103, e31_104, e31_106, e31_107, e31_109, e31_110, e31_111, e31_114, true_or, m_psh_s, m_psh_n, m_kl_i, m_kl_f, m_kl_r, m_kl_n, m_kl_j, m_kl_l, m_kl_d, c_i, c_f, c_r, c_n, List.length_nil, List.length_cons, true_and, and_true, Nat.reduceAdd, Nat.reduceLeDiff, Nat.reduceSub, Nat.reduceEqDiff, Nat.reduceLT, ge_iff_le, gt_iff_lt, n_lit, m_in, m_nar0, m_nar1, and_self, not_false_eq_true, not_true_eq_false, ne_eq, reduceIte, ite_self, Nat.reduceMul, Nat.reduceDiv, Nat.reduceMod, Nat.reducePow, Nat.zero_add, Nat.add_zero, Nat.one_mul, Nat.mul_one, n_in, n_min, n_clamp, n_eq_t, n_eq_f, n_eq, n_le_t, n_le_f, n_le, n_lt_t, n_lt_f, n_lt, n_sub0, n_sublt, n_suble, n_negsub, m_up_hit, m_up_miss, m_row_hit, m_row_miss, n_eqm, n_meq, n_meqm, n_ltm, n_lem, n_mlt, n_mle, n_sub, n_div, n_and1, n_shl, n_shr, n_inc, n_mul, n_rem, z_lt, z_le, z_nlt, z_nle, Nat.not_lt_zero, Nat.le_zero_eq, Nat.zero_le, if_true, if_false, hs0, hs1, hs2, hs3, hs4, hs5, hs6, hs7, hs8, hs9, hs10, hs11, hs12, hs13, hs14, hs15, hs16, hs17, hs18, hs19, hs20, hs21, hs22, hs23, hs24, hs25, hs26, w1, w2, w3, m1, g2]
        exact key
      simp (disch := omega) only [e31_15, e31_15N, e31_16, e31_19, true_or, m_psh_s, m_psh_n, m_kl_i, m_kl_f, m_kl_r, m_kl_n, m_kl_j, m_kl_l, m_kl_d, c_i, c_f, c_r, c_n, List.length_nil, List.length_cons, true_and, and_true, Nat.reduceAdd, Nat.reduceLeDiff, Nat.reduceSub, Nat.reduceEqDiff, Nat.reduceLT, ge_iff_le, gt_iff_lt, n_lit, m_in, m_nar0, m_nar1, and_self, not_false_eq_true, not_true_eq_false, ne_eq, reduceIte, ite_self, Nat.reduceMul, Nat.reduceDiv, Nat.reduceMod, Nat.reducePow, Nat.zero_add, Nat.add_zero, Nat.one_mul, Nat.mul_one, n_in, n_min, n_clamp, n_eq_t, n_eq_f, n_eq, n_le_t, n_le_f, n_le, n_lt_t, n_lt_f, n_lt, n_sub0, n_sublt, n_suble, n_negsub, m_up_hit, m_up_miss, m_row_hit, m_row_miss, n_eqm, n_meq, n_meqm, n_ltm, n_lem, n_mlt, n_mle, n_sub, n_div, n_and1, n_shl, n_shr, n_inc, n_mul, n_rem, z_lt, z_le, z_nlt, z_nle, Nat.not_lt_zero, Nat.le_zero_eq, Nat.zero_le, if_true, if_false, w1, h31]
      exact inner _ _ _ _
theorem s_lengthOf {b : Nat} (h : CSh lay I F R n a S sp hi) (w : Wsh S) (hc9 : S 2 ≤ 9) (hw : WK lay R) (hd : 1 ≤ d) (ha : a + 13 < 30 ∨ 31 < a) (hb : bOK S b) (hQ : ∀ I', Off 30 31 I F R I' F R → (∀ i, i < q_on b 16 → I' 31 i = nI (q_vi (S 2) (q_pos S) i b 0)) → I' 30 1 = nI (q_on b 16) → Q (some (.int (nI (q_len S b)))) I' F R n) : Ev lay d 31 0 [.ref 30, .ref a, .int (nI b), m_j, m_j, m_j, m_j, m_j, m_j, m_j] [] I F R n Q := by
  obtain ⟨hb1, hb2, hb3⟩ := hb
  have kl : ∀ (Q : mP), (∀ I', I' 30 1 = nI (q_on b 16) → (∀ g, g < 16 → b / 2 ^ g % 2 = 1 → I' 31 (q_on b g) = nI g) → Off 30 31 I F R I' F R → Q none I' F R n) → _ := fun Q hQ => s_list (d := d - 1) (Q := Q) hw hb1 hb2 hQ
  have w1 := hw.1
  simp (disch := omega) only [e31_0, e31_0N, e31_1, e31_2, true_or, m_psh_s, m_psh_n, m_kl_i, m_kl_f, m_kl_r, m_kl_n, m_kl_j, m_kl_l, m_kl_d, c_i, c_f, c_r, c_n, List.length_nil, List.length_cons, true_and, and_true, Nat.reduceAdd, Nat.reduceLeDiff, Nat.reduceSub, Nat.reduceEqDiff, Nat.reduceLT, ge_iff_le, gt_iff_lt, n_lit, m_in, m_nar0, m_nar1, and_self, not_false_eq_true, not_true_eq_false, ne_eq, reduceIte, ite_self, Nat.reduceMul, Nat.reduceDiv, Nat.reduceMod, Nat.reducePow, Nat.zero_add, Nat.add_zero, Nat.one_mul, Nat.mul_one, n_in, n_min, n_clamp, n_eq_t, n_eq_f, n_eq, n_le_t, n_le_f, n_le, n_lt_t, n_lt_f, n_lt, n_sub0, n_sublt, n_suble, n_negsub, m_up_hit, m_up_miss, m_row_hit, m_row_miss, n_eqm, n_meq, n_meqm, n_ltm, n_lem, n_mlt, n_mle, n_sub, n_div, n_and1, n_shl, n_shr, n_inc, n_mul, n_rem, z_lt, z_le, z_nlt, z_nle, Nat.not_lt_zero, Nat.le_zero_eq, Nat.zero_le, if_true, if_false, w1]
  apply kl
  intro I1 m1 m2 m3
  have h1 := CSh_off h m3 (by omega) (Nat.le_refl _) (by omega)
  have key := s_wk0 (F := F) (R := R) (n := n) (Q := Q) (vb := nI b) (sp := sp) (hi := hi) w hc9 hw hd ha (q_on b 16) 0 b 0 1 m_j m_j m_j m_j I1 h1 (by omega) hb1 rfl (by omega) (by rw [Nat.zero_add]; exact m1) (fun g hg hgb => by rw [Nat.zero_add]; exact m2 g hg hgb) hb3 (fun I' t1 t2 t3 t4 => by
    refine hQ I' (Off_trans m3 t1) (fun i hi => ?_) (by rw [t4, Nat.zero_add])
    have := t2 i hi
    rw [Nat.zero_add] at this
    exact this)
  simp (disch := omega) only [e31_5, e31_6, e31_7, e31_8, e31_10, e31_11, true_or, m_psh_s, m_psh_n, m_kl_i, m_kl_f, m_kl_r, m_kl_n, m_kl_j, m_kl_l, m_kl_d, c_i, c_f, c_r, c_n, List.length_nil, List.length_cons, true_and, and_true, Nat.reduceAdd, Nat.reduceLeDiff, Nat.reduceSub, Nat.reduceEqDiff, Nat.reduceLT, ge_iff_le, gt_iff_lt, n_lit, m_in, m_nar0, m_nar1, and_self, not_false_eq_true, not_true_eq_false, ne_eq, reduceIte, ite_self, Nat.reduceMul, Nat.reduceDiv, Nat.reduceMod, Nat.reducePow, Nat.zero_add, Nat.add_zero, Nat.one_mul, Nat.mul_one, n_in, n_min, n_clamp, n_eq_t, n_eq_f, n_eq, n_le_t, n_le_f, n_le, n_lt_t, n_lt_f, n_lt, n_sub0, n_sublt, n_suble, n_negsub, m_up_hit, m_up_miss, m_row_hit, m_row_miss, n_eqm, n_meq, n_meqm, n_ltm, n_lem, n_mlt, n_mle, n_sub, n_div, n_and1, n_shl, n_shr, n_inc, n_mul, n_rem, z_lt, z_le, z_nlt, z_nle, Nat.not_lt_zero, Nat.le_zero_eq, Nat.zero_le, if_true, if_false]
  exact key
theorem s_goodAt {m : Nat} {f : Nat → Nat} {x : Int32} (hw : WK lay R) (hm : I 30 1 = nI m) (hm6 : m ≤ 6) (hf : ∀ i, i < m → I 31 i = nI (f i)) : Ev lay d 65 0 [.ref 30, .int x] [] I F R n Q ↔ Q (some (.int (if x < nI 0 ∨ m ≤ q_N x then -nI 6 else nI (f (q_N x))))) I F R n := by
  obtain ⟨w1, w2, w3⟩ := hw
  rcases n_g x with ⟨k, hk, rfl⟩ | hx
  · by_cases c : k < m
    · have e := hf k c
      rw [q_N_n hk]
      simp (disch := omega) only [e65_0, e65_1, e65_4, e65_5, e65_5N, e65_6, e65_9, e65_12, e65_14, e65_17, e65_17N, e65_18, e65_21, e65_22, e65_23, true_or, m_psh_s, m_psh_n, m_kl_i, m_kl_f, m_kl_r, m_kl_n, m_kl_j, m_kl_l, m_kl_d, c_i, c_f, c_r, c_n, List.length_nil, List.length_cons, true_and, and_true, Nat.reduceAdd, Nat.reduceLeDiff, Nat.reduceSub, Nat.reduceEqDiff, Nat.reduceLT, ge_iff_le, gt_iff_lt, n_lit, m_in, m_nar0, m_nar1, and_self, not_false_eq_true, not_true_eq_false, ne_eq, reduceIte, ite_self, Nat.reduceMul, Nat.reduceDiv, Nat.reduceMod, Nat.reducePow, Nat.zero_add, Nat.add_zero, Nat.one_mul, Nat.mul_one, n_in, n_min, n_clamp, n_eq_t, n_eq_f, n_eq, n_le_t, n_le_f, n_le, n_lt_t, n_lt_f, n_lt, n_sub0, n_sublt, n_suble, n_negsub, m_up_hit, m_up_miss, m_row_hit, m_row_miss, n_eqm, n_meq, n_meqm, n_ltm, n_lem, n_mlt, n_mle, n_sub, n_div, n_and1, n_shl, n_shr, n_inc, n_mul, n_rem, z_lt, z_le, z_nlt, z_nle, Nat.not_lt_zero, Nat.le_zero_eq, Nat.zero_le, if_true, if_false, w1, w2, w3, hm, e, false_or]
    · rw [q_N_n hk]
      simp (disch := omega) only [e65_0, e65_1, e65_4, e65_5, e65_5N, e65_6, e65_9, e65_12, e65_14, e65_17, e65_17N, e65_18, e65_21, e65_22, e65_23, true_or, m_psh_s, m_psh_n, m_kl_i, m_kl_f, m_kl_r, m_kl_n, m_kl_j, m_kl_l, m_kl_d, c_i, c_f, c_r, c_n, List.length_nil, List.length_cons, true_and, and_true, Nat.reduceAdd, Nat.reduceLeDiff, Nat.reduceSub, Nat.reduceEqDiff, Nat.reduceLT, ge_iff_le, gt_iff_lt, n_lit, m_in, m_nar0, m_nar1, and_self, not_false_eq_true, not_true_eq_false, ne_eq, reduceIte, ite_self, Nat.reduceMul, Nat.reduceDiv, Nat.reduceMod, Nat.reducePow, Nat.zero_add, Nat.add_zero, Nat.one_mul, Nat.mul_one, n_in, n_min, n_clamp, n_eq_t, n_eq_f, n_eq, n_le_t, n_le_f, n_le, n_lt_t, n_lt_f, n_lt, n_sub0, n_sublt, n_suble, n_negsub, m_up_hit, m_up_miss, m_row_hit, m_row_miss, n_eqm, n_meq, n_meqm, n_ltm, n_lem, n_mlt, n_mle, n_sub, n_div, n_and1, n_shl, n_shr, n_inc, n_mul, n_rem, z_lt, z_le, z_nlt, z_nle, Nat.not_lt_zero, Nat.le_zero_eq, Nat.zero_le, if_true, if_false, w1, w2, w3, hm, false_or, or_true]
  · rw [if_pos (Or.inl hx)]
    simp (disch := omega) only [e65_0, e65_1, e65_4, e65_5, e65_5N, e65_6, e65_9, e65_12, e65_14, e65_17, e65_17N, e65_18, e65_21, e65_22, e65_23, true_or, m_psh_s, m_psh_n, m_kl_i, m_kl_f, m_kl_r, m_kl_n, m_kl_j, m_kl_l, m_kl_d, c_i, c_f, c_r, c_n, List.length_nil, List.length_cons, true_and, and_true, Nat.reduceAdd, Nat.reduceLeDiff, Nat.reduceSub, Nat.reduceEqDiff, Nat.reduceLT, ge_iff_le, gt_iff_lt, n_lit, m_in, m_nar0, m_nar1, and_self, not_false_eq_true, not_true_eq_false, ne_eq, reduceIte, ite_self, Nat.reduceMul, Nat.reduceDiv, Nat.reduceMod, Nat.reducePow, Nat.zero_add, Nat.add_zero, Nat.one_mul, Nat.mul_one, n_in, n_min, n_clamp, n_eq_t, n_eq_f, n_eq, n_le_t, n_le_f, n_le, n_lt_t, n_lt_f, n_lt, n_sub0, n_sublt, n_suble, n_negsub, m_up_hit, m_up_miss, m_row_hit, m_row_miss, n_eqm, n_meq, n_meqm, n_ltm, n_lem, n_mlt, n_mle, n_sub, n_div, n_and1, n_shl, n_shr, n_inc, n_mul, n_rem, z_lt, z_le, z_nlt, z_nle, Nat.not_lt_zero, Nat.le_zero_eq, Nat.zero_le, if_true, if_false, w1, w2, w3, hm, if_pos hx, hx]
end WALKB
