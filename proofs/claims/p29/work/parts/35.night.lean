section NIGHT
variable {lay : mL} {d a n : Nat} {I : mI} {F : mF} {R : mR} {Q : mP} {S : Nat → Nat} {sp : Nat → UInt32} {hi : List Nat}
theorem q_ct_hi {g : Option Nat} {k : Nat} (hg : ∀ x, g = some x → x < 16) (hk : 68 ≤ k) : q_ct S g k = S k := by
  cases g with
  | none => rfl
  | some x => exact up1_miss (by have := hg x rfl; omega)
theorem q_swS_k {s o k : Nat} (w1 : S 3 ≤ 16) (hk : k < 4 ∨ 68 ≤ k) : q_swS S s o k = S k := by
  have e3 : q_exS S s o 3 = S 3 := q_exS_k (by omega)
  have hg : ∀ y x, q_gi (q_exS S s o) y = some x → x < 16 := fun y x h => by
    have := q_gi_lt h
    omega
  unfold q_swS
  rcases hk with hk | hk
  · rw [q_ct_lo (by omega), q_ct_lo (by omega), q_exS_k (by omega)]
  · rw [q_ct_hi (hg o) hk, q_ct_hi (hg s) hk, q_exS_hi w1 hk]
theorem Wsh_sw {s o : Nat} (w : Wsh S) (hs : s < 30) (ho : o < 30) : Wsh (q_swS S s o) := Wsh_ct (Wsh_ct (Wsh_ex w hs ho))
theorem dOK_k {T : Nat → Nat} (h3 : T 3 = S 3) (hh : ∀ k, 69 ≤ k → k < 95 → T k = S k) (hD : dOK S) : dOK T := by
  unfold dOK bOK
  rw [hh 69 (by omega) (by omega), h3]
  refine ⟨hD.1, fun k hk => ?_⟩
  have := hD.1
  rw [hh _ (by omega) (by omega)]
  exact hD.2 k hk
theorem dOK_sw {s o : Nat} (w : Wsh S) (hD : dOK S) : dOK (q_swS S s o) := dOK_k (q_swS_k w.1 (by omega)) (fun k hk _ => q_swS_k w.1 (by omega)) hD
def q_nl (sp : Nat → UInt32) : Nat → (Nat → Nat) → Nat × (Nat → Nat)
  | 0, S => (0, S)
  | m + 1, S => match (q_bp S sp 900).1 with
    | none => (0, S)
    | some p => ((q_nl sp m (q_swS S (p / 30) (p % 30))).1 + 1, (q_nl sp m (q_swS S (p / 30) (p % 30))).2)
theorem q_bp_lt {m p : Nat} (h : (q_bp S sp m).1 = some p) : p < m := by
  induction m with
  | zero => cases h
  | succ m ihm =>
    rw [q_bp] at h
    split at h
    · cases h; omega
    · have := ihm h; omega
theorem q_nl_k (m : Nat) : ∀ S, S 3 ≤ 16 → ∀ k, (k < 4 ∨ 68 ≤ k) → (q_nl sp m S).2 k = S k := by
  induction m with
  | zero => intro S _ k _; rfl
  | succ m ih =>
    intro S w1 k hk
    rw [q_nl]
    split
    · rfl
    · rename_i p e
      have w3 : q_swS S (p / 30) (p % 30) 3 = S 3 := q_swS_k w1 (by omega)
      have h1 := ih (q_swS S (p / 30) (p % 30)) (by rw [w3]; exact w1) k hk
      exact h1.trans (q_swS_k w1 hk)
theorem q_nl_w (m : Nat) : ∀ S, Wsh S → Wsh (q_nl sp m S).2 ∧ (q_nl sp m S).1 ≤ m := by
  induction m with
  | zero => intro S w; exact ⟨w, Nat.le_refl _⟩
  | succ m ih =>
    intro S w
    rw [q_nl]
    split
    · exact ⟨w, by omega⟩
    · rename_i p e
      have := q_bp_lt e
      have h1 := ih (q_swS S (p / 30) (p % 30)) (Wsh_sw w (by omega) (by omega))
      exact ⟨h1.1, by have := h1.2; dsimp only; omega⟩
def q_night (S : Nat → Nat) (sp : Nat → UInt32) : Int32 × (Nat → Nat) × (Nat → UInt32) :=
  if 9999 ≤ S 119 then (-nI 5, S, sp) else (nI (q_nl (q_age S sp (S 3)) (S 0) S).1, q_end (up1 (q_nl (q_age S sp (S 3)) (S 0) S).2 121 ((q_nl (q_age S sp (S 3)) (S 0) S).2 121 + (q_nl (q_age S sp (S 3)) (S 0) S).1)), q_age S sp (S 3))
theorem s_night0 {m0 : Nat} (hw : WK lay R) (hv : MV lay R) (hd : 4 ≤ d) (ha : a + 13 < 30 ∨ 32 < a ∧ a + 13 < 180) (hm0 : m0 ≤ 9) (j : Nat) : ∀ (S : Nat → Nat) (k : Nat) (I : mI), Wsh S → S 2 ≤ 9 → S 68 < 1073741824 → dOK S → allW S sp → S 0 = m0 → k + j = m0 → CSh lay I F R n a S sp hi →
    (∀ I', CSh lay I' F R n a (q_nl sp j S).2 sp hi → Ofw a I F R I' F R → Ev lay d 42 56 [.ref 32, .ref a, .int (nI (k + (q_nl sp j S).1))] [] I' F R n Q) →
    Ev lay d 42 19 [.ref 32, .ref a, .int (nI k)] [] I F R n Q := by
  have hv' := hv
  obtain ⟨v1, v2⟩ := hv
  induction j with
  | zero =>
    intro S k I w hc9 hc2 hD wo hS0 hk h hQ
    have p0 : I (a + 1) 0 = nI (S 0) := h.2.1 _ _ _ (cS_1 (by omega))
    rw [hS0] at p0
    have hk2 : k = m0 := by omega
    subst hk2
    have key := hQ I h Ofw_refl
    obtain ⟨hs0, hs1, hs2, hs3, hs4, hs5, hs6, hs7, hs8, hs9, hs10, hs11, hs12, hs13, hs14, hs15, hs16, hs17, hs18, hs19, hs20, hs21, hs22, hs23, hs24, hs25, hs26⟩ := h.1
    rw [e42_19]
    simp (disch := omega) only [e42_20, e42_20N, e42_21, e42_24, e42_25, e42_26, e42_29, e42_29N, e42_30, e42_30N, e42_31, e42_34, e42_37, e42_37N, e42_38, e42_38N, e42_39, e42_42, e42_42N, e42_43, e42_46, e42_49, e42_50, e42_53, true_or, m_psh_s, m_psh_n, m_kl_i, m_kl_f, m_kl_r, m_kl_n, m_kl_j, m_kl_l, m_kl_d, c_i, c_f, c_r, c_n, List.length_nil, List.length_cons, true_and, and_true, Nat.reduceAdd, Nat.reduceLeDiff, Nat.reduceSub, Nat.reduceEqDiff, Nat.reduceLT, ge_iff_le, gt_iff_lt, n_lit, m_in, m_nar0, m_nar1, and_self, not_false_eq_true, not_true_eq_false, ne_eq, reduceIte, ite_self, Nat.reduceMul, Nat.reduceDiv, Nat.reduceMod, Nat.reducePow, Nat.zero_add, Nat.add_zero, Nat.one_mul, Nat.mul_one, n_in, n_min, n_clamp, n_eq_t, n_eq_f, n_eq, n_le_t, n_le_f, n_le, n_lt_t, n_lt_f, n_lt, n_sub0, n_sublt, n_suble, n_negsub, m_up_hit, m_up_miss, m_row_hit, m_row_miss, n_eqm, n_meq, n_meqm, n_ltm, n_lem, n_mlt, n_mle, n_sub, n_div, n_and1, n_shl, n_shr, n_inc, n_mul, n_rem, z_lt, z_le, z_nlt, z_nle, Nat.not_lt_zero, Nat.le_zero_eq, Nat.zero_le, if_true, if_false, hs0, hs1, hs2, hs3, hs4, hs5, hs6, hs7, hs8, hs9, hs10, hs11, hs12, hs13, hs14, hs15, hs16, hs17, hs18, hs19, hs20, hs21, hs22, hs23, hs24, hs25, hs26, p0]
    exact key
  | succ j ih =>
    intro S k I w hc9 hc2 hD wo hS0 hk h hQ
    have p0 : I (a + 1) 0 = nI (S 0) := h.2.1 _ _ _ (cS_1 (by omega))
    rw [hS0] at p0
    rw [q_nl] at hQ
    have l1 : lay a = (11, 0) := h.1.1
    have kf : ∀ (Q : mP), _ → _ := fun Q hQ => s_find (d := d - 1) (Q := Q) h w hc9 hc2 hD wo hw hv' (by omega) ha hQ
    rw [e42_19]
    have goA : Ev lay d 42 29 [.ref 32, .ref a, .int (nI k)] [] I F R n Q := by
      simp (disch := omega) only [e42_29, e42_29N, e42_30, e42_30N, e42_31, true_or, m_psh_s, m_psh_n, m_kl_i, m_kl_f, m_kl_r, m_kl_n, m_kl_j, m_kl_l, m_kl_d, c_i, c_f, c_r, c_n, List.length_nil, List.length_cons, true_and, and_true, Nat.reduceAdd, Nat.reduceLeDiff, Nat.reduceSub, Nat.reduceEqDiff, Nat.reduceLT, ge_iff_le, gt_iff_lt, n_lit, m_in, m_nar0, m_nar1, and_self, not_false_eq_true, not_true_eq_false, ne_eq, reduceIte, ite_self, Nat.reduceMul, Nat.reduceDiv, Nat.reduceMod, Nat.reducePow, Nat.zero_add, Nat.add_zero, Nat.one_mul, Nat.mul_one, n_in, n_min, n_clamp, n_eq_t, n_eq_f, n_eq, n_le_t, n_le_f, n_le, n_lt_t, n_lt_f, n_lt, n_sub0, n_sublt, n_suble, n_negsub, m_up_hit, m_up_miss, m_row_hit, m_row_miss, n_eqm, n_meq, n_meqm, n_ltm, n_lem, n_mlt, n_mle, n_sub, n_div, n_and1, n_shl, n_shr, n_inc, n_mul, n_rem, z_lt, z_le, z_nlt, z_nle, Nat.not_lt_zero, Nat.le_zero_eq, Nat.zero_le, if_true, if_false, v1]
      apply kf
      intro I1 h1 o1 i1 i2
      cases e : (q_bp S sp 900).1 with
      | none =>
        rw [if_pos rfl]
        rw [e] at hQ
        have key := hQ I1 h1 o1
        simp (disch := omega) only [e42_34, e42_37, e42_37N, e42_38, e42_38N, e42_39, e42_42, e42_42N, e42_43, e42_46, e42_49, e42_50, e42_53, true_or, m_psh_s, m_psh_n, m_kl_i, m_kl_f, m_kl_r, m_kl_n, m_kl_j, m_kl_l, m_kl_d, c_i, c_f, c_r, c_n, List.length_nil, List.length_cons, true_and, and_true, Nat.reduceAdd, Nat.reduceLeDiff, Nat.reduceSub, Nat.reduceEqDiff, Nat.reduceLT, ge_iff_le, gt_iff_lt, n_lit, m_in, m_nar0, m_nar1, and_self, not_false_eq_true, not_true_eq_false, ne_eq, reduceIte, ite_self, Nat.reduceMul, Nat.reduceDiv, Nat.reduceMod, Nat.reducePow, Nat.zero_add, Nat.add_zero, Nat.one_mul, Nat.mul_one, n_in, n_min, n_clamp, n_eq_t, n_eq_f, n_eq, n_le_t, n_le_f, n_le, n_lt_t, n_lt_f, n_lt, n_sub0, n_sublt, n_suble, n_negsub, m_up_hit, m_up_miss, m_row_hit, m_row_miss, n_eqm, n_meq, n_meqm, n_ltm, n_lem, n_mlt, n_mle, n_sub, n_div, n_and1, n_shl, n_shr, n_inc, n_mul, n_rem, z_lt, z_le, z_nlt, z_nle, Nat.not_lt_zero, Nat.le_zero_eq, Nat.zero_le, if_true, if_false]
        exact key
      | some p =>
        have hp := q_bp_lt e
        rw [if_neg nofun]
        rw [e] at hQ i1 i2
        simp only [q_loI] at i1
        simp only [q_hiI] at i2
        have ks : ∀ (Q : mP), _ → _ := fun Q hQ => s_swapCounted (d := d - 1) (Q := Q) (s := p / 30) (o := p % 30) h1 w (by omega) (by omega) (by omega) (by omega) hQ
        simp (disch := omega) only [e42_34, e42_37, e42_37N, e42_38, e42_38N, e42_39, e42_42, e42_42N, e42_43, e42_46, true_or, m_psh_s, m_psh_n, m_kl_i, m_kl_f, m_kl_r, m_kl_n, m_kl_j, m_kl_l, m_kl_d, c_i, c_f, c_r, c_n, List.length_nil, List.length_cons, true_and, and_true, Nat.reduceAdd, Nat.reduceLeDiff, Nat.reduceSub, Nat.reduceEqDiff, Nat.reduceLT, ge_iff_le, gt_iff_lt, n_lit, m_in, m_nar0, m_nar1, and_self, not_false_eq_true, not_true_eq_false, ne_eq, reduceIte, ite_self, Nat.reduceMul, Nat.reduceDiv, Nat.reduceMod, Nat.reducePow, Nat.zero_add, Nat.add_zero, Nat.one_mul, Nat.mul_one, n_in, n_min, n_clamp, n_eq_t, n_eq_f, n_eq, n_le_t, n_le_f, n_le, n_lt_t, n_lt_f, n_lt, n_sub0, n_sublt, n_suble, n_negsub, m_up_hit, m_up_miss, m_row_hit, m_row_miss, n_eqm, n_meq, n_meqm, n_ltm, n_lem, n_mlt, n_mle, n_sub, n_div, n_and1, n_shl, n_shr, n_inc, n_mul, n_rem, z_lt, z_le, z_nlt, z_nle, Nat.not_lt_zero, Nat.le_zero_eq, Nat.zero_le, if_true, if_false, v1, l1, i1, i2]
        apply ks
        intro I2 h2 o2
        have w3 : q_swS S (p / 30) (p % 30) 3 = S 3 := q_swS_k w.1 (by omega)
        have w2 : q_swS S (p / 30) (p % 30) 2 = S 2 := q_swS_k w.1 (by omega)
        have key := ih (q_swS S (p / 30) (p % 30)) (k + 1) I2 (Wsh_sw w (by omega) (by omega)) (by rw [w2]; exact hc9) (by rw [q_swS_k w.1 (by omega)]; exact hc2) (dOK_sw w hD) (fun T t3 t2 wT => wo T (t3.trans w3) (t2.trans w2) wT) (by rw [q_swS_k w.1 (by omega)]; exact hS0) (by omega) h2 (fun I' t1 t2 => by
          have := hQ I' t1 (Ofw_trans o1 (Ofw_trans (Ofw_s o2) t2))
          rw [show k + 1 + (q_nl sp j (q_swS S (p / 30) (p % 30))).1 = k + ((q_nl sp j (q_swS S (p / 30) (p % 30))).1 + 1) by omega]
          exact this)
        simp (disch := omega) only [e42_49, e42_50, e42_53, true_or, m_psh_s, m_psh_n, m_kl_i, m_kl_f, m_kl_r, m_kl_n, m_kl_j, m_kl_l, m_kl_d, c_i, c_f, c_r, c_n, List.length_nil, List.length_cons, true_and, and_true, Nat.reduceAdd, Nat.reduceLeDiff, Nat.reduceSub, Nat.reduceEqDiff, Nat.reduceLT, ge_iff_le, gt_iff_lt, n_lit, m_in, m_nar0, m_nar1, and_self, not_false_eq_true, not_true_eq_false, ne_eq, reduceIte, ite_self, Nat.reduceMul, Nat.reduceDiv, Nat.reduceMod, Nat.reducePow, Nat.zero_add, Nat.add_zero, Nat.one_mul, Nat.mul_one, n_in, n_min, n_clamp, n_eq_t, n_eq_f, n_eq, n_le_t, n_le_f, n_le, n_lt_t, n_lt_f, n_lt, n_sub0, n_sublt, n_suble, n_negsub, m_up_hit, m_up_miss, m_row_hit, m_row_miss, n_eqm, n_meq, n_meqm, n_ltm, n_lem, n_mlt, n_mle, n_sub, n_div, n_and1, n_shl, n_shr, n_inc, n_mul, n_rem, z_lt, z_le, z_nlt, z_nle, Nat.not_lt_zero, Nat.le_zero_eq, Nat.zero_le, if_true, if_false]
        exact key
    obtain ⟨hs0, hs1, hs2, hs3, hs4, hs5, hs6, hs7, hs8, hs9, hs10, hs11, hs12, hs13, hs14, hs15, hs16, hs17, hs18, hs19, hs20, hs21, hs22, hs23, hs24, hs25, hs26⟩ := h.1
    simp (disch := omega) only [e42_20, e42_20N, e42_21, e42_24, e42_25, e42_26, true_or, m_psh_s, m_psh_n, m_kl_i, m_kl_f, m_kl_r, m_kl_n, m_kl_j, m_kl_l, m_kl_d, c_i, c_f, c_r, c_n, List.length_nil, List.length_cons, true_and, and_true, Nat.reduceAdd, Nat.reduceLeDiff, Nat.reduceSub, Nat.reduceEqDiff, Nat.reduceLT, ge_iff_le, gt_iff_lt, n_lit, m_in, m_nar0, m_nar1, and_self, not_false_eq_true, not_true_eq_false, ne_eq, reduceIte, ite_self, Nat.reduceMul, Nat.reduceDiv, Nat.reduceMod, Nat.reducePow, Nat.zero_add, Nat.add_zero, Nat.one_mul, Nat.mul_one, n_in, n_min, n_clamp, n_eq_t, n_eq_f, n_eq, n_le_t, n_le_f, n_le, n_lt_t, n_lt_f, n_lt, n_sub0, n_sublt, n_suble, n_negsub, m_up_hit, m_up_miss, m_row_hit, m_row_miss, n_eqm, n_meq, n_meqm, n_ltm, n_lem, n_mlt, n_mle, n_sub, n_div, n_and1, n_shl, n_shr, n_inc, n_mul, n_rem, z_lt, z_le, z_nlt, z_nle, Nat.not_lt_zero, Nat.le_zero_eq, Nat.zero_le, if_true, if_false, hs0, hs1, hs2, hs3, hs4, hs5, hs6, hs7, hs8, hs9, hs10, hs11, hs12, hs13, hs14, hs15, hs16, hs17, hs18, hs19, hs20, hs21, hs22, hs23, hs24, hs25, hs26, p0]
    exact goA
theorem s_night (h : CSh lay I F R n a S sp hi) (w : Wsh S) (h0 : S 0 ≤ 9) (hc : S 1 ≤ 100) (hc9 : S 2 ≤ 9) (hc2 : S 68 < 1073741824) (hD : dOK S) (ht : S 119 < 2147483648) (ao : S 119 < 9999 → q_aok S sp ∧ allW S (q_age S sp (S 3))) (hw : WK lay R) (hv : MV lay R) (hd : 4 ≤ d) (ha : a + 13 < 30 ∨ 32 < a ∧ a + 13 < 180) (hQ : ∀ I' F', CSh lay I' F' R n a (q_night S sp).2.1 (q_night S sp).2.2 hi → Ofw a I F R I' F' R → Q (some (.int (q_night S sp).1)) I' F' R n) : Ev lay d 42 0 [.ref 32, .ref a, m_j] [] I F R n Q := by
  have l1 : lay a = (11, 0) := h.1.1
  have h119 := CSh_0 h cS_0_13
  unfold q_night at hQ
  by_cases c : 9999 ≤ S 119
  · rw [if_pos c] at hQ
    have key := hQ I F h Ofw_refl
    simp (disch := omega) only [e42_0, e42_0N, e42_1, e42_4, e42_7, e42_10, e42_12, true_or, m_psh_s, m_psh_n, m_kl_i, m_kl_f, m_kl_r, m_kl_n, m_kl_j, m_kl_l, m_kl_d, c_i, c_f, c_r, c_n, List.length_nil, List.length_cons, true_and, and_true, Nat.reduceAdd, Nat.reduceLeDiff, Nat.reduceSub, Nat.reduceEqDiff, Nat.reduceLT, ge_iff_le, gt_iff_lt, n_lit, m_in, m_nar0, m_nar1, and_self, not_false_eq_true, not_true_eq_false, ne_eq, reduceIte, ite_self, Nat.reduceMul, Nat.reduceDiv, Nat.reduceMod, Nat.reducePow, Nat.zero_add, Nat.add_zero, Nat.one_mul, Nat.mul_one, n_in, n_min, n_clamp, n_eq_t, n_eq_f, n_eq, n_le_t, n_le_f, n_le, n_lt_t, n_lt_f, n_lt, n_sub0, n_sublt, n_suble, n_negsub, m_up_hit, m_up_miss, m_row_hit, m_row_miss, n_eqm, n_meq, n_meqm, n_ltm, n_lem, n_mlt, n_mle, n_sub, n_div, n_and1, n_shl, n_shr, n_inc, n_mul, n_rem, z_lt, z_le, z_nlt, z_nle, Nat.not_lt_zero, Nat.le_zero_eq, Nat.zero_le, if_true, if_false, l1, h119]
    exact key
  · rw [if_neg c] at hQ
    obtain ⟨ao1, ao2⟩ := ao (by omega)
    simp (disch := omega) only [e42_0, e42_0N, e42_1, e42_4, e42_7, e42_10, e42_12, e42_13, e42_13N, e42_14, true_or, m_psh_s, m_psh_n, m_kl_i, m_kl_f, m_kl_r, m_kl_n, m_kl_j, m_kl_l, m_kl_d, c_i, c_f, c_r, c_n, List.length_nil, List.length_cons, true_and, and_true, Nat.reduceAdd, Nat.reduceLeDiff, Nat.reduceSub, Nat.reduceEqDiff, Nat.reduceLT, ge_iff_le, gt_iff_lt, n_lit, m_in, m_nar0, m_nar1, and_self, not_false_eq_true, not_true_eq_false, ne_eq, reduceIte, ite_self, Nat.reduceMul, Nat.reduceDiv, Nat.reduceMod, Nat.reducePow, Nat.zero_add, Nat.add_zero, Nat.one_mul, Nat.mul_one, n_in, n_min, n_clamp, n_eq_t, n_eq_f, n_eq, n_le_t, n_le_f, n_le, n_lt_t, n_lt_f, n_lt, n_sub0, n_sublt, n_suble, n_negsub, m_up_hit, m_up_miss, m_row_hit, m_row_miss, n_eqm, n_meq, n_meqm, n_ltm, n_lem, n_mlt, n_mle, n_sub, n_div, n_and1, n_shl, n_shr, n_inc, n_mul, n_rem, z_lt, z_le, z_nlt, z_nle, Nat.not_lt_zero, Nat.le_zero_eq, Nat.zero_le, if_true, if_false, l1, h119]
    apply s_age h w hc ao1 (by omega)
    intro F1 h1 o1
    have key := s_night0 (lay := lay) (d := d) (n := n) (F := F1) (Q := Q) (hi := hi) (a := a) (m0 := S 0) hw hv hd ha h0 (S 0) S 0 I w hc9 hc2 hD ao2 rfl (Nat.zero_add _) h1 (fun I2 h2 o2 => by
      have h121 := CSh_0 h2 cS_0_15
      have w' := (q_nl_w (sp := q_age S sp (S 3)) (S 0) S w).1
      have h3 := CSh_1 (v := (q_nl (q_age S sp (S 3)) (S 0) S).2 121 + (q_nl (q_age S sp (S 3)) (S 0) S).1) h2 cS_0_15 (by omega) (by omega) w'.1 (by omega)
      rw [Nat.add_zero] at h3
      have w'' : Wsh (up1 (q_nl (q_age S sp (S 3)) (S 0) S).2 121 ((q_nl (q_age S sp (S 3)) (S 0) S).2 121 + (q_nl (q_age S sp (S 3)) (S 0) S).1)) := Wsh_eq w' (up1_miss (by omega)) fun g hg => up1_miss (by omega)
      have ke : ∀ (Q : mP), _ → _ := fun Q hQ => s_endDay (d := d - 1) (Q := Q) h3 w'' (by omega) (by omega) hQ
      simp (disch := omega) only [e42_56, e42_56N, e42_57, e42_58, e42_61, e42_62, e42_63, e42_66, e42_66N, e42_67, true_or, m_psh_s, m_psh_n, m_kl_i, m_kl_f, m_kl_r, m_kl_n, m_kl_j, m_kl_l, m_kl_d, c_i, c_f, c_r, c_n, List.length_nil, List.length_cons, true_and, and_true, Nat.reduceAdd, Nat.reduceLeDiff, Nat.reduceSub, Nat.reduceEqDiff, Nat.reduceLT, ge_iff_le, gt_iff_lt, n_lit, m_in, m_nar0, m_nar1, and_self, not_false_eq_true, not_true_eq_false, ne_eq, reduceIte, ite_self, Nat.reduceMul, Nat.reduceDiv, Nat.reduceMod, Nat.reducePow, Nat.zero_add, Nat.add_zero, Nat.one_mul, Nat.mul_one, n_in, n_min, n_clamp, n_eq_t, n_eq_f, n_eq, n_le_t, n_le_f, n_le, n_lt_t, n_lt_f, n_lt, n_sub0, n_sublt, n_suble, n_negsub, m_up_hit, m_up_miss, m_row_hit, m_row_miss, n_eqm, n_meq, n_meqm, n_ltm, n_lem, n_mlt, n_mle, n_sub, n_div, n_and1, n_shl, n_shr, n_inc, n_mul, n_rem, z_lt, z_le, z_nlt, z_nle, Nat.not_lt_zero, Nat.le_zero_eq, Nat.zero_le, if_true, if_false, l1, h121, Nat.zero_add]
      apply ke
      intro I3 h4 o3
      have key := hQ I3 F1 h4 (Ofw_trans (Ofw_s o1) (Ofw_trans o2 (Ofw_trans (Ofw_s (Off_I (by omega) (by omega))) (Ofw_s o3))))
      simp (disch := omega) only [e42_70, e42_71, true_or, m_psh_s, m_psh_n, m_kl_i, m_kl_f, m_kl_r, m_kl_n, m_kl_j, m_kl_l, m_kl_d, c_i, c_f, c_r, c_n, List.length_nil, List.length_cons, true_and, and_true, Nat.reduceAdd, Nat.reduceLeDiff, Nat.reduceSub, Nat.reduceEqDiff, Nat.reduceLT, ge_iff_le, gt_iff_lt, n_lit, m_in, m_nar0, m_nar1, and_self, not_false_eq_true, not_true_eq_false, ne_eq, reduceIte, ite_self, Nat.reduceMul, Nat.reduceDiv, Nat.reduceMod, Nat.reducePow, Nat.zero_add, Nat.add_zero, Nat.one_mul, Nat.mul_one, n_in, n_min, n_clamp, n_eq_t, n_eq_f, n_eq, n_le_t, n_le_f, n_le, n_lt_t, n_lt_f, n_lt, n_sub0, n_sublt, n_suble, n_negsub, m_up_hit, m_up_miss, m_row_hit, m_row_miss, n_eqm, n_meq, n_meqm, n_ltm, n_lem, n_mlt, n_mle, n_sub, n_div, n_and1, n_shl, n_shr, n_inc, n_mul, n_rem, z_lt, z_le, z_nlt, z_nle, Nat.not_lt_zero, Nat.le_zero_eq, Nat.zero_le, if_true, if_false]
      exact key)
    simp (disch := omega) only [e42_17, e42_18, true_or, m_psh_s, m_psh_n, m_kl_i, m_kl_f, m_kl_r, m_kl_n, m_kl_j, m_kl_l, m_kl_d, c_i, c_f, c_r, c_n, List.length_nil, List.length_cons, true_and, and_true, Nat.reduceAdd, Nat.reduceLeDiff, Nat.reduceSub, Nat.reduceEqDiff, Nat.reduceLT, ge_iff_le, gt_iff_lt, n_lit, m_in, m_nar0, m_nar1, and_self, not_false_eq_true, not_true_eq_false, ne_eq, reduceIte, ite_self, Nat.reduceMul, Nat.reduceDiv, Nat.reduceMod, Nat.reducePow, Nat.zero_add, Nat.add_zero, Nat.one_mul, Nat.mul_one, n_in, n_min, n_clamp, n_eq_t, n_eq_f, n_eq, n_le_t, n_le_f, n_le, n_lt_t, n_lt_f, n_lt, n_sub0, n_sublt, n_suble, n_negsub, m_up_hit, m_up_miss, m_row_hit, m_row_miss, n_eqm, n_meq, n_meqm, n_ltm, n_lem, n_mlt, n_mle, n_sub, n_div, n_and1, n_shl, n_shr, n_inc, n_mul, n_rem, z_lt, z_le, z_nlt, z_nle, Nat.not_lt_zero, Nat.le_zero_eq, Nat.zero_le, if_true, if_false]
    exact key
end NIGHT
