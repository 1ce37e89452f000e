section INITB
variable {lay : mL} {d a n n' : Nat} {I I' : mI} {F F' : mF} {R R' : mR} {Q : mP}
/-- a shed as it is made -/
def NSh (lay : mL) (I : mI) (F : mF) (R : mR) (a : Nat) : Prop := CSh lay I F R 180 a q_S0 (fun _ => 0) []
theorem NSh_of (h : CSh lay I F R n a q_S0 (fun _ => 0) []) : NSh lay I F R a := ⟨h.1, h.2.1, h.2.2.1, h.2.2.2.1, h.2.2.2.2.1, h.2.2.2.2.2⟩
theorem NSh_sm (h : NSh lay I F R a) (hs : ∀ x, a ≤ x → x ≤ a + 13 → I' x = I x ∧ F' x = F x ∧ R' x = R x) : NSh lay I' F' R' a := CSh_sm h (fun x hx => hs x (by omega) (by omega)) (Nat.le_refl _)
theorem i_hist0 (hl : ∀ i, i < 7 → SL lay (38 + 14 * i)) (h36 : lay 36 = (7, 0)) (h37 : lay 37 = (4, 7)) (hd : 3 ≤ d) (j : Nat) : ∀ (k : Nat) (I : mI) (F : mF) (R : mR), k + j = 7 → m_rv (R 36 0) = .ref 37 → (∀ I' F' R', (∀ i, k ≤ i → i < 7 → NSh lay I' F' R' (38 + 14 * i) ∧ R' 37 i = 38 + 14 * i) → (∀ x, x < 38 + 14 * k → x ≠ 37 → I' x = I x ∧ F' x = F x ∧ R' x = R x) → (∀ i, i < k → R' 37 i = R 37 i) → Q none I' F' R' 136) → Ev lay d 7 15 [.ref 36, .int (nI k)] [] I F R (38 + 14 * k) Q := by
  induction j with
  | zero =>
    intro k I F R hk hr hQ
    have hk2 : k = 7 := by omega
    subst hk2
    have key := hQ I F R (fun i h1 h2 => by omega) (fun _ _ _ => ⟨rfl, rfl, rfl⟩) (fun _ _ => rfl)
    rw [e7_15]
    simp (disch := omega) only [e7_16, e7_18, e7_21, e7_21N, e7_22, e7_25, e7_26, e7_29, e7_30, e7_33, e7_34, e7_37, e7_40, true_or, m_psh_s, m_psh_n, m_kl_i, m_kl_f, m_kl_r, m_kl_n, m_kl_j, m_kl_l, m_kl_d, c_i, c_f, c_r, c_n, List.length_nil, List.length_cons, true_and, and_true, Nat.reduceAdd, Nat.reduceLeDiff, Nat.reduceSub, Nat.reduceEqDiff, Nat.reduceLT, ge_iff_le, gt_iff_lt, n_lit, m_in, m_nar0, m_nar1, and_self, not_false_eq_true, not_true_eq_false, ne_eq, reduceIte, ite_self, Nat.reduceMul, Nat.reduceDiv, Nat.reduceMod, Nat.reducePow, Nat.zero_add, Nat.add_zero, Nat.one_mul, Nat.mul_one, n_in, n_min, n_clamp, n_eq_t, n_eq_f, n_eq, n_le_t, n_le_f, n_le, n_lt_t, n_lt_f, n_lt, n_sub0, n_sublt, n_suble, n_negsub, m_up_hit, m_up_miss, m_row_hit, m_row_miss, n_eqm, n_meq, n_meqm, n_ltm, n_lem, n_mlt, n_mle, n_sub, n_div, n_and1, n_shl, n_shr, n_inc, n_mul, n_rem, z_lt, z_le, z_nlt, z_nle, Nat.not_lt_zero, Nat.le_zero_eq, Nat.zero_le, if_true, if_false]
    exact key
  | succ j ih =>
    intro k I F R hk hr hQ
    have hl' := hl k (by omega)
    have l0 := hl'.1
    have ks : ∀ (Q : mP), _ → _ := fun Q hQ => i_shed (lay := lay) (d := d - 1) (a := 38 + 14 * k) (n := 38 + 14 * k + 1) (I := m_row I (38 + 14 * k) (fun _ => nI 0)) (F := F) (R := m_row R (38 + 14 * k) (fun _ => 0)) (Q := Q) rfl hl' (fun i => m_row_hit rfl) (fun i => m_row_hit rfl) (by omega) hQ
    have n0 : ¬ 38 + 14 * k = 0 := by omega
    rw [e7_15]
    simp (disch := omega) only [e7_16, e7_18, e7_21, e7_21N, e7_22, e7_25, e7_26, e7_29, e7_30, true_or, m_psh_s, m_psh_n, m_kl_i, m_kl_f, m_kl_r, m_kl_n, m_kl_j, m_kl_l, m_kl_d, c_i, c_f, c_r, c_n, List.length_nil, List.length_cons, true_and, and_true, Nat.reduceAdd, Nat.reduceLeDiff, Nat.reduceSub, Nat.reduceEqDiff, Nat.reduceLT, ge_iff_le, gt_iff_lt, n_lit, m_in, m_nar0, m_nar1, and_self, not_false_eq_true, not_true_eq_false, ne_eq, reduceIte, ite_self, Nat.reduceMul, Nat.reduceDiv, Nat.reduceMod, Nat.reducePow, Nat.zero_add, Nat.add_zero, Nat.one_mul, Nat.mul_one, n_in, n_min, n_clamp, n_eq_t, n_eq_f, n_eq, n_le_t, n_le_f, n_le, n_lt_t, n_lt_f, n_lt, n_sub0, n_sublt, n_suble, n_negsub, m_up_hit, m_up_miss, m_row_hit, m_row_miss, n_eqm, n_meq, n_meqm, n_ltm, n_lem, n_mlt, n_mle, n_sub, n_div, n_and1, n_shl, n_shr, n_inc, n_mul, n_rem, z_lt, z_le, z_nlt, z_nle, Nat.not_lt_zero, Nat.le_zero_eq, Nat.zero_le, if_true, if_false, h36, h37, hr, l0]
    apply ks
    intro I1 F1 R1 s1 o1
    have r36 : R1 36 = R 36 := by rw [(o1 36 (by omega)).2.2, m_row_off (by omega)]
    have key := ih (k + 1) I1 F1 (m_up R1 37 k (38 + 14 * k)) (by omega) (by rw [m_up_miss (by omega), r36]; exact hr) (fun I' F' R' g1 g2 g3 => hQ I' F' R' (fun i b1 b2 => by
      by_cases e : i = k
      · subst e
        refine ⟨NSh_sm (NSh_of s1) (fun x c1 c2 => ?_), by rw [g3 i (by omega), m_up_at]⟩
        obtain ⟨u1, u2, u3⟩ := g2 x (by omega) (by omega)
        exact ⟨u1, u2, u3.trans (m_up_off (by omega))⟩
      · exact g1 i (by omega) b2) (fun x hx hx2 => by
      obtain ⟨u1, u2, u3⟩ := g2 x (by omega) hx2
      obtain ⟨w1, w2, w3⟩ := o1 x hx
      refine ⟨u1.trans (w1.trans (m_row_off (by omega))), u2.trans w2, u3.trans ((m_up_off hx2).trans (w3.trans (m_row_off (by omega))))⟩) (fun i hi => by
      rw [g3 i (by omega), m_up_miss (by omega), (o1 37 (by omega)).2.2, m_row_off (by omega)]))
    rw [show 38 + 14 * (k + 1) = 38 + 14 * k + 14 by omega] at key
    simp (disch := omega) only [e7_33, e7_34, e7_37, true_or, m_psh_s, m_psh_n, m_kl_i, m_kl_f, m_kl_r, m_kl_n, m_kl_j, m_kl_l, m_kl_d, c_i, c_f, c_r, c_n, List.length_nil, List.length_cons, true_and, and_true, Nat.reduceAdd, Nat.reduceLeDiff, Nat.reduceSub, Nat.reduceEqDiff, Nat.reduceLT, ge_iff_le, gt_iff_lt, n_lit, m_in, m_nar0, m_nar1, and_self, not_false_eq_true, not_true_eq_false, ne_eq, reduceIte, ite_self, Nat.reduceMul, Nat.reduceDiv, Nat.reduceMod, Nat.reducePow, Nat.zero_add, Nat.add_zero, Nat.one_mul, Nat.mul_one, n_in, n_min, n_clamp, n_eq_t, n_eq_f, n_eq, n_le_t, n_le_f, n_le, n_lt_t, n_lt_f, n_lt, n_sub0, n_sublt, n_suble, n_negsub, m_up_hit, m_up_miss, m_row_hit, m_row_miss, n_eqm, n_meq, n_meqm, n_ltm, n_lem, n_mlt, n_mle, n_sub, n_div, n_and1, n_shl, n_shr, n_inc, n_mul, n_rem, z_lt, z_le, z_nlt, z_nle, Nat.not_lt_zero, Nat.le_zero_eq, Nat.zero_le, if_true, if_false, h37, l0]
    exact ⟨n0, key⟩
theorem i_hist (hl : ∀ i, i < 7 → SL lay (38 + 14 * i)) (h36 : lay 36 = (7, 0)) (h37 : lay 37 = (4, 7)) (hI : ∀ k, I 36 k = nI 0) (hd : 3 ≤ d) (hQ : ∀ I' F' R', (∀ i, i < 7 → NSh lay I' F' R' (38 + 14 * i) ∧ R' 37 i = 38 + 14 * i) → R' 36 0 = 37 → I' 36 = I 36 → (∀ x, x < 36 → I' x = I x ∧ F' x = F x ∧ R' x = R x) → Q none I' F' R' 136) : Ev lay d 7 0 [.ref 36, m_j] [] I F R 37 Q := by
  have key := i_hist0 (lay := lay) (d := d) (Q := Q) hl h36 h37 hd 7 0 I F (m_up (m_row R 37 (fun _ => 0)) 36 0 37) rfl (by rw [m_up_at]; rfl) (fun I' F' R' g1 g2 g3 => hQ I' F' R' (fun i hi => g1 i (by omega) hi) (by rw [(g2 36 (by omega) (by omega)).2.2, m_up_at]) (g2 36 (by omega) (by omega)).1 (fun x hx => by
    obtain ⟨u1, u2, u3⟩ := g2 x (by omega) (by omega)
    exact ⟨u1, u2, u3.trans (by rw [m_up_off (by omega), m_row_off (by omega)])⟩))
  simp (disch := omega) only [e7_0, e7_0N, e7_1, e7_4, e7_4N, e7_5, e7_7, e7_10, e7_10N, e7_13, e7_14, true_or, m_psh_s, m_psh_n, m_kl_i, m_kl_f, m_kl_r, m_kl_n, m_kl_j, m_kl_l, m_kl_d, c_i, c_f, c_r, c_n, List.length_nil, List.length_cons, true_and, and_true, Nat.reduceAdd, Nat.reduceLeDiff, Nat.reduceSub, Nat.reduceEqDiff, Nat.reduceLT, ge_iff_le, gt_iff_lt, n_lit, m_in, m_nar0, m_nar1, and_self, not_false_eq_true, not_true_eq_false, ne_eq, reduceIte, ite_self, Nat.reduceMul, Nat.reduceDiv, Nat.reduceMod, Nat.reducePow, Nat.zero_add, Nat.add_zero, Nat.one_mul, Nat.mul_one, n_in, n_min, n_clamp, n_eq_t, n_eq_f, n_eq, n_le_t, n_le_f, n_le, n_lt_t, n_lt_f, n_lt, n_sub0, n_sublt, n_suble, n_negsub, m_up_hit, m_up_miss, m_row_hit, m_row_miss, n_eqm, n_meq, n_meqm, n_ltm, n_lem, n_mlt, n_mle, n_sub, n_div, n_and1, n_shl, n_shr, n_inc, n_mul, n_rem, z_lt, z_le, z_nlt, z_nle, Nat.not_lt_zero, Nat.le_zero_eq, Nat.zero_le, if_true, if_false, h36, h37]
  exact key
end INITB
