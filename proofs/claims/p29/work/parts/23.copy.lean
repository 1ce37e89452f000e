section COPY
variable {lay : mL} {d a b n : Nat} {I : mI} {F : mF} {R : mR} {Q : mP} {S : Nat → Nat} {sp : Nat → UInt32} {hi : List Nat}
theorem c_cpy {α : Type} {f g : Nat → α} {m k : Nat} (h : k < m) : va_cpy f g 0 0 m k = f k := by
  unfold va_cpy
  rw [if_pos ⟨Nat.zero_le _, by omega⟩, Nat.sub_zero, Nat.zero_add]
theorem n_nlt0 (k : Nat) (hk : k < 2147483648) : (¬ nI k < nI 0) ↔ True := by
  rw [n_lt hk (by omega)]
  exact iff_true_intro (by omega)
def q_dcp (I : mI) (p q : Nat) : mI := m_up (m_row (m_row I (p + 1) (va_cpy (I (q + 1)) (I (p + 1)) 0 0 12)) (p + 2) (va_cpy (I (q + 2)) (I (p + 2)) 0 0 12)) p 2 (I q 2)
theorem s_dayCopy {p q : Nat} (hd : 1 ≤ d) (hpq : p + 2 < q ∨ q + 2 < p) (hp : lay p = (5, 0)) (hq : lay q = (5, 0)) (p1 : lay (p + 1) = (0, 12)) (p2 : lay (p + 2) = (0, 12)) (q1 : lay (q + 1) = (0, 12)) (q2 : lay (q + 2) = (0, 12)) (r1 : m_rv (R p 0) = .ref (p + 1)) (r2 : m_rv (R p 1) = .ref (p + 2)) (r3 : m_rv (R q 0) = .ref (q + 1)) (r4 : m_rv (R q 1) = .ref (q + 2)) :
    Ev lay d 11 0 [.ref p, .ref q] [] I F R n Q ↔ Q none (q_dcp I p q) F R n := by
  have t1 : (lay (q + 1)).1 = 0 := by rw [q1]
  have t2 : (lay (q + 2)).1 = 0 := by rw [q2]
  simp (disch := omega) only [e11_0, e11_0N, e11_1, e11_4, e11_5, e11_5N, e11_6, e11_9, e11_10, e11_12, e11_12F, e11_15, e11_15N, e11_16, e11_19, e11_20, e11_20N, e11_21, e11_24, e11_25, e11_27, e11_27F, e11_30, e11_30N, e11_31, e11_31N, e11_32, e11_35, e11_38, true_or, m_psh_s, m_psh_n, m_kl_i, m_kl_f, m_kl_r, m_kl_n, m_kl_j, m_kl_l, m_kl_d, c_i, c_f, c_r, c_n, List.length_nil, List.length_cons, true_and, and_true, Nat.reduceAdd, Nat.reduceLeDiff, Nat.reduceSub, Nat.reduceEqDiff, Nat.reduceLT, ge_iff_le, gt_iff_lt, n_lit, m_in, m_nar0, m_nar1, and_self, not_false_eq_true, not_true_eq_false, ne_eq, reduceIte, ite_self, Nat.reduceMul, Nat.reduceDiv, Nat.reduceMod, Nat.reducePow, Nat.zero_add, Nat.add_zero, Nat.one_mul, Nat.mul_one, n_in, n_min, n_clamp, n_eq_t, n_eq_f, n_eq, n_le_t, n_le_f, n_le, n_lt_t, n_lt_f, n_lt, n_sub0, n_sublt, n_suble, n_negsub, m_up_hit, m_up_miss, m_row_hit, m_row_miss, n_eqm, n_meq, n_meqm, n_ltm, n_lem, n_mlt, n_mle, n_sub, n_div, n_and1, n_shl, n_shr, n_inc, n_mul, n_rem, z_lt, z_le, z_nlt, z_nle, Nat.not_lt_zero, Nat.le_zero_eq, Nat.zero_le, if_true, if_false, hp, hq, p1, p2, q1, q2, r1, r2, r3, r4, m_row_off]
  exact Iff.rfl
theorem q_dcp_off {p q x : Nat} (h : x < p ∨ p + 2 < x) : q_dcp I p q x = I x := by
  unfold q_dcp
  rw [m_up_off (by omega), m_row_off (by omega), m_row_off (by omega)]
theorem q_dcp_1 {p q k : Nat} (h : k < 12) : q_dcp I p q (p + 1) k = I (q + 1) k := by
  unfold q_dcp
  rw [m_up_off (by omega), m_row_off (by omega), m_row_at, c_cpy h]
theorem q_dcp_2 {p q k : Nat} (h : k < 12) : q_dcp I p q (p + 2) k = I (q + 2) k := by
  unfold q_dcp
  rw [m_up_off (by omega), m_row_at, c_cpy h]
theorem q_dcp_0 {p q : Nat} : q_dcp I p q p 2 = I q 2 := m_up_at
theorem q_dcp_h1 {p q y k : Nat} (hy : y = p + 1) (h : k < 12) : q_dcp I p q y k = I (q + 1) k := by subst hy; exact q_dcp_1 h
theorem q_dcp_h2 {p q y k : Nat} (hy : y = p + 2) (h : k < 12) : q_dcp I p q y k = I (q + 2) k := by subst hy; exact q_dcp_2 h
theorem q_dcp_h0 {p q y k : Nat} (hy : y = p) (h : k = 2) : q_dcp I p q y k = I q k := by subst hy; subst h; exact q_dcp_0
def q_cpI (I : mI) (a b : Nat) : mI := q_dcp (q_dcp (m_row (m_row (m_row (m_row (m_row (m_row I (a + 1) (va_cpy (I (b + 1)) (I (a + 1)) 0 0 3)) (a + 2) (va_cpy (I (b + 2)) (I (a + 2)) 0 0 16)) (a + 3) (va_cpy (I (b + 3)) (I (a + 3)) 0 0 30)) (a + 5) (va_cpy (I (b + 5)) (I (a + 5)) 0 0 16)) (a + 6) (va_cpy (I (b + 6)) (I (a + 6)) 0 0 16)) (a + 7) (va_cpy (I (b + 7)) (I (a + 7)) 0 0 16)) (a + 8) (b + 8)) (a + 11) (b + 11)
theorem q_cpI_f (hab : a + 13 < b ∨ b + 13 < a) : (∀ x k i, cS x k i → x ≠ 0 → q_cpI I a b (a + x) k = I (b + x) k) ∧ (∀ k, k < 30 → q_cpI I a b (a + 3) k = I (b + 3) k) ∧ (∀ x, x < a ∨ a + 13 < x → q_cpI I a b x = I x) := by
  refine ⟨fun x k i hx hx0 => ?_, fun k hk => ?_, fun x hx => ?_⟩
  · rcases hx with ⟨h1, h2, _⟩ | ⟨h1, h2, _⟩ | ⟨h1, h2, _⟩ | ⟨h1, h2, _⟩ | ⟨h1, h2, _⟩ | ⟨h1, h2, _⟩ | ⟨h1, h2, _⟩ | ⟨h1, h2, _⟩ | ⟨h1, h2, _⟩ | ⟨h1, h2, _⟩ | ⟨h1, h2, _⟩ | ⟨h1, h2, _⟩ | ⟨h1, h2, _⟩ | ⟨h1, h2, _⟩ | ⟨h1, h2, _⟩ | ⟨h1, h2, _⟩ <;> first
      | exact absurd h1 hx0
      | (subst h1; clear hx0; unfold q_cpI; simp (disch := omega) only [q_dcp_off, m_row_off, m_row_at, c_cpy, q_dcp_h0, q_dcp_h1, q_dcp_h2, Nat.add_assoc, Nat.reduceAdd])
  · unfold q_cpI
    simp (disch := omega) only [q_dcp_off, m_row_off, m_row_at, c_cpy]
  · unfold q_cpI
    simp (disch := omega) only [q_dcp_off, m_row_off]
theorem s_copyFrom (h : CSh lay I F R n b S sp hi) (hl : ISh lay R a) (hab : a + 13 < b ∨ b + 13 < a) (ha : a + 13 < 180) (hbx : b + 13 < 180) (hd : 2 ≤ d) (hQ : ∀ I' F' R', CSh lay I' F' R' n a S sp hi → Off a (a + 13) I F R I' F' R' → Q none I' F' R' n) : Ev lay d 10 0 [.ref a, .ref b] [] I F R n Q := by
  have hl' := hl
  obtain ⟨hs0, hs1, hs2, hs3, hs4, hs5, hs6, hs7, hs8, hs9, hs10, hs11, hs12, hs13, hs14, hs15, hs16, hs17, hs18, hs19, hs20, hs21, hs22, hs23, hs24, hs25, hs26⟩ := hl
  obtain ⟨hb0, hb1, hb2, hb3, hb4, hb5, hb6, hb7, hb8, hb9, hb10, hb11, hb12, hb13, hb14, hb15, hb16, hb17, hb18, hb19, hb20, hb21, hb22, hb23, hb24, hb25, hb26⟩ := h.1
  have t1 : (lay (b + 1)).1 = 0 := by rw [hb1]
  have t2 : (lay (b + 2)).1 = 0 := by rw [hb2]
  have t3 : (lay (b + 3)).1 = 0 := by rw [hb3]
  have t4 : (lay (b + 4)).1 = 1 := by rw [hb4]
  have t5 : (lay (b + 5)).1 = 0 := by rw [hb5]
  have t6 : (lay (b + 6)).1 = 0 := by rw [hb6]
  have t7 : (lay (b + 7)).1 = 0 := by rw [hb7]
  have key1 : ∀ (I : mI) (F : mF) (d : Nat) (Q : mP), 1 ≤ d → (Ev lay d 11 0 [.ref (a + 8), .ref (b + 8)] [] I F R n Q ↔ Q none (q_dcp I (a + 8) (b + 8)) F R n) := fun I F d Q hd => s_dayCopy hd (by omega) hs8 hb8 hs9 hs10 hb9 hb10 hs23 hs24 hb23 hb24
  have key2 : ∀ (I : mI) (F : mF) (d : Nat) (Q : mP), 1 ≤ d → (Ev lay d 11 0 [.ref (a + 11), .ref (b + 11)] [] I F R n Q ↔ Q none (q_dcp I (a + 11) (b + 11)) F R n) := fun I F d Q hd => s_dayCopy hd (by omega) hs11 hb11 hs12 hs13 hb12 hb13 hs25 hs26 hb25 hb26
  simp (disch := omega) only [e10_0, e10_0N, e10_1, e10_4, e10_5, e10_5N, e10_6, e10_9, e10_10, e10_11, e10_11F, e10_14, e10_14N, e10_15, e10_18, e10_19, e10_19N, e10_20, e10_23, e10_24, e10_26, e10_26F, e10_29, e10_29N, e10_30, e10_33, e10_34, e10_34N, e10_35, e10_38, e10_39, e10_41, e10_41F, e10_44, e10_44N, e10_45, e10_48, e10_49, e10_49N, e10_50, e10_53, e10_54, e10_56, e10_56F, e10_59, e10_59N, e10_60, e10_63, e10_64, e10_64N, e10_65, e10_68, e10_69, e10_71, e10_71F, e10_74, e10_74N, e10_75, e10_78, e10_79, e10_79N, e10_80, e10_83, e10_84, e10_86, e10_86F, e10_89, e10_89N, e10_90, e10_93, e10_94, e10_94N, e10_95, e10_98, e10_99, e10_101, e10_101F, e10_104, e10_104N, e10_105, e10_108, e10_108N, e10_109, e10_112, e10_115, e10_115N, e10_116, e10_119, e10_119N, e10_120, e10_123, e10_126, e10_126N, e10_127, e10_127N, e10_128, true_or, m_psh_s, m_psh_n, m_kl_i, m_kl_f, m_kl_r, m_kl_n, m_kl_j, m_kl_l, m_kl_d, c_i, c_f, c_r, c_n, List.length_nil, List.length_cons, true_and, and_true, Nat.reduceAdd, Nat.reduceLeDiff, Nat.reduceSub, Nat.reduceEqDiff, Nat.reduceLT, ge_iff_le, gt_iff_lt, n_lit, m_in, m_nar0, m_nar1, and_self, not_false_eq_true, not_true_eq_false, ne_eq, reduceIte, ite_self, Nat.reduceMul, Nat.reduceDiv, Nat.reduceMod, Nat.reducePow, Nat.zero_add, Nat.add_zero, Nat.one_mul, Nat.mul_one, n_in, n_min, n_clamp, n_eq_t, n_eq_f, n_eq, n_le_t, n_le_f, n_le, n_lt_t, n_lt_f, n_lt, n_sub0, n_sublt, n_suble, n_negsub, m_up_hit, m_up_miss, m_row_hit, m_row_miss, n_eqm, n_meq, n_meqm, n_ltm, n_lem, n_mlt, n_mle, n_sub, n_div, n_and1, n_shl, n_shr, n_inc, n_mul, n_rem, z_lt, z_le, z_nlt, z_nle, Nat.not_lt_zero, Nat.le_zero_eq, Nat.zero_le, if_true, if_false, hs0, hs1, hs2, hs3, hs4, hs5, hs6, hs7, hs8, hs9, hs10, hs11, hs12, hs13, hs14, hs15, hs16, hs17, hs18, hs19, hs20, hs21, hs22, hs23, hs24, hs25, hs26, hb0, hb1, hb2, hb3, hb4, hb5, hb6, hb7, hb8, hb9, hb10, hb11, hb12, hb13, hb14, hb15, hb16, hb17, hb18, hb19, hb20, hb21, hb22, hb23, hb24, hb25, hb26, key1, key2, m_row_off]
  have fin : ∀ (v : Nat) (I0 : mI) (R0 : mR), R0 = m_up R a 9 v → v = R b 9 → (∀ x k i, cS x k i → x ≠ 0 → I0 (a + x) k = I (b + x) k) → (∀ k, k < 30 → I0 (a + 3) k = I (b + 3) k) → (∀ x, x < a ∨ a + 13 < x → I0 x = I x) → ∀ F0 : mF, F0 = m_row F (a + 4) (va_cpy (F (b + 4)) (F (a + 4)) 0 0 16) → Q none (m_up (m_up (m_up (m_up (m_up (m_up I0 a 10 (I b 10)) a 11 (I b 11)) a 12 (I b 12)) a 13 (I b 13)) a 14 (I b 14)) a 15 (I b 15)) F0 R0 n := by
    intro v I0 R0 hR0 hv f1 f2 f3 F0 hF0
    subst hR0 hv hF0
    refine hQ _ _ _ ⟨ISh_off hl' fun x k h1 h2 h3 => m_up_miss (by omega), ?_, ?_, ?_, ?_, ?_⟩ ?_
    · intro x k i hx
      rw [← h.2.1 x k i hx]
      by_cases hx0 : x = 0
      · subst hx0
        rw [Nat.add_zero, Nat.add_zero]
        have hk : k = 11 ∨ k = 12 ∨ k = 13 ∨ k = 14 ∨ k = 15 := by unfold cS at hx; omega
        rcases hk with rfl | rfl | rfl | rfl | rfl <;> simp (disch := omega) only [m_up_miss, m_up_at]
      · simp (disch := omega) only [m_up_miss]
        exact f1 x k i hx hx0
    · intro s hs
      simp (disch := omega) only [m_up_miss]
      rw [f2 s hs, h.2.2.1 s hs]
    · intro g hg
      rw [m_row_at, c_cpy hg]
      exact h.2.2.2.1 g hg
    · rw [m_up_at]
      refine Cch_off h.2.2.2.2.1 (Nat.le_refl _) fun p hp hp2 => ⟨?_, m_up_off (by omega)⟩
      simp (disch := omega) only [m_up_off]
      exact f3 p (by omega)
    · simp (disch := omega) only [m_up_miss, m_up_at]
      exact h.2.2.2.2.2
    · intro x hx
      refine ⟨?_, m_row_off (by omega), m_up_off (by omega)⟩
      simp (disch := omega) only [m_up_off]
      exact f3 x hx
  rcases Nat.eq_zero_or_pos (R b 9) with r9 | r9
  · have r9' : m_rv (R b 9) = .null := by rw [r9]; rfl
    simp (disch := omega) only [e10_131, e10_131N, e10_134, e10_134N, e10_135, e10_135N, e10_136, e10_139, e10_142, e10_142N, e10_143, e10_143N, e10_144, e10_147, e10_150, e10_150N, e10_151, e10_151N, e10_152, e10_155, e10_158, e10_158N, e10_159, e10_159N, e10_160, e10_163, e10_166, e10_166N, e10_167, e10_167N, e10_168, e10_171, e10_174, e10_174N, e10_175, e10_175N, e10_176, e10_179, e10_182, true_or, m_psh_s, m_psh_n, m_kl_i, m_kl_f, m_kl_r, m_kl_n, m_kl_j, m_kl_l, m_kl_d, c_i, c_f, c_r, c_n, List.length_nil, List.length_cons, true_and, and_true, Nat.reduceAdd, Nat.reduceLeDiff, Nat.reduceSub, Nat.reduceEqDiff, Nat.reduceLT, ge_iff_le, gt_iff_lt, n_lit, m_in, m_nar0, m_nar1, and_self, not_false_eq_true, not_true_eq_false, ne_eq, reduceIte, ite_self, Nat.reduceMul, Nat.reduceDiv, Nat.reduceMod, Nat.reducePow, Nat.zero_add, Nat.add_zero, Nat.one_mul, Nat.mul_one, n_in, n_min, n_clamp, n_eq_t, n_eq_f, n_eq, n_le_t, n_le_f, n_le, n_lt_t, n_lt_f, n_lt, n_sub0, n_sublt, n_suble, n_negsub, m_up_hit, m_up_miss, m_row_hit, m_row_miss, n_eqm, n_meq, n_meqm, n_ltm, n_lem, n_mlt, n_mle, n_sub, n_div, n_and1, n_shl, n_shr, n_inc, n_mul, n_rem, z_lt, z_le, z_nlt, z_nle, Nat.not_lt_zero, Nat.le_zero_eq, Nat.zero_le, if_true, if_false, hs0, hs1, hs2, hs3, hs4, hs5, hs6, hs7, hs8, hs9, hs10, hs11, hs12, hs13, hs14, hs15, hs16, hs17, hs18, hs19, hs20, hs21, hs22, hs23, hs24, hs25, hs26, hb0, hb1, hb2, hb3, hb4, hb5, hb6, hb7, hb8, hb9, hb10, hb11, hb12, hb13, hb14, hb15, hb16, hb17, hb18, hb19, hb20, hb21, hb22, hb23, hb24, hb25, hb26, r9', q_dcp_off, m_row_off, m_up_off]
    exact fin _ (q_cpI I a b) _ rfl r9.symm (q_cpI_f hab).1 (q_cpI_f hab).2.1 (q_cpI_f hab).2.2 _ rfl
  · have r9' := m_rv_p r9
    have r9n : R b 9 ≠ 0 := by omega
    simp (disch := omega) only [e10_131, e10_131N, e10_134, e10_134N, e10_135, e10_135N, e10_136, e10_139, e10_142, e10_142N, e10_143, e10_143N, e10_144, e10_147, e10_150, e10_150N, e10_151, e10_151N, e10_152, e10_155, e10_158, e10_158N, e10_159, e10_159N, e10_160, e10_163, e10_166, e10_166N, e10_167, e10_167N, e10_168, e10_171, e10_174, e10_174N, e10_175, e10_175N, e10_176, e10_179, e10_182, true_or, m_psh_s, m_psh_n, m_kl_i, m_kl_f, m_kl_r, m_kl_n, m_kl_j, m_kl_l, m_kl_d, c_i, c_f, c_r, c_n, List.length_nil, List.length_cons, true_and, and_true, Nat.reduceAdd, Nat.reduceLeDiff, Nat.reduceSub, Nat.reduceEqDiff, Nat.reduceLT, ge_iff_le, gt_iff_lt, n_lit, m_in, m_nar0, m_nar1, and_self, not_false_eq_true, not_true_eq_false, ne_eq, reduceIte, ite_self, Nat.reduceMul, Nat.reduceDiv, Nat.reduceMod, Nat.reducePow, Nat.zero_add, Nat.add_zero, Nat.one_mul, Nat.mul_one, n_in, n_min, n_clamp, n_eq_t, n_eq_f, n_eq, n_le_t, n_le_f, n_le, n_lt_t, n_lt_f, n_lt, n_sub0, n_sublt, n_suble, n_negsub, m_up_hit, m_up_miss, m_row_hit, m_row_miss, n_eqm, n_meq, n_meqm, n_ltm, n_lem, n_mlt, n_mle, n_sub, n_div, n_and1, n_shl, n_shr, n_inc, n_mul, n_rem, z_lt, z_le, z_nlt, z_nle, Nat.not_lt_zero, Nat.le_zero_eq, Nat.zero_le, if_true, if_false, hs0, hs1, hs2, hs3, hs4, hs5, hs6, hs7, hs8, hs9, hs10, hs11, hs12, hs13, hs14, hs15, hs16, hs17, hs18, hs19, hs20, hs21, hs22, hs23, hs24, hs25, hs26, hb0, hb1, hb2, hb3, hb4, hb5, hb6, hb7, hb8, hb9, hb10, hb11, hb12, hb13, hb14, hb15, hb16, hb17, hb18, hb19, hb20, hb21, hb22, hb23, hb24, hb25, hb26, r9', q_dcp_off, m_row_off, m_up_off]
    exact ⟨r9n, fin _ (q_cpI I a b) _ rfl rfl (q_cpI_f hab).1 (q_cpI_f hab).2.1 (q_cpI_f hab).2.2 _ rfl⟩
end COPY
