section MODELG
variable {lay : mL} {d a n n' : Nat} {I I' : mI} {F F' : mF} {R R' : mR} {Q : mP} {S : Nat → Nat} {sp : Nat → UInt32} {hi : List Nat}
theorem MS_o {r k : Nat} {v : Int32} (h : MS I F S sp) (hr : r ≠ 167) : MS (m_up I r k v) F S sp := MS_off h (m_up_off (by omega)) rfl
theorem MS_123 {v : Int32} (h : MS I F S sp) : MS (m_up I 167 123 v) F S sp := ⟨fun k hk => by rw [m_up_miss (by omega)]; exact h.1 k hk, h.2⟩
theorem MS_T {T : Nat → Nat} (h : MS I F S sp) (e : S = T) : MS I F T sp := e ▸ h
theorem Op2_refl {pm : Nat} : Op2 pm I F R I := ⟨fun x _ _ _ _ _ => rfl, fun k _ => rfl, fun k _ => ⟨rfl, rfl⟩⟩
theorem pk_row {b len u : Nat} : up1 (up1 (up1 (up1 (up1 S 122 u) (71 + 2 * S 69) b) (72 + 2 * S 69) len) 69 (S 69 + 1)) 120 (S 120 + len) = up1 (up1 (q_day S b len) 120 (S 120 + len)) 122 u ∨ 12 ≤ S 69 := by
  by_cases c : 12 ≤ S 69
  · exact Or.inr c
  · refine Or.inl (funext fun i => ?_)
    unfold q_day up1
    by_cases e1 : i = 122
    · subst e1
      rw [if_neg (by omega), if_neg (by omega), if_neg (by omega), if_neg (by omega), if_pos rfl, if_pos rfl]
    · rw [if_neg e1]
      by_cases e2 : i = 120
      · rw [if_pos e2, if_neg e1]
      · rw [if_neg e2, if_neg e1]
theorem r_picksOne {x : Int32} {pm : Nat} (hl : ML lay R) (h : MS I F S sp) (hM : Mch I pm (I 167 123) hi) (hpm : I 166 14 = nI pm) (hp2 : pm < 2048) (w : Wsh S) (hc9 : S 2 ≤ 9) (hm : S 69 ≤ 12) (hhi : ∀ x, x ∈ hi → x < 65536) (hU : S 122 = q_unl hi) (hlh : hi.length < 2147483648) (hd : 4 ≤ d)
    (hQ : ∀ I' pm', pm ≤ pm' → pm' ≤ pm + 1 → (q_pick S hi x).2.2.length + pm = hi.length + pm' → MS I' F (q_pick S hi x).2.1 sp → Mch I' pm' (I' 167 123) (q_pick S hi x).2.2 → I' 166 14 = nI pm' → Op2 pm I F R I' → Q (some (.int (q_pick S hi x).1)) I' F R n) : Ev lay d 117 0 [.ref 166, .int x, m_j, m_j, m_j] [] I F R n Q := by
  have hl' := hl
  have w1 := w.1
  have m0 := hl.1
  have ke : ∀ (Q : mP), _ := fun Q => r_errorOf (d := d - 1) (n := n) (Q := Q) (x := x) hl' h w1 (by omega)
  have p69 := h.1 69 (by omega)
  unfold q_pick at hQ
  by_cases c : q_err S x = nI 0
  · obtain ⟨b1, b2, b3⟩ := q_err_ok w1 c
    rw [if_pos c] at hQ
    rw [c] at ke
    by_cases c2 : 12 ≤ S 69
    · rw [if_pos c2] at hQ
      have key := hQ I pm (Nat.le_refl _) (by omega) rfl h hM hpm Op2_refl
      have c3 : S 69 = 12 := by omega
      rw [c3] at p69
      obtain ⟨hm0, hm1, hm2, hm3, hm4, hm5, hm6, hm7, hm8, hm9, hm10, hm11, hm12, hm13, hm14, hm15, hm16, hm17, hm18, hm19, hm20, hm21, hm22, hm23, hm24, hm25, hm26⟩ := hl
      simp (disch := omega) only [e117_0, e117_0N, e117_1, e117_2, e117_5, e117_6, e117_7, e117_10, e117_10N, e117_11, e117_14, e117_16, e117_17, e117_19, e117_22, e117_23, e117_26, e117_27, e117_30, e117_32, true_or, m_psh_s, m_psh_n, m_kl_i, m_kl_f, m_kl_r, m_kl_n, m_kl_j, m_kl_l, m_kl_d, c_i, c_f, c_r, c_n, List.length_nil, List.length_cons, true_and, and_true, Nat.reduceAdd, Nat.reduceLeDiff, Nat.reduceSub, Nat.reduceEqDiff, Nat.reduceLT, ge_iff_le, gt_iff_lt, n_lit, m_in, m_nar0, m_nar1, and_self, not_false_eq_true, not_true_eq_false, ne_eq, reduceIte, ite_self, Nat.reduceMul, Nat.reduceDiv, Nat.reduceMod, Nat.reducePow, Nat.zero_add, Nat.add_zero, Nat.one_mul, Nat.mul_one, n_in, n_min, n_clamp, n_eq_t, n_eq_f, n_eq, n_le_t, n_le_f, n_le, n_lt_t, n_lt_f, n_lt, n_sub0, n_sublt, n_suble, n_negsub, m_up_hit, m_up_miss, m_row_hit, m_row_miss, n_eqm, n_meq, n_meqm, n_ltm, n_lem, n_mlt, n_mle, n_sub, n_div, n_and1, n_shl, n_shr, n_inc, n_mul, n_rem, z_lt, z_le, z_nlt, z_nle, Nat.not_lt_zero, Nat.le_zero_eq, Nat.zero_le, if_true, if_false, hm0, hm1, hm2, hm3, hm4, hm5, hm6, hm7, hm8, hm9, hm10, hm11, hm12, hm13, hm14, hm15, hm16, hm17, hm18, hm19, hm20, hm21, hm22, hm23, hm24, hm25, hm26, ke, p69]
      exact key
    · rw [if_neg c2] at hQ
      generalize q_N x = b at *
      subst b2
      have bb := b1.1
      have hb0 : b ≠ 0 := fun e => by rw [e] at b3; exact absurd b3 (by decide)
      have kw : ∀ (Q : mP), _ := fun Q => r_walkOf (d := d - 1) (n := n) (Q := Q) hl' h w hc9 (by omega) b1 hb0
      have ko : ∀ (d : Nat) (Q : mP), _ := fun d Q => r_oftenOf (d := d) (F := F) (n := n) (Q := Q) hl' bb hhi (Nat.le_of_lt hp2) hM
      have p122 := h.1 122 (by omega)
      have p120 := h.1 120 (by omega)
      have e72 : 71 + 2 * S 69 + 1 = 72 + 2 * S 69 := by omega
      have hcl := q_cnt_le b hi
      have go : ∀ I1, MS I1 F (up1 (up1 (up1 (up1 (up1 S 122 (S 122 + (if q_cnt b hi = 0 then 1 else 0))) (71 + 2 * S 69) b) (72 + 2 * S 69) (q_len S b)) 69 (S 69 + 1)) 120 (S 120 + q_len S b)) sp → I1 167 123 = nI pm → I1 166 14 = nI (pm + 1) → I1 176 pm = nI b → I1 177 pm = I 167 123 → Op2 pm I F R I1 → ∀ v2, Ev lay d 117 172 [.ref 166, .int (nI b), .int v2, .int (nI (q_len S b)), .int (nI 0)] [] I1 F R n Q := by
        intro I1 h1 a1 a2 a3 a4 a5 v2
        have hu : S 122 + (if q_cnt b hi = 0 then 1 else 0) = q_unl (b :: hi) := by rw [hU]; rfl
        rw [hu] at h1
        have h2 := MS_T h1 (pk_row.resolve_right c2)
        have t3 : up1 (up1 (q_day S b (q_len S b)) 120 (S 120 + q_len S b)) 122 (q_unl (b :: hi)) 3 = S 3 := by
          rw [up1_miss (by omega), up1_miss (by omega), q_day_k (by omega) (by omega) (by omega)]
        have q0 : q_bits (up1 (up1 (q_day S b (q_len S b)) 120 (S 120 + q_len S b)) 122 (q_unl (b :: hi))) b 0 = up1 (up1 (q_day S b (q_len S b)) 120 (S 120 + q_len S b)) 122 (q_unl (b :: hi)) := by
          funext i
          exact if_neg (by omega)
        refine r_bits0 (T := up1 (up1 (q_day S b (q_len S b)) 120 (S 120 + q_len S b)) 122 (q_unl (b :: hi))) hl' bb (by omega) (by rw [t3]; exact w1) (S 3) 0 I1 (by rw [t3, Nat.zero_add]) (by rw [q0]; exact h2) fun I2 h3 o3 => ?_
        rw [t3] at h3
        have o166 := (o3.1 166 (by omega)).1
        have o176 := (o3.1 176 (by omega)).1
        have o177 := (o3.1 177 (by omega)).1
        refine hQ I2 (pm + 1) (by omega) (by omega) (by dsimp only; rw [List.length_cons]; omega) h3 ?_ (by rw [o166, a2]) ⟨fun x k1 k2 k0 k3 k4 => by
          rw [(o3.1 x (by omega)).1]; exact a5.1 x k1 k2 k0 k3 k4, fun k hk => by rw [o166]; exact a5.2.1 k hk, fun k hk => by rw [o176, o177]; exact a5.2.2 k hk⟩
        rw [o3.2, a1]
        refine ⟨pm, rfl, by omega, by rw [o176, a3], ?_⟩
        rw [o177, a4]
        exact Mch_off hM (by omega) fun k hk => by rw [o176, o177]; exact a5.2.2 k hk
      have fr : ∀ (v1 : Int32), Op2 pm I F R (m_up (m_up (m_up (m_up (m_up (m_up (m_up (m_up (m_up I 167 122 v1) 176 pm (nI b)) 177 pm (I 167 123)) 167 123 (nI pm)) 166 14 (nI (pm + 1))) 167 (71 + 2 * S 69) (nI b)) 167 (72 + 2 * S 69) (nI (q_len S b))) 167 69 (nI (S 69 + 1))) 167 120 (nI (S 120 + q_len S b))) := fun v1 => ⟨fun x k1 k2 k0 k3 k4 => by simp (disch := omega) only [m_up_off], fun k hk => by simp (disch := omega) only [m_up_miss], fun k hk => ⟨by simp (disch := omega) only [m_up_miss], by simp (disch := omega) only [m_up_miss]⟩⟩
      by_cases c4 : q_cnt b hi = 0
      · rw [if_pos c4] at go
        rw [c4] at ko
        obtain ⟨hm0, hm1, hm2, hm3, hm4, hm5, hm6, hm7, hm8, hm9, hm10, hm11, hm12, hm13, hm14, hm15, hm16, hm17, hm18, hm19, hm20, hm21, hm22, hm23, hm24, hm25, hm26⟩ := hl
        simp (disch := omega) only [e117_0, e117_0N, e117_1, e117_2, e117_5, e117_6, e117_7, e117_10, e117_10N, e117_11, e117_14, e117_16, e117_17, e117_19, e117_22, e117_23, e117_26, e117_27, e117_30, e117_32, e117_33, e117_33N, e117_34, e117_35, e117_38, e117_39, e117_39N, e117_40, e117_43, e117_45, e117_46, e117_47, e117_47N, e117_48, e117_49, e117_52, e117_55, e117_56, e117_59, e117_60, e117_61, e117_62, e117_62N, e117_63, e117_66, e117_66N, e117_67, e117_70, e117_71, e117_72, e117_72N, e117_73, e117_76, e117_76N, e117_77, e117_80, e117_80N, e117_81, e117_84, e117_86, e117_87, e117_88, e117_88N, e117_89, e117_92, e117_94, e117_94N, e117_95, e117_98, e117_99, e117_99N, e117_100, e117_101, e117_104, e117_105, e117_106, e117_109, e117_109N, e117_110, e117_113, e117_115, e117_116, e117_116N, e117_117, e117_120, e117_122, e117_123, e117_124, e117_125, e117_126, e117_127, e117_127N, e117_128, e117_131, e117_133, e117_134, e117_134N, e117_135, e117_138, e117_140, e117_141, e117_142, e117_143, e117_144, e117_145, e117_146, e117_147, e117_147N, e117_148, e117_151, e117_153, e117_154, e117_155, e117_156, e117_157, e117_158, e117_158N, e117_159, e117_162, e117_164, e117_165, e117_166, e117_167, e117_168, e117_169, e117_170, true_or, m_psh_s, m_psh_n, m_kl_i, m_kl_f, m_kl_r, m_kl_n, m_kl_j, m_kl_l, m_kl_d, c_i, c_f, c_r, c_n, List.length_nil, List.length_cons, true_and, and_true, Nat.reduceAdd, Nat.reduceLeDiff, Nat.reduceSub, Nat.reduceEqDiff, Nat.reduceLT, ge_iff_le, gt_iff_lt, n_lit, m_in, m_nar0, m_nar1, and_self, not_false_eq_true, not_true_eq_false, ne_eq, reduceIte, ite_self, Nat.reduceMul, Nat.reduceDiv, Nat.reduceMod, Nat.reducePow, Nat.zero_add, Nat.add_zero, Nat.one_mul, Nat.mul_one, n_in, n_min, n_clamp, n_eq_t, n_eq_f, n_eq, n_le_t, n_le_f, n_le, n_lt_t, n_lt_f, n_lt, n_sub0, n_sublt, n_suble, n_negsub, m_up_hit, m_up_miss, m_row_hit, m_row_miss, n_eqm, n_meq, n_meqm, n_ltm, n_lem, n_mlt, n_mle, n_sub, n_div, n_and1, n_shl, n_shr, n_inc, n_mul, n_rem, z_lt, z_le, z_nlt, z_nle, Nat.not_lt_zero, Nat.le_zero_eq, Nat.zero_le, if_true, if_false, hm0, hm1, hm2, hm3, hm4, hm5, hm6, hm7, hm8, hm9, hm10, hm11, hm12, hm13, hm14, hm15, hm16, hm17, hm18, hm19, hm20, hm21, hm22, hm23, hm24, hm25, hm26, ke, p69, kw, ko, p122, p120, hpm, e72]
        exact go _ (MS_up (MS_up (MS_up (MS_up (MS_o (MS_123 (MS_o (MS_o (MS_up h) (by omega)) (by omega))) (by omega)))))) (by simp (disch := omega) only [m_up_miss, m_up_hit]) (by simp (disch := omega) only [m_up_miss, m_up_hit]) (by simp (disch := omega) only [m_up_miss, m_up_hit]) (by simp (disch := omega) only [m_up_miss, m_up_hit]) (fr _) _
      · rw [if_neg c4, Nat.add_zero] at go
        obtain ⟨hm0, hm1, hm2, hm3, hm4, hm5, hm6, hm7, hm8, hm9, hm10, hm11, hm12, hm13, hm14, hm15, hm16, hm17, hm18, hm19, hm20, hm21, hm22, hm23, hm24, hm25, hm26⟩ := hl
        simp (disch := omega) only [e117_0, e117_0N, e117_1, e117_2, e117_5, e117_6, e117_7, e117_10, e117_10N, e117_11, e117_14, e117_16, e117_17, e117_19, e117_22, e117_23, e117_26, e117_27, e117_30, e117_32, e117_33, e117_33N, e117_34, e117_35, e117_38, e117_39, e117_39N, e117_40, e117_43, e117_45, e117_46, e117_47, e117_47N, e117_48, e117_49, e117_52, e117_55, e117_56, e117_59, e117_60, e117_61, e117_62, e117_62N, e117_63, e117_66, e117_66N, e117_67, e117_70, e117_71, e117_72, e117_72N, e117_73, e117_76, e117_76N, e117_77, e117_80, e117_80N, e117_81, e117_84, e117_86, e117_87, e117_88, e117_88N, e117_89, e117_92, e117_94, e117_94N, e117_95, e117_98, e117_99, e117_99N, e117_100, e117_101, e117_104, e117_105, e117_106, e117_109, e117_109N, e117_110, e117_113, e117_115, e117_116, e117_116N, e117_117, e117_120, e117_122, e117_123, e117_124, e117_125, e117_126, e117_127, e117_127N, e117_128, e117_131, e117_133, e117_134, e117_134N, e117_135, e117_138, e117_140, e117_141, e117_142, e117_143, e117_144, e117_145, e117_146, e117_147, e117_147N, e117_148, e117_151, e117_153, e117_154, e117_155, e117_156, e117_157, e117_158, e117_158N, e117_159, e117_162, e117_164, e117_165, e117_166, e117_167, e117_168, e117_169, e117_170, true_or, m_psh_s, m_psh_n, m_kl_i, m_kl_f, m_kl_r, m_kl_n, m_kl_j, m_kl_l, m_kl_d, c_i, c_f, c_r, c_n, List.length_nil, List.length_cons, true_and, and_true, Nat.reduceAdd, Nat.reduceLeDiff, Nat.reduceSub, Nat.reduceEqDiff, Nat.reduceLT, ge_iff_le, gt_iff_lt, n_lit, m_in, m_nar0, m_nar1, and_self, not_false_eq_true, not_true_eq_false, ne_eq, reduceIte, ite_self, Nat.reduceMul, Nat.reduceDiv, Nat.reduceMod, Nat.reducePow, Nat.zero_add, Nat.add_zero, Nat.one_mul, Nat.mul_one, n_in, n_min, n_clamp, n_eq_t, n_eq_f, n_eq, n_le_t, n_le_f, n_le, n_lt_t, n_lt_f, n_lt, n_sub0, n_sublt, n_suble, n_negsub, m_up_hit, m_up_miss, m_row_hit, m_row_miss, n_eqm, n_meq, n_meqm, n_ltm, n_lem, n_mlt, n_mle, n_sub, n_div, n_and1, n_shl, n_shr, n_inc, n_mul, n_rem, z_lt, z_le, z_nlt, z_nle, Nat.not_lt_zero, Nat.le_zero_eq, Nat.zero_le, if_true, if_false, hm0, hm1, hm2, hm3, hm4, hm5, hm6, hm7, hm8, hm9, hm10, hm11, hm12, hm13, hm14, hm15, hm16, hm17, hm18, hm19, hm20, hm21, hm22, hm23, hm24, hm25, hm26, ke, p69, kw, ko, p122, p120, hpm, e72]
        exact go _ (MS_up (MS_up (MS_up (MS_up (MS_o (MS_123 (MS_o (MS_o (MS_up h) (by omega)) (by omega))) (by omega)))))) (by simp (disch := omega) only [m_up_miss, m_up_hit]) (by simp (disch := omega) only [m_up_miss, m_up_hit]) (by simp (disch := omega) only [m_up_miss, m_up_hit]) (by simp (disch := omega) only [m_up_miss, m_up_hit]) (fr _) _
  · rw [if_neg c] at hQ
    have key := hQ I pm (Nat.le_refl _) (by omega) rfl h hM hpm Op2_refl
    have hneg : q_err S x < nI 0 := by
      unfold q_err at c ⊢
      split
      · decide
      · split
        · decide
        · rename_i h1 h2
          rw [if_neg h1, if_neg h2] at c
          exact absurd rfl c
    obtain ⟨hm0, hm1, hm2, hm3, hm4, hm5, hm6, hm7, hm8, hm9, hm10, hm11, hm12, hm13, hm14, hm15, hm16, hm17, hm18, hm19, hm20, hm21, hm22, hm23, hm24, hm25, hm26⟩ := hl
    simp (disch := omega) only [e117_0, e117_0N, e117_1, e117_2, e117_5, e117_6, e117_7, e117_10, e117_10N, e117_11, e117_14, e117_16, e117_17, e117_19, e117_22, e117_23, e117_26, e117_27, e117_30, e117_32, true_or, m_psh_s, m_psh_n, m_kl_i, m_kl_f, m_kl_r, m_kl_n, m_kl_j, m_kl_l, m_kl_d, c_i, c_f, c_r, c_n, List.length_nil, List.length_cons, true_and, and_true, Nat.reduceAdd, Nat.reduceLeDiff, Nat.reduceSub, Nat.reduceEqDiff, Nat.reduceLT, ge_iff_le, gt_iff_lt, n_lit, m_in, m_nar0, m_nar1, and_self, not_false_eq_true, not_true_eq_false, ne_eq, reduceIte, ite_self, Nat.reduceMul, Nat.reduceDiv, Nat.reduceMod, Nat.reducePow, Nat.zero_add, Nat.add_zero, Nat.one_mul, Nat.mul_one, n_in, n_min, n_clamp, n_eq_t, n_eq_f, n_eq, n_le_t, n_le_f, n_le, n_lt_t, n_lt_f, n_lt, n_sub0, n_sublt, n_suble, n_negsub, m_up_hit, m_up_miss, m_row_hit, m_row_miss, n_eqm, n_meq, n_meqm, n_ltm, n_lem, n_mlt, n_mle, n_sub, n_div, n_and1, n_shl, n_shr, n_inc, n_mul, n_rem, z_lt, z_le, z_nlt, z_nle, Nat.not_lt_zero, Nat.le_zero_eq, Nat.zero_le, if_true, if_false, hm0, hm1, hm2, hm3, hm4, hm5, hm6, hm7, hm8, hm9, hm10, hm11, hm12, hm13, hm14, hm15, hm16, hm17, hm18, hm19, hm20, hm21, hm22, hm23, hm24, hm25, hm26, ke, if_pos hneg, hneg, n_g2]
    exact key
end MODELG
