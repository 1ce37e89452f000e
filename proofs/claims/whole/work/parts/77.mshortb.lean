section MSHORTB
variable {lay : mL} {d a n n' : Nat} {I I' : mI} {F F' : mF} {R R' : mR} {Q : mP} {S : Nat → Nat} {sp : Nat → UInt32} {hi : List Nat} {pm pm' pl : Nat} {hs : List St} {pc : Nat → Nat} {sv : Nat → Option St}
theorem r_tab0 {b m s : Nat} {v6 : Value} {v1 : Int32} (hl : ML lay R) (w : Wsh S) (hc9 : S 2 ≤ 9) (hm : m = q_on b 16) (hm6 : m ≤ 6) (hg : ∀ g, g < 16 → b / 2 ^ g % 2 = 1 → g < S 3) (hs0 : 0 < s) (hs : s < 2 ^ m) (hd : 4 ≤ d) (j : Nat) : ∀ (k : Nat) (v5 : Value) (I : mI), k + j = m → MS I F S sp → MB b m I → WT S b m I s → (∀ i, i < k → s / 2 ^ i % 2 = 1 → I 178 (6 * s + i) = nI (q_val (S 2) (q_pm S b) s i)) → (∀ I', MS I' F S sp → MB b m I' → WT S b m I' (s + 1) → (∀ x, x ≠ 178 → I' x = I x) → ∀ v5, Ev lay d 147 94 [.ref 166, .int v1, .int (nI m), .int (nI s), .int (nI m), v5, v6] [] I' F R n Q) → Ev lay d 147 47 [.ref 166, .int v1, .int (nI m), .int (nI s), .int (nI k), v5, v6] [] I F R n Q := by
  have hl' := hl
  have m0 := hl.1
  have m12 : lay 178 = (0, 384) := by obtain ⟨hm0, hm1, hm2, hm3, hm4, hm5, hm6, hm7, hm8, hm9, hm10, hm11, hm12, hm13, hm14, hm15, hm16, hm17, hm18, hm19, hm20, hm21, hm22, hm23, hm24, hm25, hm26⟩ := hl; assumption
  have r15 : m_rv (R 166 15) = .ref 178 := by obtain ⟨hm0, hm1, hm2, hm3, hm4, hm5, hm6, hm7, hm8, hm9, hm10, hm11, hm12, hm13, hm14, hm15, hm16, hm17, hm18, hm19, hm20, hm21, hm22, hm23, hm24, hm25, hm26⟩ := hl; assumption
  have h64 : 2 ^ m ≤ 2 ^ 6 := Nat.pow_le_pow_right (by decide) hm6
  induction j with
  | zero =>
    intro k v5 I hk h hB hW hi hQ
    have hk2 : k = m := by omega
    subst hk2
    have key := hQ I h hB (fun r r0 r1 i hi' hb => by
      by_cases e : r = s
      · subst e; exact hi i hi' hb
      · exact hW r r0 (by omega) i hi' hb) (fun _ _ => rfl) v5
    rw [e147_47]
    simp (disch := omega) only [e147_49, e147_50, e147_53, e147_53N, e147_54, e147_57, e147_59, e147_60, e147_61, e147_63, e147_64, e147_65, e147_67, e147_68, e147_69, e147_70, e147_71, e147_74, e147_74N, e147_75, e147_76, e147_78, e147_79, e147_82, e147_85, e147_87, e147_88, e147_91, true_or, m_psh_s, m_psh_n, m_kl_i, m_kl_f, m_kl_r, m_kl_n, m_kl_j, m_kl_l, m_kl_d, c_i, c_f, c_r, c_n, List.length_nil, List.length_cons, true_and, and_true, Nat.reduceAdd, Nat.reduceLeDiff, Nat.reduceSub, Nat.reduceEqDiff, Nat.reduceLT, ge_iff_le, gt_iff_lt, n_lit, m_in, m_nar0, m_nar1, and_self, not_false_eq_true, not_true_eq_false, ne_eq, reduceIte, ite_self, Nat.reduceMul, Nat.reduceDiv, Nat.reduceMod, Nat.reducePow, Nat.zero_add, Nat.add_zero, Nat.one_mul, Nat.mul_one, n_in, n_min, n_clamp, n_eq_t, n_eq_f, n_eq, n_le_t, n_le_f, n_le, n_lt_t, n_lt_f, n_lt, n_sub0, n_sublt, n_suble, n_negsub, m_up_hit, m_up_miss, m_row_hit, m_row_miss, n_eqm, n_meq, n_meqm, n_ltm, n_lem, n_mlt, n_mle, n_sub, n_div, n_and1, n_shl, n_shr, n_inc, n_mul, n_rem, z_lt, z_le, z_nlt, z_nle, Nat.not_lt_zero, Nat.le_zero_eq, Nat.zero_le, if_true, if_false]
    exact key
  | succ j ih =>
    intro k v5 I hk h hB hW hi hQ
    have up : ∀ v : Nat, (s / 2 ^ k % 2 = 1 → v = q_val (S 2) (q_pm S b) s k) → Ev lay d 147 47 [.ref 166, .int v1, .int (nI m), .int (nI s), .int (nI (k + 1)), v5, v6] [] (m_up I 178 (6 * s + k) (nI v)) F R n Q := by
      intro v hv
      refine ih (k + 1) v5 _ (by omega) (MS_o h (by omega)) (fun i hi' => by rw [m_up_miss (by omega)]; exact hB i hi') (fun r r0 r1 i hi' hb => by rw [m_up_miss (by omega)]; exact hW r r0 r1 i hi' hb) (fun i hi' hb => by
        by_cases e : i = k
        · subst e; rw [m_up_at, hv hb]
        · rw [m_up_miss (by omega)]; exact hi i (by omega) hb) (fun I' t1 t2 t3 t4 => hQ I' t1 t2 t3 (fun x hx => by rw [t4 x hx, m_up_off hx]))
    rw [e147_47]
    rcases Nat.mod_two_eq_zero_or_one (s / 2 ^ k) with hbit | hbit
    · have key := up 1000000 (fun e => by omega)
      simp (disch := omega) only [e147_49, e147_50, e147_53, e147_53N, e147_54, e147_57, e147_59, e147_60, e147_61, e147_63, e147_64, e147_65, e147_67, e147_68, e147_69, e147_70, e147_71, e147_74, e147_74N, e147_75, e147_76, e147_78, e147_79, e147_82, e147_85, e147_87, e147_88, e147_91, true_or, m_psh_s, m_psh_n, m_kl_i, m_kl_f, m_kl_r, m_kl_n, m_kl_j, m_kl_l, m_kl_d, c_i, c_f, c_r, c_n, List.length_nil, List.length_cons, true_and, and_true, Nat.reduceAdd, Nat.reduceLeDiff, Nat.reduceSub, Nat.reduceEqDiff, Nat.reduceLT, ge_iff_le, gt_iff_lt, n_lit, m_in, m_nar0, m_nar1, and_self, not_false_eq_true, not_true_eq_false, ne_eq, reduceIte, ite_self, Nat.reduceMul, Nat.reduceDiv, Nat.reduceMod, Nat.reducePow, Nat.zero_add, Nat.add_zero, Nat.one_mul, Nat.mul_one, n_in, n_min, n_clamp, n_eq_t, n_eq_f, n_eq, n_le_t, n_le_f, n_le, n_lt_t, n_lt_f, n_lt, n_sub0, n_sublt, n_suble, n_negsub, m_up_hit, m_up_miss, m_row_hit, m_row_miss, n_eqm, n_meq, n_meqm, n_ltm, n_lem, n_mlt, n_mle, n_sub, n_div, n_and1, n_shl, n_shr, n_inc, n_mul, n_rem, z_lt, z_le, z_nlt, z_nle, Nat.not_lt_zero, Nat.le_zero_eq, Nat.zero_le, if_true, if_false, m0, m12, r15, hbit]
      exact key
    · have key := up _ (fun _ => rfl)
      have kw : ∀ (Q : mP), Q (some (.int (nI (q_val (S 2) (q_pm S b) s k)))) I F R n → _ := fun Q hQ => r_wayTo (d := d - 1) (n := n) (Q := Q) hl' h w hc9 hm hm6 hg hB hs (show k < m by omega) hbit hW (by omega) hQ
      simp (disch := omega) only [e147_49, e147_50, e147_53, e147_53N, e147_54, e147_57, e147_59, e147_60, e147_61, e147_63, e147_64, e147_65, e147_67, e147_68, e147_69, e147_70, e147_71, e147_74, e147_74N, e147_75, e147_76, e147_78, e147_79, true_or, m_psh_s, m_psh_n, m_kl_i, m_kl_f, m_kl_r, m_kl_n, m_kl_j, m_kl_l, m_kl_d, c_i, c_f, c_r, c_n, List.length_nil, List.length_cons, true_and, and_true, Nat.reduceAdd, Nat.reduceLeDiff, Nat.reduceSub, Nat.reduceEqDiff, Nat.reduceLT, ge_iff_le, gt_iff_lt, n_lit, m_in, m_nar0, m_nar1, and_self, not_false_eq_true, not_true_eq_false, ne_eq, reduceIte, ite_self, Nat.reduceMul, Nat.reduceDiv, Nat.reduceMod, Nat.reducePow, Nat.zero_add, Nat.add_zero, Nat.one_mul, Nat.mul_one, n_in, n_min, n_clamp, n_eq_t, n_eq_f, n_eq, n_le_t, n_le_f, n_le, n_lt_t, n_lt_f, n_lt, n_sub0, n_sublt, n_suble, n_negsub, m_up_hit, m_up_miss, m_row_hit, m_row_miss, n_eqm, n_meq, n_meqm, n_ltm, n_lem, n_mlt, n_mle, n_sub, n_div, n_and1, n_shl, n_shr, n_inc, n_mul, n_rem, z_lt, z_le, z_nlt, z_nle, Nat.not_lt_zero, Nat.le_zero_eq, Nat.zero_le, if_true, if_false, m0, m12, r15, hbit]
      apply kw
      simp (disch := omega) only [e147_82, e147_85, e147_87, e147_88, e147_91, true_or, m_psh_s, m_psh_n, m_kl_i, m_kl_f, m_kl_r, m_kl_n, m_kl_j, m_kl_l, m_kl_d, c_i, c_f, c_r, c_n, List.length_nil, List.length_cons, true_and, and_true, Nat.reduceAdd, Nat.reduceLeDiff, Nat.reduceSub, Nat.reduceEqDiff, Nat.reduceLT, ge_iff_le, gt_iff_lt, n_lit, m_in, m_nar0, m_nar1, and_self, not_false_eq_true, not_true_eq_false, ne_eq, reduceIte, ite_self, Nat.reduceMul, Nat.reduceDiv, Nat.reduceMod, Nat.reducePow, Nat.zero_add, Nat.add_zero, Nat.one_mul, Nat.mul_one, n_in, n_min, n_clamp, n_eq_t, n_eq_f, n_eq, n_le_t, n_le_f, n_le, n_lt_t, n_lt_f, n_lt, n_sub0, n_sublt, n_suble, n_negsub, m_up_hit, m_up_miss, m_row_hit, m_row_miss, n_eqm, n_meq, n_meqm, n_ltm, n_lem, n_mlt, n_mle, n_sub, n_div, n_and1, n_shl, n_shr, n_inc, n_mul, n_rem, z_lt, z_le, z_nlt, z_nle, Nat.not_lt_zero, Nat.le_zero_eq, Nat.zero_le, if_true, if_false, m0, m12, r15]
      exact key
theorem r_tab1 {b m : Nat} {v6 : Value} {v1 : Int32} (hl : ML lay R) (w : Wsh S) (hc9 : S 2 ≤ 9) (hm : m = q_on b 16) (hm6 : m ≤ 6) (hg : ∀ g, g < 16 → b / 2 ^ g % 2 = 1 → g < S 3) (hd : 4 ≤ d) (j : Nat) : ∀ (s : Nat) (v4 v5 : Value) (I : mI), s + j = 2 ^ m → 0 < s → MS I F S sp → MB b m I → WT S b m I s → (∀ I', MS I' F S sp → MB b m I' → WT S b m I' (2 ^ m) → (∀ x, x ≠ 178 → I' x = I x) → ∀ v4 v5, Ev lay d 147 100 [.ref 166, .int v1, .int (nI m), .int (nI (2 ^ m)), v4, v5, v6] [] I' F R n Q) → Ev lay d 147 37 [.ref 166, .int v1, .int (nI m), .int (nI s), v4, v5, v6] [] I F R n Q := by
  have h64 : 2 ^ m ≤ 2 ^ 6 := Nat.pow_le_pow_right (by decide) hm6
  have esh : nI 1 <<< (nI m &&& nI 31) = nI (2 ^ m) := by
    have := n_shl (x := 1) (k := m) (by omega) (by omega)
    rw [Nat.one_mul] at this
    exact this
  induction j with
  | zero =>
    intro s v4 v5 I hk h0 h hB hW hQ
    have hk2 : s = 2 ^ m := by omega
    subst hk2
    have key := hQ I h hB hW (fun _ _ => rfl) v4 v5
    rw [e147_37]
    simp (disch := omega) only [e147_38, e147_39, e147_40, e147_41, e147_44, e147_45, e147_47, e147_49, e147_50, e147_53, e147_53N, e147_54, e147_57, e147_59, e147_60, e147_61, e147_63, e147_64, e147_65, e147_67, e147_68, e147_69, e147_70, e147_71, e147_74, e147_74N, e147_75, e147_76, e147_78, e147_79, e147_82, e147_85, e147_87, e147_88, e147_91, e147_94, e147_97, true_or, m_psh_s, m_psh_n, m_kl_i, m_kl_f, m_kl_r, m_kl_n, m_kl_j, m_kl_l, m_kl_d, c_i, c_f, c_r, c_n, List.length_nil, List.length_cons, true_and, and_true, Nat.reduceAdd, Nat.reduceLeDiff, Nat.reduceSub, Nat.reduceEqDiff, Nat.reduceLT, ge_iff_le, gt_iff_lt, n_lit, m_in, m_nar0, m_nar1, and_self, not_false_eq_true, not_true_eq_false, ne_eq, reduceIte, ite_self, Nat.reduceMul, Nat.reduceDiv, Nat.reduceMod, Nat.reducePow, Nat.zero_add, Nat.add_zero, Nat.one_mul, Nat.mul_one, n_in, n_min, n_clamp, n_eq_t, n_eq_f, n_eq, n_le_t, n_le_f, n_le, n_lt_t, n_lt_f, n_lt, n_sub0, n_sublt, n_suble, n_negsub, m_up_hit, m_up_miss, m_row_hit, m_row_miss, n_eqm, n_meq, n_meqm, n_ltm, n_lem, n_mlt, n_mle, n_sub, n_div, n_and1, n_shl, n_shr, n_inc, n_mul, n_rem, z_lt, z_le, z_nlt, z_nle, Nat.not_lt_zero, Nat.le_zero_eq, Nat.zero_le, if_true, if_false, esh]
    exact key
  | succ j ih =>
    intro s v4 v5 I hk h0 h hB hW hQ
    have key := r_tab0 (lay := lay) (d := d) (n := n) (F := F) (Q := Q) (b := b) (m := m) (s := s) (v6 := v6) (v1 := v1) hl w hc9 hm hm6 hg h0 (by omega) hd m 0 v5 I (Nat.zero_add _) h hB hW (fun i hi => by omega) (fun I' t1 t2 t3 t4 v5 => by
      have key := ih (s + 1) (.int (nI m)) v5 I' (by omega) (by omega) t1 t2 t3 (fun I2 u1 u2 u3 u4 => hQ I2 u1 u2 u3 (fun x hx => by rw [u4 x hx, t4 x hx]))
      simp (disch := omega) only [e147_94, e147_97, true_or, m_psh_s, m_psh_n, m_kl_i, m_kl_f, m_kl_r, m_kl_n, m_kl_j, m_kl_l, m_kl_d, c_i, c_f, c_r, c_n, List.length_nil, List.length_cons, true_and, and_true, Nat.reduceAdd, Nat.reduceLeDiff, Nat.reduceSub, Nat.reduceEqDiff, Nat.reduceLT, ge_iff_le, gt_iff_lt, n_lit, m_in, m_nar0, m_nar1, and_self, not_false_eq_true, not_true_eq_false, ne_eq, reduceIte, ite_self, Nat.reduceMul, Nat.reduceDiv, Nat.reduceMod, Nat.reducePow, Nat.zero_add, Nat.add_zero, Nat.one_mul, Nat.mul_one, n_in, n_min, n_clamp, n_eq_t, n_eq_f, n_eq, n_le_t, n_le_f, n_le, n_lt_t, n_lt_f, n_lt, n_sub0, n_sublt, n_suble, n_negsub, m_up_hit, m_up_miss, m_row_hit, m_row_miss, n_eqm, n_meq, n_meqm, n_ltm, n_lem, n_mlt, n_mle, n_sub, n_div, n_and1, n_shl, n_shr, n_inc, n_mul, n_rem, z_lt, z_le, z_nlt, z_nle, Nat.not_lt_zero, Nat.le_zero_eq, Nat.zero_le, if_true, if_false]
      exact key)
    rw [e147_37]
    simp (disch := omega) only [e147_38, e147_39, e147_40, e147_41, e147_44, e147_45, true_or, m_psh_s, m_psh_n, m_kl_i, m_kl_f, m_kl_r, m_kl_n, m_kl_j, m_kl_l, m_kl_d, c_i, c_f, c_r, c_n, List.length_nil, List.length_cons, true_and, and_true, Nat.reduceAdd, Nat.reduceLeDiff, Nat.reduceSub, Nat.reduceEqDiff, Nat.reduceLT, ge_iff_le, gt_iff_lt, n_lit, m_in, m_nar0, m_nar1, and_self, not_false_eq_true, not_true_eq_false, ne_eq, reduceIte, ite_self, Nat.reduceMul, Nat.reduceDiv, Nat.reduceMod, Nat.reducePow, Nat.zero_add, Nat.add_zero, Nat.one_mul, Nat.mul_one, n_in, n_min, n_clamp, n_eq_t, n_eq_f, n_eq, n_le_t, n_le_f, n_le, n_lt_t, n_lt_f, n_lt, n_sub0, n_sublt, n_suble, n_negsub, m_up_hit, m_up_miss, m_row_hit, m_row_miss, n_eqm, n_meq, n_meqm, n_ltm, n_lem, n_mlt, n_mle, n_sub, n_div, n_and1, n_shl, n_shr, n_inc, n_mul, n_rem, z_lt, z_le, z_nlt, z_nle, Nat.not_lt_zero, Nat.le_zero_eq, Nat.zero_le, if_true, if_false, esh]
    exact key
theorem r_fin0 {b m : Nat} {v1 : Int32} (hl : ML lay R) (h : MS I F S sp) (w : Wsh S) (hc9 : S 2 ≤ 9) (hm : m = q_on b 16) (hm6 : m ≤ 6) (hm0 : 1 ≤ m) (hg : ∀ g, g < 16 → b / 2 ^ g % 2 = 1 → g < S 3) (hB : MB b m I) (hW : WT S b m I (2 ^ m)) (hd : 2 ≤ d) (j : Nat) : ∀ (k : Nat) (v6 : Value), k + j = m → (Ev lay d 147 116 [.ref 166, .int v1, .int (nI m), .int (nI (if k = 0 then 1000000 else q_short S b)), .int (nI (6 * (2 ^ m - 1))), .int (nI k), v6] [] I F R n Q ↔ Q (some (.int (nI (q_short S b)))) I F R n) := by
  have hl' := hl
  have w1 := w.1
  have h64 : 2 ^ m ≤ 2 ^ 6 := Nat.pow_le_pow_right (by decide) hm6
  have h2m : 2 ≤ 2 ^ m := Nat.pow_le_pow_right (n := 2) (i := 1) (by decide) hm0
  have eT : q_short S b = 2 * q_T (S 2) (q_pm S b) (2 ^ m - 1) := by
    have := T_mm (c := S 2) (pos := q_pos S) (b := b) (by omega)
    rw [← hm] at this
    have e2 : q_T (S 2) (q_pm S b) (2 ^ m - 1) = q_T (S 2) (q_pos S) b := this
    rw [e2]
    rfl
  have hT62 := T_le62 (pos := q_pm S b) (s := 2 ^ m - 1) hc9
  induction j with
  | zero =>
    intro k v6 hk
    have hk2 : k = m := by omega
    subst hk2
    rw [if_neg (by omega), e147_116]
    simp (disch := omega) only [e147_118, e147_119, e147_169, e147_170, true_or, m_psh_s, m_psh_n, m_kl_i, m_kl_f, m_kl_r, m_kl_n, m_kl_j, m_kl_l, m_kl_d, c_i, c_f, c_r, c_n, List.length_nil, List.length_cons, true_and, and_true, Nat.reduceAdd, Nat.reduceLeDiff, Nat.reduceSub, Nat.reduceEqDiff, Nat.reduceLT, ge_iff_le, gt_iff_lt, n_lit, m_in, m_nar0, m_nar1, and_self, not_false_eq_true, not_true_eq_false, ne_eq, reduceIte, ite_self, Nat.reduceMul, Nat.reduceDiv, Nat.reduceMod, Nat.reducePow, Nat.zero_add, Nat.add_zero, Nat.one_mul, Nat.mul_one, n_in, n_min, n_clamp, n_eq_t, n_eq_f, n_eq, n_le_t, n_le_f, n_le, n_lt_t, n_lt_f, n_lt, n_sub0, n_sublt, n_suble, n_negsub, m_up_hit, m_up_miss, m_row_hit, m_row_miss, n_eqm, n_meq, n_meqm, n_ltm, n_lem, n_mlt, n_mle, n_sub, n_div, n_and1, n_shl, n_shr, n_inc, n_mul, n_rem, z_lt, z_le, z_nlt, z_nle, Nat.not_lt_zero, Nat.le_zero_eq, Nat.zero_le, if_true, if_false]
  | succ j ih =>
    intro k v6 hk
    have hbit : (2 ^ m - 1) / 2 ^ k % 2 = 1 := by
      rw [b_tb, Nat.testBit_two_pow_sub_one]
      simp
      omega
    have hw := hW (2 ^ m - 1) (by omega) (by omega) k (by omega) hbit
    have hmk := hB k (by omega)
    obtain ⟨a1, a2, a3⟩ := mem_ok (show k < q_on b 16 by omega)
    have a4 := hg _ a1 a2
    have hp : q_pm S b k < 30 := w.2.1 _ a4
    have hTd := T_dsk (c := S 2) (pos := q_pm S b) (s := 2 ^ m - 1) (k := k) (by omega) hbit hp
    have ks : ∀ (Q : mP), Ev lay (d - 1) 108 0 [.ref 166, .int (nI (q_mem b k))] [] I F R n Q ↔ Q (some (.int (nI (q_pm S b k)))) I F R n := fun Q => r_slotOf (g := q_mem b k) (d := d - 1) (n := n) (Q := Q) hl' h a1 (by omega)
    have kf : ∀ (Q : mP), _ := fun Q => r_far (d := d - 1) (n := n) (Q := Q) hl' h hp (by omega)
    have ev : q_val (S 2) (q_pm S b) (2 ^ m - 1) k + q_dsk (S 2) (q_pm S b k) = q_short S b := by
      unfold q_val
      omega
    have key := ih (k + 1) (.int (nI (q_short S b))) (by omega)
    rw [if_neg (by omega)] at key
    have hsh : q_short S b ≤ 124 := by omega
    obtain ⟨hm0, hm1, hm2, hm3, hm4, hm5, hm6, hm7, hm8, hm9, hm10, hm11, hm12, hm13, hm14, hm15, hm16, hm17, hm18, hm19, hm20, hm21, hm22, hm23, hm24, hm25, hm26⟩ := hl
    rw [e147_116]
    by_cases e : k = 0
    · subst e
      rw [if_pos rfl]
      rw [Nat.add_zero] at hw
      simp (disch := omega) only [e147_118, e147_119, e147_122, e147_122N, e147_123, e147_126, e147_128, e147_130, e147_131, e147_132, e147_132N, e147_133, e147_133N, e147_134, e147_134N, e147_135, e147_138, e147_140, e147_141, e147_144, e147_147, e147_148, e147_150, e147_152, e147_153, e147_156, e147_158, e147_161, e147_162, e147_163, e147_166, true_or, m_psh_s, m_psh_n, m_kl_i, m_kl_f, m_kl_r, m_kl_n, m_kl_j, m_kl_l, m_kl_d, c_i, c_f, c_r, c_n, List.length_nil, List.length_cons, true_and, and_true, Nat.reduceAdd, Nat.reduceLeDiff, Nat.reduceSub, Nat.reduceEqDiff, Nat.reduceLT, ge_iff_le, gt_iff_lt, n_lit, m_in, m_nar0, m_nar1, and_self, not_false_eq_true, not_true_eq_false, ne_eq, reduceIte, ite_self, Nat.reduceMul, Nat.reduceDiv, Nat.reduceMod, Nat.reducePow, Nat.zero_add, Nat.add_zero, Nat.one_mul, Nat.mul_one, n_in, n_min, n_clamp, n_eq_t, n_eq_f, n_eq, n_le_t, n_le_f, n_le, n_lt_t, n_lt_f, n_lt, n_sub0, n_sublt, n_suble, n_negsub, m_up_hit, m_up_miss, m_row_hit, m_row_miss, n_eqm, n_meq, n_meqm, n_ltm, n_lem, n_mlt, n_mle, n_sub, n_div, n_and1, n_shl, n_shr, n_inc, n_mul, n_rem, z_lt, z_le, z_nlt, z_nle, Nat.not_lt_zero, Nat.le_zero_eq, Nat.zero_le, if_true, if_false, hm0, hm1, hm2, hm3, hm4, hm5, hm6, hm7, hm8, hm9, hm10, hm11, hm12, hm13, hm14, hm15, hm16, hm17, hm18, hm19, hm20, hm21, hm22, hm23, hm24, hm25, hm26, hw, hmk, ks, kf, ev]
      exact key
    · rw [if_neg e]
      simp (disch := omega) only [e147_118, e147_119, e147_122, e147_122N, e147_123, e147_126, e147_128, e147_130, e147_131, e147_132, e147_132N, e147_133, e147_133N, e147_134, e147_134N, e147_135, e147_138, e147_140, e147_141, e147_144, e147_147, e147_148, e147_150, e147_152, e147_153, e147_156, e147_158, e147_161, e147_162, e147_163, e147_166, true_or, m_psh_s, m_psh_n, m_kl_i, m_kl_f, m_kl_r, m_kl_n, m_kl_j, m_kl_l, m_kl_d, c_i, c_f, c_r, c_n, List.length_nil, List.length_cons, true_and, and_true, Nat.reduceAdd, Nat.reduceLeDiff, Nat.reduceSub, Nat.reduceEqDiff, Nat.reduceLT, ge_iff_le, gt_iff_lt, n_lit, m_in, m_nar0, m_nar1, and_self, not_false_eq_true, not_true_eq_false, ne_eq, reduceIte, ite_self, Nat.reduceMul, Nat.reduceDiv, Nat.reduceMod, Nat.reducePow, Nat.zero_add, Nat.add_zero, Nat.one_mul, Nat.mul_one, n_in, n_min, n_clamp, n_eq_t, n_eq_f, n_eq, n_le_t, n_le_f, n_le, n_lt_t, n_lt_f, n_lt, n_sub0, n_sublt, n_suble, n_negsub, m_up_hit, m_up_miss, m_row_hit, m_row_miss, n_eqm, n_meq, n_meqm, n_ltm, n_lem, n_mlt, n_mle, n_sub, n_div, n_and1, n_shl, n_shr, n_inc, n_mul, n_rem, z_lt, z_le, z_nlt, z_nle, Nat.not_lt_zero, Nat.le_zero_eq, Nat.zero_le, if_true, if_false, hm0, hm1, hm2, hm3, hm4, hm5, hm6, hm7, hm8, hm9, hm10, hm11, hm12, hm13, hm14, hm15, hm16, hm17, hm18, hm19, hm20, hm21, hm22, hm23, hm24, hm25, hm26, hw, hmk, ks, kf, ev]
      exact key
theorem r_shortestOf {b : Nat} (hl : ML lay R) (h : MS I F S sp) (w : Wsh S) (hc9 : S 2 ≤ 9) (hb : bOK S b) (hb0 : 1 ≤ q_on b 16) (hd : 4 ≤ d) (hQ : ∀ I', MS I' F S sp → (∀ x, x ≠ 178 → x ≠ 179 → I' x = I x) → Q (some (.int (nI (q_short S b)))) I' F R n) : Ev lay d 147 0 [.ref 166, .int (nI b), m_j, m_j, m_j, m_j, m_j] [] I F R n Q := by
  obtain ⟨hb1, hb2, hb3⟩ := hb
  have h64 : 2 ^ q_on b 16 ≤ 2 ^ 6 := Nat.pow_le_pow_right (by decide) hb2
  have h2m : 2 ≤ 2 ^ q_on b 16 := Nat.pow_le_pow_right (n := 2) (i := 1) (by decide) hb0
  have esh : nI 1 <<< (nI (q_on b 16) &&& nI 31) = nI (2 ^ q_on b 16) := by
    have := n_shl (x := 1) (k := q_on b 16) (by omega) (by omega)
    rw [Nat.one_mul] at this
    exact this
  have key := r_mem0 (d := d) (n := n) (F := F) (Q := Q) (v4 := m_j) (v5 := m_j) (v6 := m_j) hl hb1 hb2 16 0 I rfl (fun g hg _ => absurd hg (by omega)) (fun I1 t1 t2 => by
    have h1 : MS I1 F S sp := MS_off h (t2 167 (by omega)) rfl
    have hB1 : MB b (q_on b 16) I1 := fun i hi => by
      obtain ⟨a1, a2, a3⟩ := mem_ok hi
      have := t1 _ a1 a2
      rw [a3] at this
      exact this
    have key := r_tab1 (lay := lay) (d := d) (n := n) (F := F) (Q := Q) (b := b) (v6 := m_j) (v1 := nI b) hl w hc9 rfl hb2 hb3 hd (2 ^ q_on b 16 - 1) 1 m_j m_j I1 (by omega) (by omega) h1 hB1 (fun r r0 r1 => by omega) (fun I2 u1 u2 u3 u4 v4 v5 => by
      have key := (r_fin0 (lay := lay) (d := d) (n := n) (I := I2) (F := F) (R := R) (Q := Q) (b := b) (v1 := nI b) hl u1 w hc9 rfl hb2 hb0 hb3 u2 u3 (by omega) (q_on b 16) 0 m_j (Nat.zero_add _)).mpr (hQ I2 u1 (fun x k1 k2 => by rw [u4 x k1, t2 x k2]))
      rw [if_pos rfl] at key
      simp (disch := omega) only [e147_100, e147_102, e147_103, e147_105, e147_106, e147_107, e147_108, e147_109, e147_110, e147_111, e147_113, e147_114, true_or, m_psh_s, m_psh_n, m_kl_i, m_kl_f, m_kl_r, m_kl_n, m_kl_j, m_kl_l, m_kl_d, c_i, c_f, c_r, c_n, List.length_nil, List.length_cons, true_and, and_true, Nat.reduceAdd, Nat.reduceLeDiff, Nat.reduceSub, Nat.reduceEqDiff, Nat.reduceLT, ge_iff_le, gt_iff_lt, n_lit, m_in, m_nar0, m_nar1, and_self, not_false_eq_true, not_true_eq_false, ne_eq, reduceIte, ite_self, Nat.reduceMul, Nat.reduceDiv, Nat.reduceMod, Nat.reducePow, Nat.zero_add, Nat.add_zero, Nat.one_mul, Nat.mul_one, n_in, n_min, n_clamp, n_eq_t, n_eq_f, n_eq, n_le_t, n_le_f, n_le, n_lt_t, n_lt_f, n_lt, n_sub0, n_sublt, n_suble, n_negsub, m_up_hit, m_up_miss, m_row_hit, m_row_miss, n_eqm, n_meq, n_meqm, n_ltm, n_lem, n_mlt, n_mle, n_sub, n_div, n_and1, n_shl, n_shr, n_inc, n_mul, n_rem, z_lt, z_le, z_nlt, z_nle, Nat.not_lt_zero, Nat.le_zero_eq, Nat.zero_le, if_true, if_false, esh]
      exact key)
    simp (disch := omega) only [e147_35, e147_36, true_or, m_psh_s, m_psh_n, m_kl_i, m_kl_f, m_kl_r, m_kl_n, m_kl_j, m_kl_l, m_kl_d, c_i, c_f, c_r, c_n, List.length_nil, List.length_cons, true_and, and_true, Nat.reduceAdd, Nat.reduceLeDiff, Nat.reduceSub, Nat.reduceEqDiff, Nat.reduceLT, ge_iff_le, gt_iff_lt, n_lit, m_in, m_nar0, m_nar1, and_self, not_false_eq_true, not_true_eq_false, ne_eq, reduceIte, ite_self, Nat.reduceMul, Nat.reduceDiv, Nat.reduceMod, Nat.reducePow, Nat.zero_add, Nat.add_zero, Nat.one_mul, Nat.mul_one, n_in, n_min, n_clamp, n_eq_t, n_eq_f, n_eq, n_le_t, n_le_f, n_le, n_lt_t, n_lt_f, n_lt, n_sub0, n_sublt, n_suble, n_negsub, m_up_hit, m_up_miss, m_row_hit, m_row_miss, n_eqm, n_meq, n_meqm, n_ltm, n_lem, n_mlt, n_mle, n_sub, n_div, n_and1, n_shl, n_shr, n_inc, n_mul, n_rem, z_lt, z_le, z_nlt, z_nle, Nat.not_lt_zero, Nat.le_zero_eq, Nat.zero_le, if_true, if_false]
    exact key)
  simp (disch := omega) only [e147_0, e147_1, e147_2, e147_3, true_or, m_psh_s, m_psh_n, m_kl_i, m_kl_f, m_kl_r, m_kl_n, m_kl_j, m_kl_l, m_kl_d, c_i, c_f, c_r, c_n, List.length_nil, List.length_cons, true_and, and_true, Nat.reduceAdd, Nat.reduceLeDiff, Nat.reduceSub, Nat.reduceEqDiff, Nat.reduceLT, ge_iff_le, gt_iff_lt, n_lit, m_in, m_nar0, m_nar1, and_self, not_false_eq_true, not_true_eq_false, ne_eq, reduceIte, ite_self, Nat.reduceMul, Nat.reduceDiv, Nat.reduceMod, Nat.reducePow, Nat.zero_add, Nat.add_zero, Nat.one_mul, Nat.mul_one, n_in, n_min, n_clamp, n_eq_t, n_eq_f, n_eq, n_le_t, n_le_f, n_le, n_lt_t, n_lt_f, n_lt, n_sub0, n_sublt, n_suble, n_negsub, m_up_hit, m_up_miss, m_row_hit, m_row_miss, n_eqm, n_meq, n_meqm, n_ltm, n_lem, n_mlt, n_mle, n_sub, n_div, n_and1, n_shl, n_shr, n_inc, n_mul, n_rem, z_lt, z_le, z_nlt, z_nle, Nat.not_lt_zero, Nat.le_zero_eq, Nat.zero_le, if_true, if_false]
  exact key
theorem m_shortest {x : Int32} (h : MX lay I F R S sp hi pm hs pl pc sv) (w : Wsh S) (hc9 : S 2 ≤ 9) (hd : 5 ≤ d) (hQ : ∀ I' F', MX lay I' F' R S sp hi pm hs pl pc sv → FrR I F I' F' → Q (some (.int (q_sht S x))) I' F' R n) : Ev lay d 146 0 [.ref 166, .int x, m_j] [] I F R n Q := by
  have m0 := h.1.1
  have ke : ∀ (Q : mP), _ := fun Q => r_errorOf (d := d - 1) (n := n) (Q := Q) (x := x) h.1 h.2.1 w.1 (by omega)
  unfold q_sht at hQ
  by_cases c : q_err S x = nI 0
  · obtain ⟨b1, b2, b3⟩ := q_err_ok w.1 c
    rw [if_pos c] at hQ
    rw [c] at ke
    have ko : ∀ (Q : mP), _ → _ := fun Q hQ => r_shortestOf (d := d - 1) (n := n) (Q := Q) h.1 h.2.1 w hc9 b1 b3 (by omega) hQ
    rw [← b2] at ko
    simp (disch := omega) only [e146_0, e146_0N, e146_1, e146_2, e146_5, e146_6, e146_7, e146_10, e146_11, e146_14, e146_14N, e146_15, e146_16, true_or, m_psh_s, m_psh_n, m_kl_i, m_kl_f, m_kl_r, m_kl_n, m_kl_j, m_kl_l, m_kl_d, c_i, c_f, c_r, c_n, List.length_nil, List.length_cons, true_and, and_true, Nat.reduceAdd, Nat.reduceLeDiff, Nat.reduceSub, Nat.reduceEqDiff, Nat.reduceLT, ge_iff_le, gt_iff_lt, n_lit, m_in, m_nar0, m_nar1, and_self, not_false_eq_true, not_true_eq_false, ne_eq, reduceIte, ite_self, Nat.reduceMul, Nat.reduceDiv, Nat.reduceMod, Nat.reducePow, Nat.zero_add, Nat.add_zero, Nat.one_mul, Nat.mul_one, n_in, n_min, n_clamp, n_eq_t, n_eq_f, n_eq, n_le_t, n_le_f, n_le, n_lt_t, n_lt_f, n_lt, n_sub0, n_sublt, n_suble, n_negsub, m_up_hit, m_up_miss, m_row_hit, m_row_miss, n_eqm, n_meq, n_meqm, n_ltm, n_lem, n_mlt, n_mle, n_sub, n_div, n_and1, n_shl, n_shr, n_inc, n_mul, n_rem, z_lt, z_le, z_nlt, z_nle, Nat.not_lt_zero, Nat.le_zero_eq, Nat.zero_le, if_true, if_false, m0, ke]
    apply ko
    intro I1 h1 o1
    have key := hQ I1 F (by
      obtain ⟨u1, u2, u3, u4, u5, u6, u7⟩ := h
      have ch : ∀ k, k < pm → I1 176 k = I 176 k ∧ I1 177 k = I 177 k := fun k _ => by rw [o1 176 (by omega) (by omega), o1 177 (by omega) (by omega)]; exact ⟨rfl, rfl⟩
      have e166 := o1 166 (by omega) (by omega)
      exact ⟨u1, h1, by rw [o1 167 (by omega) (by omega)]; exact Mch_off u3 (Nat.le_refl _) ch, by rw [e166]; exact u4, HM_sm u5 (Nat.le_refl _) (by rw [e166]) (o1 171 (by omega) (by omega)) rfl ch, VM_sm u6 (Nat.le_refl _) (by rw [e166]) (o1 173 (by omega) (by omega)) rfl ch, PM_sm u7 (by rw [e166]) (o1 175 (by omega) (by omega))⟩) (fun x hx => ⟨o1 x (by omega) (by omega), rfl⟩)
    simp (disch := omega) only [e146_19, true_or, m_psh_s, m_psh_n, m_kl_i, m_kl_f, m_kl_r, m_kl_n, m_kl_j, m_kl_l, m_kl_d, c_i, c_f, c_r, c_n, List.length_nil, List.length_cons, true_and, and_true, Nat.reduceAdd, Nat.reduceLeDiff, Nat.reduceSub, Nat.reduceEqDiff, Nat.reduceLT, ge_iff_le, gt_iff_lt, n_lit, m_in, m_nar0, m_nar1, and_self, not_false_eq_true, not_true_eq_false, ne_eq, reduceIte, ite_self, Nat.reduceMul, Nat.reduceDiv, Nat.reduceMod, Nat.reducePow, Nat.zero_add, Nat.add_zero, Nat.one_mul, Nat.mul_one, n_in, n_min, n_clamp, n_eq_t, n_eq_f, n_eq, n_le_t, n_le_f, n_le, n_lt_t, n_lt_f, n_lt, n_sub0, n_sublt, n_suble, n_negsub, m_up_hit, m_up_miss, m_row_hit, m_row_miss, n_eqm, n_meq, n_meqm, n_ltm, n_lem, n_mlt, n_mle, n_sub, n_div, n_and1, n_shl, n_shr, n_inc, n_mul, n_rem, z_lt, z_le, z_nlt, z_nle, Nat.not_lt_zero, Nat.le_zero_eq, Nat.zero_le, if_true, if_false]
    exact key
  · rw [if_neg c] at hQ
    have key := hQ I F h FrR_refl
    have hn := q_err_lt c
    simp (disch := omega) only [e146_0, e146_0N, e146_1, e146_2, e146_5, e146_6, e146_7, e146_10, e146_11, e146_14, e146_14N, e146_15, e146_16, e146_19, true_or, m_psh_s, m_psh_n, m_kl_i, m_kl_f, m_kl_r, m_kl_n, m_kl_j, m_kl_l, m_kl_d, c_i, c_f, c_r, c_n, List.length_nil, List.length_cons, true_and, and_true, Nat.reduceAdd, Nat.reduceLeDiff, Nat.reduceSub, Nat.reduceEqDiff, Nat.reduceLT, ge_iff_le, gt_iff_lt, n_lit, m_in, m_nar0, m_nar1, and_self, not_false_eq_true, not_true_eq_false, ne_eq, reduceIte, ite_self, Nat.reduceMul, Nat.reduceDiv, Nat.reduceMod, Nat.reducePow, Nat.zero_add, Nat.add_zero, Nat.one_mul, Nat.mul_one, n_in, n_min, n_clamp, n_eq_t, n_eq_f, n_eq, n_le_t, n_le_f, n_le, n_lt_t, n_lt_f, n_lt, n_sub0, n_sublt, n_suble, n_negsub, m_up_hit, m_up_miss, m_row_hit, m_row_miss, n_eqm, n_meq, n_meqm, n_ltm, n_lem, n_mlt, n_mle, n_sub, n_div, n_and1, n_shl, n_shr, n_inc, n_mul, n_rem, z_lt, z_le, z_nlt, z_nle, Nat.not_lt_zero, Nat.le_zero_eq, Nat.zero_le, if_true, if_false, m0, ke, hn, n_g2]
    exact key
end MSHORTB
