section MUND
variable {lay : mL} {d a n n' : Nat} {I I' : mI} {F F' : mF} {R R' : mR} {Q : mP} {S : Nat → Nat} {sp : Nat → UInt32} {hi : List Nat} {pm pm' pl : Nat} {hs : List St} {pc : Nat → Nat} {sv : Nat → Option St}
theorem m_undo0 (h : MX lay I F R S sp hi pm [] pl pc sv) (hQ : Q (some (.int (-nI 5))) I F R n) : Ev lay d 164 0 [.ref 166, m_j] [] I F R n Q := by
  have g1 : I 166 6 = nI 0 := h.2.2.2.2.1.1
  have m0 := h.1.1
  simp (disch := omega) only [e164_0, e164_0N, e164_1, e164_4, e164_7, e164_9, true_or, m_psh_s, m_psh_n, m_kl_i, m_kl_f, m_kl_r, m_kl_n, m_kl_j, m_kl_l, m_kl_d, c_i, c_f, c_r, c_n, List.length_nil, List.length_cons, true_and, and_true, Nat.reduceAdd, Nat.reduceLeDiff, Nat.reduceSub, Nat.reduceEqDiff, Nat.reduceLT, ge_iff_le, gt_iff_lt, n_lit, m_in, m_nar0, m_nar1, and_self, not_false_eq_true, not_true_eq_false, ne_eq, reduceIte, ite_self, Nat.reduceMul, Nat.reduceDiv, Nat.reduceMod, Nat.reducePow, Nat.zero_add, Nat.add_zero, Nat.one_mul, Nat.mul_one, n_in, n_min, n_clamp, n_eq_t, n_eq_f, n_eq, n_le_t, n_le_f, n_le, n_lt_t, n_lt_f, n_lt, n_sub0, n_sublt, n_suble, n_negsub, m_up_hit, m_up_miss, m_row_hit, m_row_miss, n_eqm, n_meq, n_meqm, n_ltm, n_lem, n_mlt, n_mle, n_sub, n_div, n_and1, n_shl, n_shr, n_inc, n_mul, n_rem, z_lt, z_le, z_nlt, z_nle, Nat.not_lt_zero, Nat.le_zero_eq, Nat.zero_le, if_true, if_false, m0, g1]
  exact hQ
theorem m_undo1 {st : St} (h : MX lay I F R S sp hi pm (hs ++ [st]) pl pc sv) (hQ : ∀ I' F', MX lay I' F' R st.1 st.2.1 st.2.2 pm hs pl pc sv → FrR I F I' F' → Q (some (.int (nI hs.length))) I' F' R n) : Ev lay d 164 0 [.ref 166, m_j] [] I F R n Q := by
  obtain ⟨h1, h2, h3, h4, h5, h6, h7⟩ := h
  obtain ⟨g1, g2, g3⟩ := h5
  have m0 := h1.1
  have hl : (hs ++ [st]).length = hs.length + 1 := by rw [List.length_append]; rfl
  rw [hl] at g1 g2
  have hlast := g3 hs.length st (by rw [List.getElem?_append_right (Nat.le_refl _), Nat.sub_self]; rfl)
  have key := l_undo (d := d) (n := n) (F := F) (Q := Q) h1 (show hs.length ≤ 5 by omega) 124 0 (m_up I 166 6 (nI hs.length)) rfl m_up_at (fun W a1 a2 a3 => by
    have w6 : W 166 6 = nI hs.length := by rw [a2 166 (by omega), m_up_at]
    have key := l_undoF (d := d) (n := n) (I := W) (Q := Q) h1 (show hs.length ≤ 5 by omega) w6 16 0 F rfl (fun V b1 b2 b3 => by
      have o1 : ∀ x, x ≠ 167 → x ≠ 166 → W x = I x := fun x k1 k2 => by rw [a2 x k1, m_up_off k2]
      have o2 : ∀ k, k ≠ 6 → W 166 k = I 166 k := fun k hk => by rw [a2 166 (by omega), m_up_ne hk]
      have ch : ∀ k, k < pm → W 176 k = I 176 k ∧ W 177 k = I 177 k := fun k _ => by rw [o1 176 (by omega) (by omega), o1 177 (by omega) (by omega)]; exact ⟨rfl, rfl⟩
      have e171 : (m_up I 166 6 (nI hs.length)) 171 = I 171 := m_up_off (by omega)
      have key := hQ W V ⟨h1, ⟨fun k hk => by rw [a1 k (by omega) (by omega), e171]; exact hlast.1 k hk, fun g hg => by rw [b1 g (by omega) hg]; exact hlast.2.1 g hg⟩, by rw [a1 123 (by omega) (by omega), e171]; exact Mch_off hlast.2.2 (Nat.le_refl _) ch, by rw [o2 14 (by omega)]; exact h4, ⟨w6, by omega, fun j su hj => MR_cp (g3 j su (by
          have hj2 : j < hs.length := by
            rcases Nat.lt_or_ge j hs.length with c2 | c2
            · exact c2
            · rw [List.getElem?_eq_none c2] at hj; cases hj
          rw [List.getElem?_append_left hj2]; exact hj)) (Nat.le_refl _) (fun k _ => by rw [o1 171 (by omega) (by omega)]) (fun g _ => by rw [b2 172 (by omega)]) ch⟩, VM_sm h6 (Nat.le_refl _) (o2 9 (by omega)) (o1 173 (by omega) (by omega)) (b2 174 (by omega)) ch, PM_sm h7 (o2 11 (by omega)) (o1 175 (by omega) (by omega))⟩ (fun x hx => ⟨o1 x (by omega) (by omega), b2 x (by omega)⟩)
      simp (disch := omega) only [e164_88, e164_88N, e164_89, e164_92, true_or, m_psh_s, m_psh_n, m_kl_i, m_kl_f, m_kl_r, m_kl_n, m_kl_j, m_kl_l, m_kl_d, c_i, c_f, c_r, c_n, List.length_nil, List.length_cons, true_and, and_true, Nat.reduceAdd, Nat.reduceLeDiff, Nat.reduceSub, Nat.reduceEqDiff, Nat.reduceLT, ge_iff_le, gt_iff_lt, n_lit, m_in, m_nar0, m_nar1, and_self, not_false_eq_true, not_true_eq_false, ne_eq, reduceIte, ite_self, Nat.reduceMul, Nat.reduceDiv, Nat.reduceMod, Nat.reducePow, Nat.zero_add, Nat.add_zero, Nat.one_mul, Nat.mul_one, n_in, n_min, n_clamp, n_eq_t, n_eq_f, n_eq, n_le_t, n_le_f, n_le, n_lt_t, n_lt_f, n_lt, n_sub0, n_sublt, n_suble, n_negsub, m_up_hit, m_up_miss, m_row_hit, m_row_miss, n_eqm, n_meq, n_meqm, n_ltm, n_lem, n_mlt, n_mle, n_sub, n_div, n_and1, n_shl, n_shr, n_inc, n_mul, n_rem, z_lt, z_le, z_nlt, z_nle, Nat.not_lt_zero, Nat.le_zero_eq, Nat.zero_le, if_true, if_false, m0, w6]
      exact key)
    simp (disch := omega) only [e164_54, e164_55, true_or, m_psh_s, m_psh_n, m_kl_i, m_kl_f, m_kl_r, m_kl_n, m_kl_j, m_kl_l, m_kl_d, c_i, c_f, c_r, c_n, List.length_nil, List.length_cons, true_and, and_true, Nat.reduceAdd, Nat.reduceLeDiff, Nat.reduceSub, Nat.reduceEqDiff, Nat.reduceLT, ge_iff_le, gt_iff_lt, n_lit, m_in, m_nar0, m_nar1, and_self, not_false_eq_true, not_true_eq_false, ne_eq, reduceIte, ite_self, Nat.reduceMul, Nat.reduceDiv, Nat.reduceMod, Nat.reducePow, Nat.zero_add, Nat.add_zero, Nat.one_mul, Nat.mul_one, n_in, n_min, n_clamp, n_eq_t, n_eq_f, n_eq, n_le_t, n_le_f, n_le, n_lt_t, n_lt_f, n_lt, n_sub0, n_sublt, n_suble, n_negsub, m_up_hit, m_up_miss, m_row_hit, m_row_miss, n_eqm, n_meq, n_meqm, n_ltm, n_lem, n_mlt, n_mle, n_sub, n_div, n_and1, n_shl, n_shr, n_inc, n_mul, n_rem, z_lt, z_le, z_nlt, z_nle, Nat.not_lt_zero, Nat.le_zero_eq, Nat.zero_le, if_true, if_false]
    exact key)
  have e1 : hs.length + 1 - 1 = hs.length := by omega
  simp (disch := omega) only [e164_0, e164_0N, e164_1, e164_4, e164_7, e164_9, e164_10, e164_10N, e164_11, e164_12, e164_15, e164_16, e164_17, e164_20, e164_21, true_or, m_psh_s, m_psh_n, m_kl_i, m_kl_f, m_kl_r, m_kl_n, m_kl_j, m_kl_l, m_kl_d, c_i, c_f, c_r, c_n, List.length_nil, List.length_cons, true_and, and_true, Nat.reduceAdd, Nat.reduceLeDiff, Nat.reduceSub, Nat.reduceEqDiff, Nat.reduceLT, ge_iff_le, gt_iff_lt, n_lit, m_in, m_nar0, m_nar1, and_self, not_false_eq_true, not_true_eq_false, ne_eq, reduceIte, ite_self, Nat.reduceMul, Nat.reduceDiv, Nat.reduceMod, Nat.reducePow, Nat.zero_add, Nat.add_zero, Nat.one_mul, Nat.mul_one, n_in, n_min, n_clamp, n_eq_t, n_eq_f, n_eq, n_le_t, n_le_f, n_le, n_lt_t, n_lt_f, n_lt, n_sub0, n_sublt, n_suble, n_negsub, m_up_hit, m_up_miss, m_row_hit, m_row_miss, n_eqm, n_meq, n_meqm, n_ltm, n_lem, n_mlt, n_mle, n_sub, n_div, n_and1, n_shl, n_shr, n_inc, n_mul, n_rem, z_lt, z_le, z_nlt, z_nle, Nat.not_lt_zero, Nat.le_zero_eq, Nat.zero_le, if_true, if_false, m0, g1, Nat.add_sub_cancel]
  exact key
theorem m_save_n {x : Int32} (hx : x < nI 0 ∨ nI 2 ≤ x) (hd : 1 ≤ d) (hQ : Q (some (.int (-nI 2))) I F R n) : Ev lay d 165 0 [.ref 166, .int x, m_j] [] I F R n Q := by
  have ki : ∀ (Q : mP), _ := fun Q => r_in (lay := lay) (d := d - 1) (v := x) (lo := nI 0) (hi' := nI 1) (I := I) (F := F) (R := R) (n := n) (Q := Q)
  have c : ¬ (nI 0 ≤ x ∧ x ≤ nI 1) := by
    rcases n_g x with ⟨k, hk, rfl⟩ | hx'
    · rw [n_lt hk (by omega), n_le (by omega) hk] at hx
      rw [n_le (by omega) hk, n_le hk (by omega)]
      omega
    · intro z
      rw [n_g2 hx' (by omega)] at z
      exact z.1
  simp (disch := omega) only [e165_0, e165_1, e165_2, e165_3, e165_6, e165_9, e165_11, true_or, m_psh_s, m_psh_n, m_kl_i, m_kl_f, m_kl_r, m_kl_n, m_kl_j, m_kl_l, m_kl_d, c_i, c_f, c_r, c_n, List.length_nil, List.length_cons, true_and, and_true, Nat.reduceAdd, Nat.reduceLeDiff, Nat.reduceSub, Nat.reduceEqDiff, Nat.reduceLT, ge_iff_le, gt_iff_lt, n_lit, m_in, m_nar0, m_nar1, and_self, not_false_eq_true, not_true_eq_false, ne_eq, reduceIte, ite_self, Nat.reduceMul, Nat.reduceDiv, Nat.reduceMod, Nat.reducePow, Nat.zero_add, Nat.add_zero, Nat.one_mul, Nat.mul_one, n_in, n_min, n_clamp, n_eq_t, n_eq_f, n_eq, n_le_t, n_le_f, n_le, n_lt_t, n_lt_f, n_lt, n_sub0, n_sublt, n_suble, n_negsub, m_up_hit, m_up_miss, m_row_hit, m_row_miss, n_eqm, n_meq, n_meqm, n_ltm, n_lem, n_mlt, n_mle, n_sub, n_div, n_and1, n_shl, n_shr, n_inc, n_mul, n_rem, z_lt, z_le, z_nlt, z_nle, Nat.not_lt_zero, Nat.le_zero_eq, Nat.zero_le, if_true, if_false, ki, if_neg c]
  exact hQ
theorem m_save {s : Nat} (h : MX lay I F R S sp hi pm hs pl pc sv) (hs2 : s < 2) (hd : 1 ≤ d) (hQ : ∀ I' F', MX lay I' F' R S sp hi pm hs pl pc (q_sv sv s (S, sp, hi)) → FrR I F I' F' → Q (some (.int (nI (S 3)))) I' F' R n) : Ev lay d 165 0 [.ref 166, .int (nI s), m_j] [] I F R n Q := by
  obtain ⟨h1, h2, h3, h4, h5, h6, h7⟩ := h
  obtain ⟨K, k1, k2, k3⟩ := h6
  have m0 := h1.1
  have m7 : lay 167 = (0, 124) := h1.2.1
  have r0 : m_rv (R 166 0) = .ref 167 := by
    obtain ⟨hm0, hm1, hm2, hm3, hm4, hm5, hm6, hm7, hm8, hm9, hm10, hm11, hm12, hm13, hm14, hm15, hm16, hm17, hm18, hm19, hm20, hm21, hm22, hm23, hm24, hm25, hm26⟩ := h1
    assumption
  have ki : ∀ (Q : mP), _ := fun Q => r_in (lay := lay) (d := d - 1) (v := nI s) (lo := nI 0) (hi' := nI 1) (I := I) (F := F) (R := R) (n := n) (Q := Q)
  have c : nI 0 ≤ nI s ∧ nI s ≤ nI 1 := by
    rw [n_le (by omega) (by omega), n_le (by omega) (by omega)]
    omega
  rw [if_pos c] at ki
  have esh : nI 1 <<< (nI s &&& nI 31) = nI (2 ^ s) := by
    have h2 : (2 : Nat) ^ s ≤ 2 ^ 2 := Nat.pow_le_pow_right (by decide) (by omega)
    have := n_shl (x := 1) (k := s) (by omega) (by omega)
    rw [Nat.one_mul] at this
    exact this
  have key := l_save (d := d) (n := n) (F := F) (Q := Q) h1 hs2 124 0 I rfl (fun W a1 a2 a3 => by
    have key := l_saveF (d := d) (n := n) (I := W) (Q := Q) h1 hs2 16 0 F rfl (fun V b1 b2 b3 => by
      have w9 : W 166 9 = nI K := by rw [a2 166 (by omega)]; exact k2
      have w3 : W 167 3 = nI (S 3) := by rw [a2 167 (by omega)]; exact h2.1 3 (by omega)
      have o1 : ∀ x, x ≠ 173 → x ≠ 166 → (m_up W 166 9 (nI (K ||| 2 ^ s))) x = I x := fun x k1 k2 => by rw [m_up_off k2, a2 x k1]
      have o2 : ∀ k, k ≠ 9 → (m_up W 166 9 (nI (K ||| 2 ^ s))) 166 k = I 166 k := fun k hk => by rw [m_up_ne hk, a2 166 (by omega)]
      have o4 : (m_up W 166 9 (nI (K ||| 2 ^ s))) 173 = W 173 := m_up_off (by omega)
      have ch : ∀ k, k < pm → (m_up W 166 9 (nI (K ||| 2 ^ s))) 176 k = I 176 k ∧ (m_up W 166 9 (nI (K ||| 2 ^ s))) 177 k = I 177 k := fun k _ => by rw [o1 176 (by omega) (by omega), o1 177 (by omega) (by omega)]; exact ⟨rfl, rfl⟩
      have hK4 : K ||| 2 ^ s < 2 ^ 2 := Nat.or_lt_two_pow k1 (Nat.pow_lt_pow_right (by decide) hs2)
      have key := hQ (m_up W 166 9 (nI (K ||| 2 ^ s))) V ⟨h1, MS_off h2 (o1 167 (by omega) (by omega)) (b2 168 (by omega)), by rw [o1 167 (by omega) (by omega)]; exact Mch_off h3 (Nat.le_refl _) ch, by rw [o2 14 (by omega)]; exact h4, HM_sm h5 (Nat.le_refl _) (o2 6 (by omega)) (o1 171 (by omega) (by omega)) (b2 172 (by omega)) ch, ⟨K ||| 2 ^ s, hK4, m_up_at, fun k hk => by
          have e2 : (K ||| 2 ^ s) / 2 ^ k % 2 = if k = s then 1 else K / 2 ^ k % 2 := by
            rw [b_tb, Nat.testBit_or, Nat.testBit_two_pow, b_tb]
            by_cases e : k = s
            · subst e; simp
            · have e' : ¬ s = k := fun z => e z.symm
              simp [e, e']
          unfold q_sv
          by_cases e : k = s
          · subst e
            rw [e2, if_pos rfl, if_pos rfl]
            refine ⟨rfl, fun st hst => ?_⟩
            cases hst
            refine ⟨fun j hj => ?_, fun g hg => ?_, ?_⟩
            · rw [o4, a1 j (by omega) (by omega)]; exact h2.1 j hj
            · rw [b1 g (by omega) hg]; exact h2.2 g hg
            · rw [o4, a1 123 (by omega) (by omega)]; exact Mch_off h3 (Nat.le_refl _) ch
          · rw [e2, if_neg e, if_neg e]
            refine ⟨(k3 k hk).1, fun st hst => MR_cp ((k3 k hk).2 st hst) (Nat.le_refl _) (fun j hj => ?_) (fun g hg => ?_) ch⟩
            · rw [o4, a3 _ (by omega)]
            · rw [b3 _ (by omega)]⟩, PM_sm h7 (o2 11 (by omega)) (o1 175 (by omega) (by omega))⟩ (fun x hx => ⟨o1 x (by omega) (by omega), b2 x (by omega)⟩)
      simp (disch := omega) only [e165_74, e165_74N, e165_75, e165_76, e165_79, e165_80, e165_81, e165_82, e165_83, e165_86, e165_86N, e165_87, e165_90, e165_91, e165_92, true_or, m_psh_s, m_psh_n, m_kl_i, m_kl_f, m_kl_r, m_kl_n, m_kl_j, m_kl_l, m_kl_d, c_i, c_f, c_r, c_n, List.length_nil, List.length_cons, true_and, and_true, Nat.reduceAdd, Nat.reduceLeDiff, Nat.reduceSub, Nat.reduceEqDiff, Nat.reduceLT, ge_iff_le, gt_iff_lt, n_lit, m_in, m_nar0, m_nar1, and_self, not_false_eq_true, not_true_eq_false, ne_eq, reduceIte, ite_self, Nat.reduceMul, Nat.reduceDiv, Nat.reduceMod, Nat.reducePow, Nat.zero_add, Nat.add_zero, Nat.one_mul, Nat.mul_one, n_in, n_min, n_clamp, n_eq_t, n_eq_f, n_eq, n_le_t, n_le_f, n_le, n_lt_t, n_lt_f, n_lt, n_sub0, n_sublt, n_suble, n_negsub, m_up_hit, m_up_miss, m_row_hit, m_row_miss, n_eqm, n_meq, n_meqm, n_ltm, n_lem, n_mlt, n_mle, n_sub, n_div, n_and1, n_shl, n_shr, n_inc, n_mul, n_rem, z_lt, z_le, z_nlt, z_nle, Nat.not_lt_zero, Nat.le_zero_eq, Nat.zero_le, if_true, if_false, m0, m7, r0, w9, w3, esh, n_or]
      exact key)
    simp (disch := omega) only [e165_43, e165_44, true_or, m_psh_s, m_psh_n, m_kl_i, m_kl_f, m_kl_r, m_kl_n, m_kl_j, m_kl_l, m_kl_d, c_i, c_f, c_r, c_n, List.length_nil, List.length_cons, true_and, and_true, Nat.reduceAdd, Nat.reduceLeDiff, Nat.reduceSub, Nat.reduceEqDiff, Nat.reduceLT, ge_iff_le, gt_iff_lt, n_lit, m_in, m_nar0, m_nar1, and_self, not_false_eq_true, not_true_eq_false, ne_eq, reduceIte, ite_self, Nat.reduceMul, Nat.reduceDiv, Nat.reduceMod, Nat.reducePow, Nat.zero_add, Nat.add_zero, Nat.one_mul, Nat.mul_one, n_in, n_min, n_clamp, n_eq_t, n_eq_f, n_eq, n_le_t, n_le_f, n_le, n_lt_t, n_lt_f, n_lt, n_sub0, n_sublt, n_suble, n_negsub, m_up_hit, m_up_miss, m_row_hit, m_row_miss, n_eqm, n_meq, n_meqm, n_ltm, n_lem, n_mlt, n_mle, n_sub, n_div, n_and1, n_shl, n_shr, n_inc, n_mul, n_rem, z_lt, z_le, z_nlt, z_nle, Nat.not_lt_zero, Nat.le_zero_eq, Nat.zero_le, if_true, if_false]
    exact key)
  simp (disch := omega) only [e165_0, e165_1, e165_2, e165_3, e165_6, e165_9, e165_11, e165_12, e165_13, true_or, m_psh_s, m_psh_n, m_kl_i, m_kl_f, m_kl_r, m_kl_n, m_kl_j, m_kl_l, m_kl_d, c_i, c_f, c_r, c_n, List.length_nil, List.length_cons, true_and, and_true, Nat.reduceAdd, Nat.reduceLeDiff, Nat.reduceSub, Nat.reduceEqDiff, Nat.reduceLT, ge_iff_le, gt_iff_lt, n_lit, m_in, m_nar0, m_nar1, and_self, not_false_eq_true, not_true_eq_false, ne_eq, reduceIte, ite_self, Nat.reduceMul, Nat.reduceDiv, Nat.reduceMod, Nat.reducePow, Nat.zero_add, Nat.add_zero, Nat.one_mul, Nat.mul_one, n_in, n_min, n_clamp, n_eq_t, n_eq_f, n_eq, n_le_t, n_le_f, n_le, n_lt_t, n_lt_f, n_lt, n_sub0, n_sublt, n_suble, n_negsub, m_up_hit, m_up_miss, m_row_hit, m_row_miss, n_eqm, n_meq, n_meqm, n_ltm, n_lem, n_mlt, n_mle, n_sub, n_div, n_and1, n_shl, n_shr, n_inc, n_mul, n_rem, z_lt, z_le, z_nlt, z_nle, Nat.not_lt_zero, Nat.le_zero_eq, Nat.zero_le, if_true, if_false, ki]
  exact key
theorem m_restore_n {x : Int32} (hx : x < nI 0 ∨ nI 2 ≤ x) (hd : 1 ≤ d) (hQ : Q (some (.int (-nI 2))) I F R n) : Ev lay d 166 0 [.ref 166, .int x, m_j] [] I F R n Q := by
  have ki : ∀ (Q : mP), _ := fun Q => r_in (lay := lay) (d := d - 1) (v := x) (lo := nI 0) (hi' := nI 1) (I := I) (F := F) (R := R) (n := n) (Q := Q)
  have c : ¬ (nI 0 ≤ x ∧ x ≤ nI 1) := by
    rcases n_g x with ⟨k, hk, rfl⟩ | hx'
    · rw [n_lt hk (by omega), n_le (by omega) hk] at hx
      rw [n_le (by omega) hk, n_le hk (by omega)]
      omega
    · intro z
      rw [n_g2 hx' (by omega)] at z
      exact z.1
  simp (disch := omega) only [e166_0, e166_1, e166_2, e166_3, e166_6, e166_9, e166_11, true_or, m_psh_s, m_psh_n, m_kl_i, m_kl_f, m_kl_r, m_kl_n, m_kl_j, m_kl_l, m_kl_d, c_i, c_f, c_r, c_n, List.length_nil, List.length_cons, true_and, and_true, Nat.reduceAdd, Nat.reduceLeDiff, Nat.reduceSub, Nat.reduceEqDiff, Nat.reduceLT, ge_iff_le, gt_iff_lt, n_lit, m_in, m_nar0, m_nar1, and_self, not_false_eq_true, not_true_eq_false, ne_eq, reduceIte, ite_self, Nat.reduceMul, Nat.reduceDiv, Nat.reduceMod, Nat.reducePow, Nat.zero_add, Nat.add_zero, Nat.one_mul, Nat.mul_one, n_in, n_min, n_clamp, n_eq_t, n_eq_f, n_eq, n_le_t, n_le_f, n_le, n_lt_t, n_lt_f, n_lt, n_sub0, n_sublt, n_suble, n_negsub, m_up_hit, m_up_miss, m_row_hit, m_row_miss, n_eqm, n_meq, n_meqm, n_ltm, n_lem, n_mlt, n_mle, n_sub, n_div, n_and1, n_shl, n_shr, n_inc, n_mul, n_rem, z_lt, z_le, z_nlt, z_nle, Nat.not_lt_zero, Nat.le_zero_eq, Nat.zero_le, if_true, if_false, ki, if_neg c]
  exact hQ
theorem m_restore0 {s : Nat} (h : MX lay I F R S sp hi pm hs pl pc sv) (hs2 : s < 2) (hn : sv s = none) (hd : 1 ≤ d) (hQ : Q (some (.int (-nI 5))) I F R n) : Ev lay d 166 0 [.ref 166, .int (nI s), m_j] [] I F R n Q := by
  obtain ⟨K, k1, k2, k3⟩ := h.2.2.2.2.2.1
  have m0 := h.1.1
  have ki : ∀ (Q : mP), _ := fun Q => r_in (lay := lay) (d := d - 1) (v := nI s) (lo := nI 0) (hi' := nI 1) (I := I) (F := F) (R := R) (n := n) (Q := Q)
  have c : nI 0 ≤ nI s ∧ nI s ≤ nI 1 := by
    rw [n_le (by omega) (by omega), n_le (by omega) (by omega)]
    omega
  rw [if_pos c] at ki
  have kb := (k3 s hs2).1
  rw [hn] at kb
  have kb' : K / 2 ^ s % 2 = 0 := kb
  simp (disch := omega) only [e166_0, e166_1, e166_2, e166_3, e166_6, e166_9, e166_11, e166_12, e166_12N, e166_13, e166_16, e166_17, e166_18, e166_19, e166_20, e166_23, e166_25, true_or, m_psh_s, m_psh_n, m_kl_i, m_kl_f, m_kl_r, m_kl_n, m_kl_j, m_kl_l, m_kl_d, c_i, c_f, c_r, c_n, List.length_nil, List.length_cons, true_and, and_true, Nat.reduceAdd, Nat.reduceLeDiff, Nat.reduceSub, Nat.reduceEqDiff, Nat.reduceLT, ge_iff_le, gt_iff_lt, n_lit, m_in, m_nar0, m_nar1, and_self, not_false_eq_true, not_true_eq_false, ne_eq, reduceIte, ite_self, Nat.reduceMul, Nat.reduceDiv, Nat.reduceMod, Nat.reducePow, Nat.zero_add, Nat.add_zero, Nat.one_mul, Nat.mul_one, n_in, n_min, n_clamp, n_eq_t, n_eq_f, n_eq, n_le_t, n_le_f, n_le, n_lt_t, n_lt_f, n_lt, n_sub0, n_sublt, n_suble, n_negsub, m_up_hit, m_up_miss, m_row_hit, m_row_miss, n_eqm, n_meq, n_meqm, n_ltm, n_lem, n_mlt, n_mle, n_sub, n_div, n_and1, n_shl, n_shr, n_inc, n_mul, n_rem, z_lt, z_le, z_nlt, z_nle, Nat.not_lt_zero, Nat.le_zero_eq, Nat.zero_le, if_true, if_false, ki, m0, k2, kb']
  exact hQ
theorem m_restore1 {s : Nat} {st : St} (h : MX lay I F R S sp hi pm hs pl pc sv) (hs2 : s < 2) (hst : sv s = some st) (hd : 1 ≤ d) (hQ : ∀ I' F', MX lay I' F' R st.1 st.2.1 st.2.2 pm (q_rec hs (S, sp, hi)) pl pc sv → FrR I F I' F' → Q (some (.int (nI (st.1 3)))) I' F' R n) : Ev lay d 166 0 [.ref 166, .int (nI s), m_j] [] I F R n Q := by
  have m0 := h.1.1
  have m7 : lay 167 = (0, 124) := h.1.2.1
  have r0 : m_rv (R 166 0) = .ref 167 := by
    have h1 := h.1
    obtain ⟨hm0, hm1, hm2, hm3, hm4, hm5, hm6, hm7, hm8, hm9, hm10, hm11, hm12, hm13, hm14, hm15, hm16, hm17, hm18, hm19, hm20, hm21, hm22, hm23, hm24, hm25, hm26⟩ := h1
    assumption
  have ki : ∀ (Q : mP), _ := fun Q => r_in (lay := lay) (d := d - 1) (v := nI s) (lo := nI 0) (hi' := nI 1) (I := I) (F := F) (R := R) (n := n) (Q := Q)
  have c : nI 0 ≤ nI s ∧ nI s ≤ nI 1 := by
    rw [n_le (by omega) (by omega), n_le (by omega) (by omega)]
    omega
  rw [if_pos c] at ki
  obtain ⟨K, k1, k2, k3⟩ := h.2.2.2.2.2.1
  have kb := (k3 s hs2).1
  rw [hst] at kb
  have kb' : K / 2 ^ s % 2 = 1 := kb
  have kp : ∀ (Q : mP), _ → _ := fun Q hQ => r_putAside (d := d - 1) (n := n) (Q := Q) h hQ
  simp (disch := omega) only [e166_0, e166_1, e166_2, e166_3, e166_6, e166_9, e166_11, e166_12, e166_12N, e166_13, e166_16, e166_17, e166_18, e166_19, e166_20, e166_23, e166_25, e166_26, e166_26N, e166_27, true_or, m_psh_s, m_psh_n, m_kl_i, m_kl_f, m_kl_r, m_kl_n, m_kl_j, m_kl_l, m_kl_d, c_i, c_f, c_r, c_n, List.length_nil, List.length_cons, true_and, and_true, Nat.reduceAdd, Nat.reduceLeDiff, Nat.reduceSub, Nat.reduceEqDiff, Nat.reduceLT, ge_iff_le, gt_iff_lt, n_lit, m_in, m_nar0, m_nar1, and_self, not_false_eq_true, not_true_eq_false, ne_eq, reduceIte, ite_self, Nat.reduceMul, Nat.reduceDiv, Nat.reduceMod, Nat.reducePow, Nat.zero_add, Nat.add_zero, Nat.one_mul, Nat.mul_one, n_in, n_min, n_clamp, n_eq_t, n_eq_f, n_eq, n_le_t, n_le_f, n_le, n_lt_t, n_lt_f, n_lt, n_sub0, n_sublt, n_suble, n_negsub, m_up_hit, m_up_miss, m_row_hit, m_row_miss, n_eqm, n_meq, n_meqm, n_ltm, n_lem, n_mlt, n_mle, n_sub, n_div, n_and1, n_shl, n_shr, n_inc, n_mul, n_rem, z_lt, z_le, z_nlt, z_nle, Nat.not_lt_zero, Nat.le_zero_eq, Nat.zero_le, if_true, if_false, ki, m0, k2, kb']
  apply kp
  intro I1 F1 h1 a1 f1
  have kr : ∀ (Q : mP), _ → _ := fun Q hQ => r_record (d := d - 1) (n := n) (Q := Q) h1 a1 hQ
  simp (disch := omega) only [e166_30, e166_30N, e166_31, true_or, m_psh_s, m_psh_n, m_kl_i, m_kl_f, m_kl_r, m_kl_n, m_kl_j, m_kl_l, m_kl_d, c_i, c_f, c_r, c_n, List.length_nil, List.length_cons, true_and, and_true, Nat.reduceAdd, Nat.reduceLeDiff, Nat.reduceSub, Nat.reduceEqDiff, Nat.reduceLT, ge_iff_le, gt_iff_lt, n_lit, m_in, m_nar0, m_nar1, and_self, not_false_eq_true, not_true_eq_false, ne_eq, reduceIte, ite_self, Nat.reduceMul, Nat.reduceDiv, Nat.reduceMod, Nat.reducePow, Nat.zero_add, Nat.add_zero, Nat.one_mul, Nat.mul_one, n_in, n_min, n_clamp, n_eq_t, n_eq_f, n_eq, n_le_t, n_le_f, n_le, n_lt_t, n_lt_f, n_lt, n_sub0, n_sublt, n_suble, n_negsub, m_up_hit, m_up_miss, m_row_hit, m_row_miss, n_eqm, n_meq, n_meqm, n_ltm, n_lem, n_mlt, n_mle, n_sub, n_div, n_and1, n_shl, n_shr, n_inc, n_mul, n_rem, z_lt, z_le, z_nlt, z_nle, Nat.not_lt_zero, Nat.le_zero_eq, Nat.zero_le, if_true, if_false, m0]
  apply kr
  intro I2 F2 h2 f2
  obtain ⟨u1, u2, u3, u4, u5, u6, u7⟩ := h2
  have u6' := u6
  obtain ⟨K2, q1, q2, q3⟩ := u6
  have hm := (q3 s hs2).2 st hst
  have key := l_rest (d := d) (n := n) (F := F2) (Q := Q) u1 hs2 124 0 I2 rfl (fun W a1 a2 a3 => by
    have key := l_restF (d := d) (n := n) (I := W) (Q := Q) u1 hs2 16 0 F2 rfl (fun V b1 b2 b3 => by
      have ch : ∀ k, k < pm → W 176 k = I2 176 k ∧ W 177 k = I2 177 k := fun k _ => by rw [a2 176 (by omega), a2 177 (by omega)]; exact ⟨rfl, rfl⟩
      have w3 : W 167 3 = nI (st.1 3) := by rw [a1 3 (by omega) (by omega)]; exact hm.1 3 (by omega)
      have key := hQ W V ⟨u1, ⟨fun k hk => by rw [a1 k (by omega) (by omega)]; exact hm.1 k hk, fun g hg => by rw [b1 g (by omega) hg]; exact hm.2.1 g hg⟩, by rw [a1 123 (by omega) (by omega)]; exact Mch_off hm.2.2 (Nat.le_refl _) ch, by rw [a2 166 (by omega)]; exact u4, HM_sm u5 (Nat.le_refl _) (by rw [a2 166 (by omega)]) (a2 171 (by omega)) (b2 172 (by omega)) ch, VM_sm u6' (Nat.le_refl _) (by rw [a2 166 (by omega)]) (a2 173 (by omega)) (b2 174 (by omega)) ch, PM_sm u7 (by rw [a2 166 (by omega)]) (a2 175 (by omega))⟩ (FrR_trans f1 (FrR_trans f2 fun x hx => ⟨a2 x (by omega), b2 x (by omega)⟩))
      simp (disch := omega) only [e166_96, e166_96N, e166_97, e166_100, e166_101, e166_102, true_or, m_psh_s, m_psh_n, m_kl_i, m_kl_f, m_kl_r, m_kl_n, m_kl_j, m_kl_l, m_kl_d, c_i, c_f, c_r, c_n, List.length_nil, List.length_cons, true_and, and_true, Nat.reduceAdd, Nat.reduceLeDiff, Nat.reduceSub, Nat.reduceEqDiff, Nat.reduceLT, ge_iff_le, gt_iff_lt, n_lit, m_in, m_nar0, m_nar1, and_self, not_false_eq_true, not_true_eq_false, ne_eq, reduceIte, ite_self, Nat.reduceMul, Nat.reduceDiv, Nat.reduceMod, Nat.reducePow, Nat.zero_add, Nat.add_zero, Nat.one_mul, Nat.mul_one, n_in, n_min, n_clamp, n_eq_t, n_eq_f, n_eq, n_le_t, n_le_f, n_le, n_lt_t, n_lt_f, n_lt, n_sub0, n_sublt, n_suble, n_negsub, m_up_hit, m_up_miss, m_row_hit, m_row_miss, n_eqm, n_meq, n_meqm, n_ltm, n_lem, n_mlt, n_mle, n_sub, n_div, n_and1, n_shl, n_shr, n_inc, n_mul, n_rem, z_lt, z_le, z_nlt, z_nle, Nat.not_lt_zero, Nat.le_zero_eq, Nat.zero_le, if_true, if_false, m0, m7, r0, w3]
      exact key)
    simp (disch := omega) only [e166_65, e166_66, true_or, m_psh_s, m_psh_n, m_kl_i, m_kl_f, m_kl_r, m_kl_n, m_kl_j, m_kl_l, m_kl_d, c_i, c_f, c_r, c_n, List.length_nil, List.length_cons, true_and, and_true, Nat.reduceAdd, Nat.reduceLeDiff, Nat.reduceSub, Nat.reduceEqDiff, Nat.reduceLT, ge_iff_le, gt_iff_lt, n_lit, m_in, m_nar0, m_nar1, and_self, not_false_eq_true, not_true_eq_false, ne_eq, reduceIte, ite_self, Nat.reduceMul, Nat.reduceDiv, Nat.reduceMod, Nat.reducePow, Nat.zero_add, Nat.add_zero, Nat.one_mul, Nat.mul_one, n_in, n_min, n_clamp, n_eq_t, n_eq_f, n_eq, n_le_t, n_le_f, n_le, n_lt_t, n_lt_f, n_lt, n_sub0, n_sublt, n_suble, n_negsub, m_up_hit, m_up_miss, m_row_hit, m_row_miss, n_eqm, n_meq, n_meqm, n_ltm, n_lem, n_mlt, n_mle, n_sub, n_div, n_and1, n_shl, n_shr, n_inc, n_mul, n_rem, z_lt, z_le, z_nlt, z_nle, Nat.not_lt_zero, Nat.le_zero_eq, Nat.zero_le, if_true, if_false]
    exact key)
  simp (disch := omega) only [e166_34, e166_35, true_or, m_psh_s, m_psh_n, m_kl_i, m_kl_f, m_kl_r, m_kl_n, m_kl_j, m_kl_l, m_kl_d, c_i, c_f, c_r, c_n, List.length_nil, List.length_cons, true_and, and_true, Nat.reduceAdd, Nat.reduceLeDiff, Nat.reduceSub, Nat.reduceEqDiff, Nat.reduceLT, ge_iff_le, gt_iff_lt, n_lit, m_in, m_nar0, m_nar1, and_self, not_false_eq_true, not_true_eq_false, ne_eq, reduceIte, ite_self, Nat.reduceMul, Nat.reduceDiv, Nat.reduceMod, Nat.reducePow, Nat.zero_add, Nat.add_zero, Nat.one_mul, Nat.mul_one, n_in, n_min, n_clamp, n_eq_t, n_eq_f, n_eq, n_le_t, n_le_f, n_le, n_lt_t, n_lt_f, n_lt, n_sub0, n_sublt, n_suble, n_negsub, m_up_hit, m_up_miss, m_row_hit, m_row_miss, n_eqm, n_meq, n_meqm, n_ltm, n_lem, n_mlt, n_mle, n_sub, n_div, n_and1, n_shl, n_shr, n_inc, n_mul, n_rem, z_lt, z_le, z_nlt, z_nle, Nat.not_lt_zero, Nat.le_zero_eq, Nat.zero_le, if_true, if_false]
  exact key
end MUND
