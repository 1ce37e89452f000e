section MSHORT
variable {lay : mL} {d a n n' : Nat} {I I' : mI} {F F' : mF} {R R' : mR} {Q : mP} {S : Nat → Nat} {sp : Nat → UInt32} {hi : List Nat} {pm pm' pl : Nat} {hs : List St} {pc : Nat → Nat} {sv : Nat → Option St}
/-- the members of a basket -/
def q_pm (S : Nat → Nat) (b : Nat) : Nat → Nat := fun i => q_pos S (q_mem b i)
theorem r_mem0 {b : Nat} {v4 v5 v6 : Value} (hl : ML lay R) (hb : b < 65536) (h6 : q_on b 16 ≤ 6) (j : Nat) : ∀ (k : Nat) (I : mI), k + j = 16 → (∀ g, g < k → b / 2 ^ g % 2 = 1 → I 179 (q_on b g) = nI g) → (∀ I', (∀ g, g < 16 → b / 2 ^ g % 2 = 1 → I' 179 (q_on b g) = nI g) → (∀ x, x ≠ 179 → I' x = I x) → Ev lay d 147 35 [.ref 166, .int (nI b), .int (nI (q_on b 16)), .int (nI 16), v4, v5, v6] [] I' F R n Q) → Ev lay d 147 4 [.ref 166, .int (nI b), .int (nI (q_on b k)), .int (nI k), v4, v5, v6] [] I F R n Q := by
  have hl' := hl
  obtain ⟨hm0, hm1, hm2, hm3, hm4, hm5, hm6, hm7, hm8, hm9, hm10, hm11, hm12, hm13, hm14, hm15, hm16, hm17, hm18, hm19, hm20, hm21, hm22, hm23, hm24, hm25, hm26⟩ := hl
  induction j with
  | zero =>
    intro k I hk h hQ
    have hk2 : k = 16 := by omega
    subst hk2
    have key := hQ I h (fun _ _ => rfl)
    rw [e147_4]
    simp (disch := omega) only [e147_5, e147_7, e147_10, e147_11, e147_12, e147_13, e147_14, e147_15, e147_16, e147_19, e147_19N, e147_20, e147_23, e147_24, e147_25, e147_26, e147_29, e147_32, true_or, m_psh_s, m_psh_n, m_kl_i, m_kl_f, m_kl_r, m_kl_n, m_kl_j, m_kl_l, m_kl_d, c_i, c_f, c_r, c_n, List.length_nil, List.length_cons, true_and, and_true, Nat.reduceAdd, Nat.reduceLeDiff, Nat.reduceSub, Nat.reduceEqDiff, Nat.reduceLT, ge_iff_le, gt_iff_lt, n_lit, m_in, m_nar0, m_nar1, and_self, not_false_eq_true, not_true_eq_false, ne_eq, reduceIte, ite_self, Nat.reduceMul, Nat.reduceDiv, Nat.reduceMod, Nat.reducePow, Nat.zero_add, Nat.add_zero, Nat.one_mul, Nat.mul_one, n_in, n_min, n_clamp, n_eq_t, n_eq_f, n_eq, n_le_t, n_le_f, n_le, n_lt_t, n_lt_f, n_lt, n_sub0, n_sublt, n_suble, n_negsub, m_up_hit, m_up_miss, m_row_hit, m_row_miss, n_eqm, n_meq, n_meqm, n_ltm, n_lem, n_mlt, n_mle, n_sub, n_div, n_and1, n_shl, n_shr, n_inc, n_mul, n_rem, z_lt, z_le, z_nlt, z_nle, Nat.not_lt_zero, Nat.le_zero_eq, Nat.zero_le, if_true, if_false]
    exact key
  | succ j ih =>
    intro k I hk h hQ
    have hk1 : q_on b (k + 1) ≤ q_on b 16 := q_on_mono (by omega)
    rw [q_on_s] at hk1
    rw [e147_4]
    rcases Nat.mod_two_eq_zero_or_one (b / 2 ^ k) with hbit | hbit
    · have key := ih (k + 1) I (by omega) (fun g hg hgb => by
        by_cases e : g = k
        · subst e; omega
        · exact h g (by omega) hgb) hQ
      rw [q_on_s b k, hbit] at key
      simp (disch := omega) only [e147_5, e147_7, e147_10, e147_11, e147_12, e147_13, e147_14, e147_15, e147_16, e147_19, e147_19N, e147_20, e147_23, e147_24, e147_25, e147_26, e147_29, e147_32, true_or, m_psh_s, m_psh_n, m_kl_i, m_kl_f, m_kl_r, m_kl_n, m_kl_j, m_kl_l, m_kl_d, c_i, c_f, c_r, c_n, List.length_nil, List.length_cons, true_and, and_true, Nat.reduceAdd, Nat.reduceLeDiff, Nat.reduceSub, Nat.reduceEqDiff, Nat.reduceLT, ge_iff_le, gt_iff_lt, n_lit, m_in, m_nar0, m_nar1, and_self, not_false_eq_true, not_true_eq_false, ne_eq, reduceIte, ite_self, Nat.reduceMul, Nat.reduceDiv, Nat.reduceMod, Nat.reducePow, Nat.zero_add, Nat.add_zero, Nat.one_mul, Nat.mul_one, n_in, n_min, n_clamp, n_eq_t, n_eq_f, n_eq, n_le_t, n_le_f, n_le, n_lt_t, n_lt_f, n_lt, n_sub0, n_sublt, n_suble, n_negsub, m_up_hit, m_up_miss, m_row_hit, m_row_miss, n_eqm, n_meq, n_meqm, n_ltm, n_lem, n_mlt, n_mle, n_sub, n_div, n_and1, n_shl, n_shr, n_inc, n_mul, n_rem, z_lt, z_le, z_nlt, z_nle, Nat.not_lt_zero, Nat.le_zero_eq, Nat.zero_le, if_true, if_false, hbit]
      exact key
    · have key := ih (k + 1) (m_up I 179 (q_on b k) (nI k)) (by omega) (fun g hg hgb => by
        by_cases e : g = k
        · subst e; rw [m_up_at]
        · have := q_on_lt (k := k) (show g < k by omega) hgb
          rw [m_up_miss (by omega)]
          exact h g (by omega) hgb) (fun I' t1 t2 => hQ I' t1 (fun x hx => by rw [t2 x hx, m_up_off hx]))
      rw [q_on_s b k, hbit] at key
      simp (disch := omega) only [e147_5, e147_7, e147_10, e147_11, e147_12, e147_13, e147_14, e147_15, e147_16, e147_19, e147_19N, e147_20, e147_23, e147_24, e147_25, e147_26, e147_29, e147_32, true_or, m_psh_s, m_psh_n, m_kl_i, m_kl_f, m_kl_r, m_kl_n, m_kl_j, m_kl_l, m_kl_d, c_i, c_f, c_r, c_n, List.length_nil, List.length_cons, true_and, and_true, Nat.reduceAdd, Nat.reduceLeDiff, Nat.reduceSub, Nat.reduceEqDiff, Nat.reduceLT, ge_iff_le, gt_iff_lt, n_lit, m_in, m_nar0, m_nar1, and_self, not_false_eq_true, not_true_eq_false, ne_eq, reduceIte, ite_self, Nat.reduceMul, Nat.reduceDiv, Nat.reduceMod, Nat.reducePow, Nat.zero_add, Nat.add_zero, Nat.one_mul, Nat.mul_one, n_in, n_min, n_clamp, n_eq_t, n_eq_f, n_eq, n_le_t, n_le_f, n_le, n_lt_t, n_lt_f, n_lt, n_sub0, n_sublt, n_suble, n_negsub, m_up_hit, m_up_miss, m_row_hit, m_row_miss, n_eqm, n_meq, n_meqm, n_ltm, n_lem, n_mlt, n_mle, n_sub, n_div, n_and1, n_shl, n_shr, n_inc, n_mul, n_rem, z_lt, z_le, z_nlt, z_nle, Nat.not_lt_zero, Nat.le_zero_eq, Nat.zero_le, if_true, if_false, hm0, hm1, hm2, hm3, hm4, hm5, hm6, hm7, hm8, hm9, hm10, hm11, hm12, hm13, hm14, hm15, hm16, hm17, hm18, hm19, hm20, hm21, hm22, hm23, hm24, hm25, hm26, hbit]
      exact key
/-- the table of ways below a set -/
def WT (S : Nat → Nat) (b m : Nat) (I : mI) (s : Nat) : Prop := ∀ r, 0 < r → r < s → ∀ k, k < m → r / 2 ^ k % 2 = 1 → I 178 (6 * r + k) = nI (q_val (S 2) (q_pm S b) r k)
def MB (b m : Nat) (I : mI) : Prop := ∀ i, i < m → I 179 i = nI (q_mem b i)
theorem q_val_le {c r k : Nat} {pos : Nat → Nat} (hc : c ≤ 9) : q_val c pos r k ≤ 124 := by
  have := T_le62 (pos := pos) (s := r) hc
  unfold q_val
  omega
theorem r_way0 {b m r l : Nat} {v1 : Value} (hl : ML lay R) (h : MS I F S sp) (w : Wsh S) (hc9 : S 2 ≤ 9) (hm : m = q_on b 16) (hm6 : m ≤ 6) (hg : ∀ g, g < 16 → b / 2 ^ g % 2 = 1 → g < S 3) (hB : MB b m I) (hr : r < 2 ^ m) (hW : r ≠ 0 → ∀ k, k < m → r / 2 ^ k % 2 = 1 → I 178 (6 * r + k) = nI (q_val (S 2) (q_pm S b) r k)) (hlm : l < m) (hd : 2 ≤ d) {v0 : Nat} (hv0 : v0 ≤ 1000000) (hQ : ∀ v, q_inv (fun k => q_cand (S 2) (q_pm S b) r k l) v0 r m v → Q (some (.int (nI v))) I F R n) (j : Nat) : ∀ (k v : Nat) (v8 : Value), k + j = m → v ≤ 1000000 → q_inv (fun k => q_cand (S 2) (q_pm S b) r k l) v0 r k v → Ev lay d 148 40 [.ref 166, v1, .int (nI l), .int (nI m), .int (nI r), .int (nI (q_pm S b l)), .int (nI v), .int (nI k), v8] [] I F R n Q := by
  have hl' := hl
  have w1 := w.1
  have h64 : 2 ^ m ≤ 2 ^ 6 := Nat.pow_le_pow_right (by decide) hm6
  have r64 : r < 64 := by omega
  have memk : ∀ i, i < m → q_mem b i < 16 ∧ q_mem b i < S 3 ∧ q_pm S b i < 30 := fun i hi => by
    rw [hm] at hi
    obtain ⟨a1, a2, a3⟩ := mem_ok hi
    have := hg _ a1 a2
    exact ⟨a1, this, w.2.1 _ this⟩
  have hpl := (memk l hlm).2.2
  induction j with
  | zero =>
    intro k v v8 hk hv hi
    have hk2 : k = m := by omega
    subst hk2
    have key := hQ v hi
    rw [e148_40]
    simp (disch := omega) only [e148_42, e148_43, e148_112, e148_114, true_or, m_psh_s, m_psh_n, m_kl_i, m_kl_f, m_kl_r, m_kl_n, m_kl_j, m_kl_l, m_kl_d, c_i, c_f, c_r, c_n, List.length_nil, List.length_cons, true_and, and_true, Nat.reduceAdd, Nat.reduceLeDiff, Nat.reduceSub, Nat.reduceEqDiff, Nat.reduceLT, ge_iff_le, gt_iff_lt, n_lit, m_in, m_nar0, m_nar1, and_self, not_false_eq_true, not_true_eq_false, ne_eq, reduceIte, ite_self, Nat.reduceMul, Nat.reduceDiv, Nat.reduceMod, Nat.reducePow, Nat.zero_add, Nat.add_zero, Nat.one_mul, Nat.mul_one, n_in, n_min, n_clamp, n_eq_t, n_eq_f, n_eq, n_le_t, n_le_f, n_le, n_lt_t, n_lt_f, n_lt, n_sub0, n_sublt, n_suble, n_negsub, m_up_hit, m_up_miss, m_row_hit, m_row_miss, n_eqm, n_meq, n_meqm, n_ltm, n_lem, n_mlt, n_mle, n_sub, n_div, n_and1, n_shl, n_shr, n_inc, n_mul, n_rem, z_lt, z_le, z_nlt, z_nle, Nat.not_lt_zero, Nat.le_zero_eq, Nat.zero_le, if_true, if_false]
    exact key
  | succ j ih =>
    intro k v v8 hk hv hi
    rw [e148_40]
    rcases Nat.mod_two_eq_zero_or_one (r / 2 ^ k) with hbit | hbit
    · have key := ih (k + 1) v v8 (by omega) hv ⟨fun i a1 a2 => by
        by_cases e : i = k
        · subst e; omega
        · exact hi.1 i (by omega) a2, by
        rcases hi.2 with ⟨q1, q2⟩ | ⟨i, q1, q2⟩
        · exact Or.inl ⟨q1, fun i a1 a2 => by
            by_cases e : i = k
            · subst e; omega
            · exact q2 i (by omega) a2⟩
        · exact Or.inr ⟨i, by omega, q2⟩⟩
      simp (disch := omega) only [e148_42, e148_43, e148_46, e148_48, e148_50, e148_51, e148_52, e148_53, e148_54, e148_106, e148_109, true_or, m_psh_s, m_psh_n, m_kl_i, m_kl_f, m_kl_r, m_kl_n, m_kl_j, m_kl_l, m_kl_d, c_i, c_f, c_r, c_n, List.length_nil, List.length_cons, true_and, and_true, Nat.reduceAdd, Nat.reduceLeDiff, Nat.reduceSub, Nat.reduceEqDiff, Nat.reduceLT, ge_iff_le, gt_iff_lt, n_lit, m_in, m_nar0, m_nar1, and_self, not_false_eq_true, not_true_eq_false, ne_eq, reduceIte, ite_self, Nat.reduceMul, Nat.reduceDiv, Nat.reduceMod, Nat.reducePow, Nat.zero_add, Nat.add_zero, Nat.one_mul, Nat.mul_one, n_in, n_min, n_clamp, n_eq_t, n_eq_f, n_eq, n_le_t, n_le_f, n_le, n_lt_t, n_lt_f, n_lt, n_sub0, n_sublt, n_suble, n_negsub, m_up_hit, m_up_miss, m_row_hit, m_row_miss, n_eqm, n_meq, n_meqm, n_ltm, n_lem, n_mlt, n_mle, n_sub, n_div, n_and1, n_shl, n_shr, n_inc, n_mul, n_rem, z_lt, z_le, z_nlt, z_nle, Nat.not_lt_zero, Nat.le_zero_eq, Nat.zero_le, if_true, if_false, hbit]
      exact key
    · have r0 : r ≠ 0 := fun e => by rw [e, Nat.zero_div] at hbit; exact absurd hbit (by decide)
      have hw := hW r0 k (by omega) hbit
      have hmk := hB k (by omega)
      obtain ⟨a1, a2, a3⟩ := memk k (by omega)
      have hvl := q_val_le (r := r) (k := k) (pos := q_pm S b) hc9
      have hst := q_stp_lt hc9 a3 hpl
      have ks : ∀ (Q : mP), _ := fun Q => r_slotOf (g := q_mem b k) (d := d - 1) (n := n) (Q := Q) hl' h a1 (by omega)
      have ks' : ∀ (Q : mP), Ev lay (d - 1) 108 0 [.ref 166, .int (nI (q_mem b k))] [] I F R n Q ↔ Q (some (.int (nI (q_pm S b k)))) I F R n := ks
      have kt : ∀ (Q : mP), _ := fun Q => r_stepsOf (d := d - 1) (n := n) (Q := Q) hl' h a3 hpl
      have ec : q_val (S 2) (q_pm S b) r k + q_stp (S 2) (q_pm S b k) (q_pm S b l) = q_cand (S 2) (q_pm S b) r k l := rfl
      have hcd : q_cand (S 2) (q_pm S b) r k l < 200 := by rw [← ec]; omega
      obtain ⟨hm0, hm1, hm2, hm3, hm4, hm5, hm6, hm7, hm8, hm9, hm10, hm11, hm12, hm13, hm14, hm15, hm16, hm17, hm18, hm19, hm20, hm21, hm22, hm23, hm24, hm25, hm26⟩ := hl
      by_cases c : q_cand (S 2) (q_pm S b) r k l < v
      · have key := fun v8 => ih (k + 1) (q_cand (S 2) (q_pm S b) r k l) v8 (by omega) (by omega) ⟨fun i b1 b2 => by
          by_cases e : i = k
          · subst e; exact Nat.le_refl _
          · have := hi.1 i (by omega) b2
            dsimp only at this ⊢
            omega, Or.inr ⟨k, by omega, hbit, rfl⟩⟩
        simp (disch := omega) only [e148_42, e148_43, e148_46, e148_48, e148_50, e148_51, e148_52, e148_53, e148_54, e148_57, e148_57N, e148_58, e148_61, e148_63, e148_65, e148_66, e148_68, e148_69, e148_70, e148_70N, e148_71, e148_71N, e148_72, e148_72N, e148_73, e148_76, e148_78, e148_79, e148_82, e148_84, e148_87, e148_88, e148_90, e148_92, e148_94, e148_97, e148_99, e148_102, e148_104, e148_106, e148_109, true_or, m_psh_s, m_psh_n, m_kl_i, m_kl_f, m_kl_r, m_kl_n, m_kl_j, m_kl_l, m_kl_d, c_i, c_f, c_r, c_n, List.length_nil, List.length_cons, true_and, and_true, Nat.reduceAdd, Nat.reduceLeDiff, Nat.reduceSub, Nat.reduceEqDiff, Nat.reduceLT, ge_iff_le, gt_iff_lt, n_lit, m_in, m_nar0, m_nar1, and_self, not_false_eq_true, not_true_eq_false, ne_eq, reduceIte, ite_self, Nat.reduceMul, Nat.reduceDiv, Nat.reduceMod, Nat.reducePow, Nat.zero_add, Nat.add_zero, Nat.one_mul, Nat.mul_one, n_in, n_min, n_clamp, n_eq_t, n_eq_f, n_eq, n_le_t, n_le_f, n_le, n_lt_t, n_lt_f, n_lt, n_sub0, n_sublt, n_suble, n_negsub, m_up_hit, m_up_miss, m_row_hit, m_row_miss, n_eqm, n_meq, n_meqm, n_ltm, n_lem, n_mlt, n_mle, n_sub, n_div, n_and1, n_shl, n_shr, n_inc, n_mul, n_rem, z_lt, z_le, z_nlt, z_nle, Nat.not_lt_zero, Nat.le_zero_eq, Nat.zero_le, if_true, if_false, hm0, hm1, hm2, hm3, hm4, hm5, hm6, hm7, hm8, hm9, hm10, hm11, hm12, hm13, hm14, hm15, hm16, hm17, hm18, hm19, hm20, hm21, hm22, hm23, hm24, hm25, hm26, hbit, hw, hmk, ks', kt, ec]
        exact key _
      · have key := fun v8 => ih (k + 1) v v8 (by omega) hv ⟨fun i b1 b2 => by
          by_cases e : i = k
          · subst e; dsimp only; omega
          · exact hi.1 i (by omega) b2, by
          rcases hi.2 with ⟨q1, q2⟩ | ⟨i, q1, q2⟩
          · exact Or.inl ⟨q1, fun i b1 b2 => by
              by_cases e : i = k
              · subst e; dsimp only; omega
              · exact q2 i (by omega) b2⟩
          · exact Or.inr ⟨i, by omega, q2⟩⟩
        simp (disch := omega) only [e148_42, e148_43, e148_46, e148_48, e148_50, e148_51, e148_52, e148_53, e148_54, e148_57, e148_57N, e148_58, e148_61, e148_63, e148_65, e148_66, e148_68, e148_69, e148_70, e148_70N, e148_71, e148_71N, e148_72, e148_72N, e148_73, e148_76, e148_78, e148_79, e148_82, e148_84, e148_87, e148_88, e148_90, e148_92, e148_94, e148_97, e148_99, e148_102, e148_104, e148_106, e148_109, true_or, m_psh_s, m_psh_n, m_kl_i, m_kl_f, m_kl_r, m_kl_n, m_kl_j, m_kl_l, m_kl_d, c_i, c_f, c_r, c_n, List.length_nil, List.length_cons, true_and, and_true, Nat.reduceAdd, Nat.reduceLeDiff, Nat.reduceSub, Nat.reduceEqDiff, Nat.reduceLT, ge_iff_le, gt_iff_lt, n_lit, m_in, m_nar0, m_nar1, and_self, not_false_eq_true, not_true_eq_false, ne_eq, reduceIte, ite_self, Nat.reduceMul, Nat.reduceDiv, Nat.reduceMod, Nat.reducePow, Nat.zero_add, Nat.add_zero, Nat.one_mul, Nat.mul_one, n_in, n_min, n_clamp, n_eq_t, n_eq_f, n_eq, n_le_t, n_le_f, n_le, n_lt_t, n_lt_f, n_lt, n_sub0, n_sublt, n_suble, n_negsub, m_up_hit, m_up_miss, m_row_hit, m_row_miss, n_eqm, n_meq, n_meqm, n_ltm, n_lem, n_mlt, n_mle, n_sub, n_div, n_and1, n_shl, n_shr, n_inc, n_mul, n_rem, z_lt, z_le, z_nlt, z_nle, Nat.not_lt_zero, Nat.le_zero_eq, Nat.zero_le, if_true, if_false, hm0, hm1, hm2, hm3, hm4, hm5, hm6, hm7, hm8, hm9, hm10, hm11, hm12, hm13, hm14, hm15, hm16, hm17, hm18, hm19, hm20, hm21, hm22, hm23, hm24, hm25, hm26, hbit, hw, hmk, ks', kt, ec]
        exact key _
theorem r_wayTo {b m s l : Nat} (hl : ML lay R) (h : MS I F S sp) (w : Wsh S) (hc9 : S 2 ≤ 9) (hm : m = q_on b 16) (hm6 : m ≤ 6) (hg : ∀ g, g < 16 → b / 2 ^ g % 2 = 1 → g < S 3) (hB : MB b m I) (hs : s < 2 ^ m) (hlm : l < m) (hb : s / 2 ^ l % 2 = 1) (hW : WT S b m I s) (hd : 3 ≤ d) (hQ : Q (some (.int (nI (q_val (S 2) (q_pm S b) s l)))) I F R n) : Ev lay d 148 0 [.ref 166, .int (nI s), .int (nI l), .int (nI m), m_j, m_j, m_j, m_j, m_j] [] I F R n Q := by
  have hl' := hl
  have w1 := w.1
  have h64 : 2 ^ m ≤ 2 ^ 6 := Nat.pow_le_pow_right (by decide) hm6
  have s64 : s < 64 := by omega
  have memk : ∀ i, i < m → q_mem b i < 16 ∧ q_mem b i < S 3 ∧ q_pm S b i < 30 := fun i hi => by
    rw [hm] at hi
    obtain ⟨a1, a2, a3⟩ := mem_ok hi
    have := hg _ a1 a2
    exact ⟨a1, this, w.2.1 _ this⟩
  obtain ⟨a1, a2, a3⟩ := memk l hlm
  have hml := hB l hlm
  have hr2 : s ^^^ 2 ^ l < 2 ^ m := Nat.xor_lt_two_pow hs (Nat.pow_lt_pow_right (by decide) hlm)
  have rlt : s ^^^ 2 ^ l < s := by
    have h1 : s ^^^ 2 ^ l ≤ s := by
      refine Nat.le_of_testBit (n := s ^^^ 2 ^ l) ?_ |> fun z => z
      intro i hi
      have := b_xor s l i
      rw [b_tb, b_tb, hi] at this
      by_cases e : i = l
      · subst e
        rw [b_tb] at hb
        cases e2 : s.testBit i with
        | true => rfl
        | false => rw [e2] at hb; exact absurd hb (by decide)
      · rw [if_neg e] at this
        cases e2 : s.testBit i with
        | true => rfl
        | false => rw [e2] at this; exact absurd this (by decide)
    have h2 : s ^^^ 2 ^ l ≠ s := fun e => by
      have := b_xor s l l
      rw [e, if_pos rfl, hb] at this
      exact absurd this (by decide)
    omega
  have ks : ∀ (Q : mP), Ev lay (d - 1) 108 0 [.ref 166, .int (nI (q_mem b l))] [] I F R n Q ↔ Q (some (.int (nI (q_pm S b l)))) I F R n := fun Q => r_slotOf (g := q_mem b l) (d := d - 1) (n := n) (Q := Q) hl' h a1 (by omega)
  have kf : ∀ (Q : mP), _ := fun Q => r_far (d := d - 1) (n := n) (Q := Q) hl' h a3 (by omega)
  have esh : nI 1 <<< (nI l &&& nI 31) = nI (2 ^ l) := by
    have h2 : (2 : Nat) ^ l ≤ 2 ^ 6 := Nat.pow_le_pow_right (by decide) (by omega)
    have := n_shl (x := 1) (k := l) (by omega) (by omega)
    rw [Nat.one_mul] at this
    exact this
  have hdl := q_dsk_le hc9 a3
  have key := fun (v0 : Nat) (hv0 : v0 = if s ^^^ 2 ^ l = 0 then q_dsk (S 2) (q_pm S b l) else 1000000) => r_way0 (lay := lay) (d := d) (n := n) (I := I) (F := F) (R := R) (Q := Q) (S := S) (sp := sp) (b := b) (m := m) (r := s ^^^ 2 ^ l) (l := l) (v1 := .int (nI s)) hl' h w hc9 hm hm6 hg hB hr2 (fun e k hk hbk => hW _ (by omega) rlt k hk hbk) hlm (by omega) (v0 := v0) (by rw [hv0]; split <;> omega) (fun v hv => by
    rw [hv0] at hv
    have := way_min (c := S 2) (pos := q_pm S b) hm6 hs hlm hb hc9 (fun i hi => (memk i hi).2.2) hv
    rw [this]; exact hQ) m 0 v0 m_j (Nat.zero_add _) (by rw [hv0]; split <;> omega) ⟨fun i hi => by omega, Or.inl ⟨rfl, fun i hi => by omega⟩⟩
  obtain ⟨hm0, hm1, hm2, hm3, hm4, hm5, hm6, hm7, hm8, hm9, hm10, hm11, hm12, hm13, hm14, hm15, hm16, hm17, hm18, hm19, hm20, hm21, hm22, hm23, hm24, hm25, hm26⟩ := hl
  by_cases e0 : s ^^^ 2 ^ l = 0
  · have kk := key _ (if_pos e0).symm
    rw [e0] at kk
    simp (disch := omega) only [e148_0, e148_1, e148_2, e148_3, e148_4, e148_5, e148_7, e148_7N, e148_8, e148_8N, e148_9, e148_12, e148_13, e148_14, e148_17, e148_19, e148_21, e148_24, e148_24N, e148_25, e148_27, e148_30, e148_33, e148_35, e148_37, e148_38, true_or, m_psh_s, m_psh_n, m_kl_i, m_kl_f, m_kl_r, m_kl_n, m_kl_j, m_kl_l, m_kl_d, c_i, c_f, c_r, c_n, List.length_nil, List.length_cons, true_and, and_true, Nat.reduceAdd, Nat.reduceLeDiff, Nat.reduceSub, Nat.reduceEqDiff, Nat.reduceLT, ge_iff_le, gt_iff_lt, n_lit, m_in, m_nar0, m_nar1, and_self, not_false_eq_true, not_true_eq_false, ne_eq, reduceIte, ite_self, Nat.reduceMul, Nat.reduceDiv, Nat.reduceMod, Nat.reducePow, Nat.zero_add, Nat.add_zero, Nat.one_mul, Nat.mul_one, n_in, n_min, n_clamp, n_eq_t, n_eq_f, n_eq, n_le_t, n_le_f, n_le, n_lt_t, n_lt_f, n_lt, n_sub0, n_sublt, n_suble, n_negsub, m_up_hit, m_up_miss, m_row_hit, m_row_miss, n_eqm, n_meq, n_meqm, n_ltm, n_lem, n_mlt, n_mle, n_sub, n_div, n_and1, n_shl, n_shr, n_inc, n_mul, n_rem, z_lt, z_le, z_nlt, z_nle, Nat.not_lt_zero, Nat.le_zero_eq, Nat.zero_le, if_true, if_false, hm0, hm1, hm2, hm3, hm4, hm5, hm6, hm7, hm8, hm9, hm10, hm11, hm12, hm13, hm14, hm15, hm16, hm17, hm18, hm19, hm20, hm21, hm22, hm23, hm24, hm25, hm26, esh, n_xor, hml, ks, kf, e0]
    exact kk
  · have kk := key _ (if_neg e0).symm
    have zr : nI (s ^^^ 2 ^ l) = nI 0 ↔ False := (n_eq (by omega) (by omega)).trans (iff_false_intro e0)
    simp (disch := omega) only [e148_0, e148_1, e148_2, e148_3, e148_4, e148_5, e148_7, e148_7N, e148_8, e148_8N, e148_9, e148_12, e148_13, e148_14, e148_17, e148_19, e148_21, e148_24, e148_24N, e148_25, e148_27, e148_30, e148_33, e148_35, e148_37, e148_38, true_or, m_psh_s, m_psh_n, m_kl_i, m_kl_f, m_kl_r, m_kl_n, m_kl_j, m_kl_l, m_kl_d, c_i, c_f, c_r, c_n, List.length_nil, List.length_cons, true_and, and_true, Nat.reduceAdd, Nat.reduceLeDiff, Nat.reduceSub, Nat.reduceEqDiff, Nat.reduceLT, ge_iff_le, gt_iff_lt, n_lit, m_in, m_nar0, m_nar1, and_self, not_false_eq_true, not_true_eq_false, ne_eq, reduceIte, ite_self, Nat.reduceMul, Nat.reduceDiv, Nat.reduceMod, Nat.reducePow, Nat.zero_add, Nat.add_zero, Nat.one_mul, Nat.mul_one, n_in, n_min, n_clamp, n_eq_t, n_eq_f, n_eq, n_le_t, n_le_f, n_le, n_lt_t, n_lt_f, n_lt, n_sub0, n_sublt, n_suble, n_negsub, m_up_hit, m_up_miss, m_row_hit, m_row_miss, n_eqm, n_meq, n_meqm, n_ltm, n_lem, n_mlt, n_mle, n_sub, n_div, n_and1, n_shl, n_shr, n_inc, n_mul, n_rem, z_lt, z_le, z_nlt, z_nle, Nat.not_lt_zero, Nat.le_zero_eq, Nat.zero_le, if_true, if_false, hm0, hm1, hm2, hm3, hm4, hm5, hm6, hm7, hm8, hm9, hm10, hm11, hm12, hm13, hm14, hm15, hm16, hm17, hm18, hm19, hm20, hm21, hm22, hm23, hm24, hm25, hm26, esh, n_xor, hml, ks, zr]
    exact kk
end MSHORT
