section MODELB
variable {lay : mL} {d a n n' : Nat} {I I' : mI} {F F' : mF} {R R' : mR} {Q : mP} {S : Nat → Nat} {sp : Nat → UInt32} {hi : List Nat}
/-- where one stands behind a good, or at the desk -/
def q_at (S : Nat → Nat) : Option Nat → Nat
  | none => 0
  | some g => q_pos S g
def q_of1 : Option Nat → Nat
  | none => 1
  | some _ => 0
def q_ll (f : Nat → Nat) (o1 : Nat) : Option Nat → Nat
  | none => 0
  | some g => o1 + f g
theorem q_on_0 {b : Nat} (hb : b < 65536) (h : q_on b 16 = 0) : b = 0 := by
  refine Nat.eq_of_testBit_eq fun i => ?_
  rw [Nat.zero_testBit]
  by_cases c : i < 16
  · have h1 := q_on_mono (b := b) (show i + 1 ≤ 16 by omega)
    rw [q_on_s, b_tb] at h1
    cases e : b.testBit i with
    | false => rfl
    | true => rw [e] at h1; simp only [Bool.toNat_true] at h1; omega
  · exact Nat.testBit_lt_two_pow (Nat.lt_of_lt_of_le hb (show 65536 ≤ 2 ^ i from Nat.pow_le_pow_right (n := 2) (by decide) (show 16 ≤ i by omega)))
/-- the nearest good of a set -/
theorem r_near0 {b : Nat} {o : Option Nat} (hl : ML lay R) (h : MS I F S sp) (w : Wsh S) (hc9 : S 2 ≤ 9) (hb : b < 65536) (hg : ∀ g, g < 16 → b / 2 ^ g % 2 = 1 → g < S 3) (ho : ∀ g, o = some g → g < S 3) (hd : 2 ≤ d) (j k : Nat) (hk : k + j = 16) (v6 v7 : Value) : Ev lay d 121 9 [.ref 166, .int (nI b), .int (q_oI o), .int (q_oI (q_nx (fun g => q_stp (S 2) (q_at S o) (q_pos S g)) b k)), .int (nI (q_ll (fun g => q_stp (S 2) (q_at S o) (q_pos S g)) (q_of1 o) (q_nx (fun g => q_stp (S 2) (q_at S o) (q_pos S g)) b k))), .int (nI k), v6, v7] [] I F R n Q ↔ Q (some (.int (q_oI (q_nx (fun g => q_stp (S 2) (q_at S o) (q_pos S g)) b 16)))) I F R n := by
  have hl' := hl
  have w1 := w.1
  have hat : q_at S o < 30 := by
    cases o with
    | none => exact (by omega : 0 < 30)
    | some g => exact w.2.1 g (ho g rfl)
  induction j generalizing k v6 v7 with
  | zero =>
    have hk2 : k = 16 := by omega
    subst hk2
    rw [e121_9]
    simp (disch := omega) only [e121_11, e121_13, e121_114, e121_115, true_or, m_psh_s, m_psh_n, m_kl_i, m_kl_f, m_kl_r, m_kl_n, m_kl_j, m_kl_l, m_kl_d, c_i, c_f, c_r, c_n, List.length_nil, List.length_cons, true_and, and_true, Nat.reduceAdd, Nat.reduceLeDiff, Nat.reduceSub, Nat.reduceEqDiff, Nat.reduceLT, ge_iff_le, gt_iff_lt, n_lit, m_in, m_nar0, m_nar1, and_self, not_false_eq_true, not_true_eq_false, ne_eq, reduceIte, ite_self, Nat.reduceMul, Nat.reduceDiv, Nat.reduceMod, Nat.reducePow, Nat.zero_add, Nat.add_zero, Nat.one_mul, Nat.mul_one, n_in, n_min, n_clamp, n_eq_t, n_eq_f, n_eq, n_le_t, n_le_f, n_le, n_lt_t, n_lt_f, n_lt, n_sub0, n_sublt, n_suble, n_negsub, m_up_hit, m_up_miss, m_row_hit, m_row_miss, n_eqm, n_meq, n_meqm, n_ltm, n_lem, n_mlt, n_mle, n_sub, n_div, n_and1, n_shl, n_shr, n_inc, n_mul, n_rem, z_lt, z_le, z_nlt, z_nle, Nat.not_lt_zero, Nat.le_zero_eq, Nat.zero_le, if_true, if_false]
  | succ j ih =>
    have key := fun v6 v7 => ih (k + 1) (by omega) v6 v7
    rw [e121_9]
    rcases Nat.mod_two_eq_zero_or_one (b / 2 ^ k) with hbit | hbit
    · rw [q_nx_0 hbit] at key
      simp (disch := omega) only [e121_11, e121_13, e121_16, e121_17, e121_19, e121_20, e121_21, e121_22, e121_23, e121_108, e121_111, true_or, m_psh_s, m_psh_n, m_kl_i, m_kl_f, m_kl_r, m_kl_n, m_kl_j, m_kl_l, m_kl_d, c_i, c_f, c_r, c_n, List.length_nil, List.length_cons, true_and, and_true, Nat.reduceAdd, Nat.reduceLeDiff, Nat.reduceSub, Nat.reduceEqDiff, Nat.reduceLT, ge_iff_le, gt_iff_lt, n_lit, m_in, m_nar0, m_nar1, and_self, not_false_eq_true, not_true_eq_false, ne_eq, reduceIte, ite_self, Nat.reduceMul, Nat.reduceDiv, Nat.reduceMod, Nat.reducePow, Nat.zero_add, Nat.add_zero, Nat.one_mul, Nat.mul_one, n_in, n_min, n_clamp, n_eq_t, n_eq_f, n_eq, n_le_t, n_le_f, n_le, n_lt_t, n_lt_f, n_lt, n_sub0, n_sublt, n_suble, n_negsub, m_up_hit, m_up_miss, m_row_hit, m_row_miss, n_eqm, n_meq, n_meqm, n_ltm, n_lem, n_mlt, n_mle, n_sub, n_div, n_and1, n_shl, n_shr, n_inc, n_mul, n_rem, z_lt, z_le, z_nlt, z_nle, Nat.not_lt_zero, Nat.le_zero_eq, Nat.zero_le, if_true, if_false, hbit]
      exact key _ _
    · have gk := hg k (by omega) hbit
      have hp : q_pos S k < 30 := w.2.1 k gk
      have hst := q_stp_lt hc9 hat hp
      have ks : ∀ (d : Nat) (Q : mP), 1 ≤ d → (_ ↔ _) := fun d Q hd => r_slotOf (g := k) (d := d) (n := n) (Q := Q) hl' h (by omega) hd
      have ks' : ∀ (d : Nat) (Q : mP), 1 ≤ d → (Ev lay d 108 0 [.ref 166, .int (nI k)] [] I F R n Q ↔ Q (some (.int (nI (q_pos S k)))) I F R n) := ks
      -- the way there
      have mid : ∀ v6 v7 l, Ev lay d 121 26 [.ref 166, .int (nI b), .int (q_oI o), .int (q_oI (q_nx (fun g => q_stp (S 2) (q_at S o) (q_pos S g)) b k)), l, .int (nI k), v6, v7] [] I F R n Q ↔ Ev lay d 121 60 [.ref 166, .int (nI b), .int (q_oI o), .int (q_oI (q_nx (fun g => q_stp (S 2) (q_at S o) (q_pos S g)) b k)), l, .int (nI k), v6, v7] [.int (nI (q_of1 o + q_stp (S 2) (q_at S o) (q_pos S k)))] I F R n Q := by
        intro v6 v7 l
        cases ho1 : o with
        | none =>
          have kf : ∀ (d : Nat) (Q : mP), 1 ≤ d → (_ ↔ _) := fun d Q hd => r_far (d := d) (n := n) (Q := Q) hl' h hp hd
          rw [q_dsk_stp] at kf
          obtain ⟨hm0, hm1, hm2, hm3, hm4, hm5, hm6, hm7, hm8, hm9, hm10, hm11, hm12, hm13, hm14, hm15, hm16, hm17, hm18, hm19, hm20, hm21, hm22, hm23, hm24, hm25, hm26⟩ := hl
          simp (disch := omega) only [e121_26, e121_27, e121_29, e121_32, e121_32N, e121_33, e121_33N, e121_34, e121_36, e121_39, e121_42, e121_45, e121_45N, true_or, m_psh_s, m_psh_n, m_kl_i, m_kl_f, m_kl_r, m_kl_n, m_kl_j, m_kl_l, m_kl_d, c_i, c_f, c_r, c_n, List.length_nil, List.length_cons, true_and, and_true, Nat.reduceAdd, Nat.reduceLeDiff, Nat.reduceSub, Nat.reduceEqDiff, Nat.reduceLT, ge_iff_le, gt_iff_lt, n_lit, m_in, m_nar0, m_nar1, and_self, not_false_eq_true, not_true_eq_false, ne_eq, reduceIte, ite_self, Nat.reduceMul, Nat.reduceDiv, Nat.reduceMod, Nat.reducePow, Nat.zero_add, Nat.add_zero, Nat.one_mul, Nat.mul_one, n_in, n_min, n_clamp, n_eq_t, n_eq_f, n_eq, n_le_t, n_le_f, n_le, n_lt_t, n_lt_f, n_lt, n_sub0, n_sublt, n_suble, n_negsub, m_up_hit, m_up_miss, m_row_hit, m_row_miss, n_eqm, n_meq, n_meqm, n_ltm, n_lem, n_mlt, n_mle, n_sub, n_div, n_and1, n_shl, n_shr, n_inc, n_mul, n_rem, z_lt, z_le, z_nlt, z_nle, Nat.not_lt_zero, Nat.le_zero_eq, Nat.zero_le, if_true, if_false, hm0, hm1, hm2, hm3, hm4, hm5, hm6, hm7, hm8, hm9, hm10, hm11, hm12, hm13, hm14, hm15, hm16, hm17, hm18, hm19, hm20, hm21, hm22, hm23, hm24, hm25, hm26, ks', kf, q_oI, q_of1, q_at]
        | some g =>
          have hg3 := ho g ho1
          have kg : ∀ (d : Nat) (Q : mP), 1 ≤ d → (Ev lay d 108 0 [.ref 166, .int (nI g)] [] I F R n Q ↔ Q (some (.int (nI (q_pos S g)))) I F R n) := fun d Q hd => r_slotOf (g := g) (d := d) (n := n) (Q := Q) hl' h (by omega) hd
          have kt : ∀ (d : Nat) (Q : mP), _ := fun d Q => r_stepsOf (d := d) (n := n) (Q := Q) hl' h (w.2.1 g hg3) hp
          have kt' : ∀ (d : Nat) (Q : mP), Ev lay d 123 0 [.ref 166, .int (nI (q_pos S g)), .int (nI (q_pos S k)), m_j, m_j] [] I F R n Q ↔ Q (some (.int (nI (q_stp (S 2) (q_pos S g) (q_pos S k))))) I F R n := kt
          obtain ⟨hm0, hm1, hm2, hm3, hm4, hm5, hm6, hm7, hm8, hm9, hm10, hm11, hm12, hm13, hm14, hm15, hm16, hm17, hm18, hm19, hm20, hm21, hm22, hm23, hm24, hm25, hm26⟩ := hl
          simp (disch := omega) only [e121_26, e121_27, e121_29, e121_32, e121_32N, e121_33, e121_33N, e121_34, e121_36, e121_39, e121_42, e121_45, e121_45N, e121_46, e121_46N, e121_47, e121_48, e121_51, e121_51N, e121_52, e121_54, e121_57, true_or, m_psh_s, m_psh_n, m_kl_i, m_kl_f, m_kl_r, m_kl_n, m_kl_j, m_kl_l, m_kl_d, c_i, c_f, c_r, c_n, List.length_nil, List.length_cons, true_and, and_true, Nat.reduceAdd, Nat.reduceLeDiff, Nat.reduceSub, Nat.reduceEqDiff, Nat.reduceLT, ge_iff_le, gt_iff_lt, n_lit, m_in, m_nar0, m_nar1, and_self, not_false_eq_true, not_true_eq_false, ne_eq, reduceIte, ite_self, Nat.reduceMul, Nat.reduceDiv, Nat.reduceMod, Nat.reducePow, Nat.zero_add, Nat.add_zero, Nat.one_mul, Nat.mul_one, n_in, n_min, n_clamp, n_eq_t, n_eq_f, n_eq, n_le_t, n_le_f, n_le, n_lt_t, n_lt_f, n_lt, n_sub0, n_sublt, n_suble, n_negsub, m_up_hit, m_up_miss, m_row_hit, m_row_miss, n_eqm, n_meq, n_meqm, n_ltm, n_lem, n_mlt, n_mle, n_sub, n_div, n_and1, n_shl, n_shr, n_inc, n_mul, n_rem, z_lt, z_le, z_nlt, z_nle, Nat.not_lt_zero, Nat.le_zero_eq, Nat.zero_le, if_true, if_false, hm0, hm1, hm2, hm3, hm4, hm5, hm6, hm7, hm8, hm9, hm10, hm11, hm12, hm13, hm14, hm15, hm16, hm17, hm18, hm19, hm20, hm21, hm22, hm23, hm24, hm25, hm26, ks', kg, kt', q_oI, q_of1, q_at, Nat.zero_add]
      cases hn : q_nx (fun g => q_stp (S 2) (q_at S o) (q_pos S g)) b k with
      | none =>
        rw [q_nx_1n hbit hn] at key
        rw [hn] at mid
        simp (disch := omega) only [e121_11, e121_13, e121_16, e121_17, e121_19, e121_20, e121_21, e121_22, e121_23, true_or, m_psh_s, m_psh_n, m_kl_i, m_kl_f, m_kl_r, m_kl_n, m_kl_j, m_kl_l, m_kl_d, c_i, c_f, c_r, c_n, List.length_nil, List.length_cons, true_and, and_true, Nat.reduceAdd, Nat.reduceLeDiff, Nat.reduceSub, Nat.reduceEqDiff, Nat.reduceLT, ge_iff_le, gt_iff_lt, n_lit, m_in, m_nar0, m_nar1, and_self, not_false_eq_true, not_true_eq_false, ne_eq, reduceIte, ite_self, Nat.reduceMul, Nat.reduceDiv, Nat.reduceMod, Nat.reducePow, Nat.zero_add, Nat.add_zero, Nat.one_mul, Nat.mul_one, n_in, n_min, n_clamp, n_eq_t, n_eq_f, n_eq, n_le_t, n_le_f, n_le, n_lt_t, n_lt_f, n_lt, n_sub0, n_sublt, n_suble, n_negsub, m_up_hit, m_up_miss, m_row_hit, m_row_miss, n_eqm, n_meq, n_meqm, n_ltm, n_lem, n_mlt, n_mle, n_sub, n_div, n_and1, n_shl, n_shr, n_inc, n_mul, n_rem, z_lt, z_le, z_nlt, z_nle, Nat.not_lt_zero, Nat.le_zero_eq, Nat.zero_le, if_true, if_false, hbit]
        rw [mid]
        simp (disch := omega) only [e121_60, e121_62, e121_63, e121_65, e121_68, e121_70, e121_72, e121_75, e121_76, e121_79, e121_80, e121_82, e121_84, e121_87, e121_89, e121_92, e121_93, e121_94, e121_96, e121_99, e121_101, e121_104, e121_106, e121_108, e121_111, true_or, m_psh_s, m_psh_n, m_kl_i, m_kl_f, m_kl_r, m_kl_n, m_kl_j, m_kl_l, m_kl_d, c_i, c_f, c_r, c_n, List.length_nil, List.length_cons, true_and, and_true, Nat.reduceAdd, Nat.reduceLeDiff, Nat.reduceSub, Nat.reduceEqDiff, Nat.reduceLT, ge_iff_le, gt_iff_lt, n_lit, m_in, m_nar0, m_nar1, and_self, not_false_eq_true, not_true_eq_false, ne_eq, reduceIte, ite_self, Nat.reduceMul, Nat.reduceDiv, Nat.reduceMod, Nat.reducePow, Nat.zero_add, Nat.add_zero, Nat.one_mul, Nat.mul_one, n_in, n_min, n_clamp, n_eq_t, n_eq_f, n_eq, n_le_t, n_le_f, n_le, n_lt_t, n_lt_f, n_lt, n_sub0, n_sublt, n_suble, n_negsub, m_up_hit, m_up_miss, m_row_hit, m_row_miss, n_eqm, n_meq, n_meqm, n_ltm, n_lem, n_mlt, n_mle, n_sub, n_div, n_and1, n_shl, n_shr, n_inc, n_mul, n_rem, z_lt, z_le, z_nlt, z_nle, Nat.not_lt_zero, Nat.le_zero_eq, Nat.zero_le, if_true, if_false, q_oI, q_ll]
        exact key _ _
      | some g =>
        have gg := q_nx_bit hn
        have hpg : q_pos S g < 30 := w.2.1 g (hg g (by omega) gg.2)
        have hsg := q_stp_lt hc9 hat hpg
        have ho1 : q_of1 o ≤ 1 := by cases o <;> simp [q_of1]
        rw [hn] at mid
        by_cases c : q_stp (S 2) (q_at S o) (q_pos S k) < q_stp (S 2) (q_at S o) (q_pos S g)
        · rw [q_nx_1t hbit hn c] at key
          simp (disch := omega) only [e121_11, e121_13, e121_16, e121_17, e121_19, e121_20, e121_21, e121_22, e121_23, true_or, m_psh_s, m_psh_n, m_kl_i, m_kl_f, m_kl_r, m_kl_n, m_kl_j, m_kl_l, m_kl_d, c_i, c_f, c_r, c_n, List.length_nil, List.length_cons, true_and, and_true, Nat.reduceAdd, Nat.reduceLeDiff, Nat.reduceSub, Nat.reduceEqDiff, Nat.reduceLT, ge_iff_le, gt_iff_lt, n_lit, m_in, m_nar0, m_nar1, and_self, not_false_eq_true, not_true_eq_false, ne_eq, reduceIte, ite_self, Nat.reduceMul, Nat.reduceDiv, Nat.reduceMod, Nat.reducePow, Nat.zero_add, Nat.add_zero, Nat.one_mul, Nat.mul_one, n_in, n_min, n_clamp, n_eq_t, n_eq_f, n_eq, n_le_t, n_le_f, n_le, n_lt_t, n_lt_f, n_lt, n_sub0, n_sublt, n_suble, n_negsub, m_up_hit, m_up_miss, m_row_hit, m_row_miss, n_eqm, n_meq, n_meqm, n_ltm, n_lem, n_mlt, n_mle, n_sub, n_div, n_and1, n_shl, n_shr, n_inc, n_mul, n_rem, z_lt, z_le, z_nlt, z_nle, Nat.not_lt_zero, Nat.le_zero_eq, Nat.zero_le, if_true, if_false, hbit]
          rw [mid]
          simp (disch := omega) only [e121_60, e121_62, e121_63, e121_65, e121_68, e121_70, e121_72, e121_75, e121_76, e121_79, e121_80, e121_82, e121_84, e121_87, e121_89, e121_92, e121_93, e121_94, e121_96, e121_99, e121_101, e121_104, e121_106, e121_108, e121_111, true_or, m_psh_s, m_psh_n, m_kl_i, m_kl_f, m_kl_r, m_kl_n, m_kl_j, m_kl_l, m_kl_d, c_i, c_f, c_r, c_n, List.length_nil, List.length_cons, true_and, and_true, Nat.reduceAdd, Nat.reduceLeDiff, Nat.reduceSub, Nat.reduceEqDiff, Nat.reduceLT, ge_iff_le, gt_iff_lt, n_lit, m_in, m_nar0, m_nar1, and_self, not_false_eq_true, not_true_eq_false, ne_eq, reduceIte, ite_self, Nat.reduceMul, Nat.reduceDiv, Nat.reduceMod, Nat.reducePow, Nat.zero_add, Nat.add_zero, Nat.one_mul, Nat.mul_one, n_in, n_min, n_clamp, n_eq_t, n_eq_f, n_eq, n_le_t, n_le_f, n_le, n_lt_t, n_lt_f, n_lt, n_sub0, n_sublt, n_suble, n_negsub, m_up_hit, m_up_miss, m_row_hit, m_row_miss, n_eqm, n_meq, n_meqm, n_ltm, n_lem, n_mlt, n_mle, n_sub, n_div, n_and1, n_shl, n_shr, n_inc, n_mul, n_rem, z_lt, z_le, z_nlt, z_nle, Nat.not_lt_zero, Nat.le_zero_eq, Nat.zero_le, if_true, if_false, q_oI, q_ll]
          exact key _ _
        · rw [q_nx_1f hbit hn (by omega)] at key
          simp (disch := omega) only [e121_11, e121_13, e121_16, e121_17, e121_19, e121_20, e121_21, e121_22, e121_23, true_or, m_psh_s, m_psh_n, m_kl_i, m_kl_f, m_kl_r, m_kl_n, m_kl_j, m_kl_l, m_kl_d, c_i, c_f, c_r, c_n, List.length_nil, List.length_cons, true_and, and_true, Nat.reduceAdd, Nat.reduceLeDiff, Nat.reduceSub, Nat.reduceEqDiff, Nat.reduceLT, ge_iff_le, gt_iff_lt, n_lit, m_in, m_nar0, m_nar1, and_self, not_false_eq_true, not_true_eq_false, ne_eq, reduceIte, ite_self, Nat.reduceMul, Nat.reduceDiv, Nat.reduceMod, Nat.reducePow, Nat.zero_add, Nat.add_zero, Nat.one_mul, Nat.mul_one, n_in, n_min, n_clamp, n_eq_t, n_eq_f, n_eq, n_le_t, n_le_f, n_le, n_lt_t, n_lt_f, n_lt, n_sub0, n_sublt, n_suble, n_negsub, m_up_hit, m_up_miss, m_row_hit, m_row_miss, n_eqm, n_meq, n_meqm, n_ltm, n_lem, n_mlt, n_mle, n_sub, n_div, n_and1, n_shl, n_shr, n_inc, n_mul, n_rem, z_lt, z_le, z_nlt, z_nle, Nat.not_lt_zero, Nat.le_zero_eq, Nat.zero_le, if_true, if_false, hbit]
          rw [mid]
          simp (disch := omega) only [e121_60, e121_62, e121_63, e121_65, e121_68, e121_70, e121_72, e121_75, e121_76, e121_79, e121_80, e121_82, e121_84, e121_87, e121_89, e121_92, e121_93, e121_94, e121_96, e121_99, e121_101, e121_104, e121_106, e121_108, e121_111, true_or, m_psh_s, m_psh_n, m_kl_i, m_kl_f, m_kl_r, m_kl_n, m_kl_j, m_kl_l, m_kl_d, c_i, c_f, c_r, c_n, List.length_nil, List.length_cons, true_and, and_true, Nat.reduceAdd, Nat.reduceLeDiff, Nat.reduceSub, Nat.reduceEqDiff, Nat.reduceLT, ge_iff_le, gt_iff_lt, n_lit, m_in, m_nar0, m_nar1, and_self, not_false_eq_true, not_true_eq_false, ne_eq, reduceIte, ite_self, Nat.reduceMul, Nat.reduceDiv, Nat.reduceMod, Nat.reducePow, Nat.zero_add, Nat.add_zero, Nat.one_mul, Nat.mul_one, n_in, n_min, n_clamp, n_eq_t, n_eq_f, n_eq, n_le_t, n_le_f, n_le, n_lt_t, n_lt_f, n_lt, n_sub0, n_sublt, n_suble, n_negsub, m_up_hit, m_up_miss, m_row_hit, m_row_miss, n_eqm, n_meq, n_meqm, n_ltm, n_lem, n_mlt, n_mle, n_sub, n_div, n_and1, n_shl, n_shr, n_inc, n_mul, n_rem, z_lt, z_le, z_nlt, z_nle, Nat.not_lt_zero, Nat.le_zero_eq, Nat.zero_le, if_true, if_false, q_oI, q_ll]
          exact key _ _
theorem r_nearest {b : Nat} {o : Option Nat} (hl : ML lay R) (h : MS I F S sp) (w : Wsh S) (hc9 : S 2 ≤ 9) (hb : b < 65536) (hg : ∀ g, g < 16 → b / 2 ^ g % 2 = 1 → g < S 3) (ho : ∀ g, o = some g → g < S 3) (hd : 2 ≤ d) : Ev lay d 121 0 [.ref 166, .int (nI b), .int (q_oI o), m_j, m_j, m_j, m_j, m_j] [] I F R n Q ↔ Q (some (.int (q_oI (q_nx (fun g => q_stp (S 2) (q_at S o) (q_pos S g)) b 16)))) I F R n := by
  have key := r_near0 (n := n) (Q := Q) hl h w hc9 hb hg ho hd 16 0 rfl m_j m_j
  simp (disch := omega) only [e121_0, e121_2, e121_3, e121_4, e121_6, e121_7, true_or, m_psh_s, m_psh_n, m_kl_i, m_kl_f, m_kl_r, m_kl_n, m_kl_j, m_kl_l, m_kl_d, c_i, c_f, c_r, c_n, List.length_nil, List.length_cons, true_and, and_true, Nat.reduceAdd, Nat.reduceLeDiff, Nat.reduceSub, Nat.reduceEqDiff, Nat.reduceLT, ge_iff_le, gt_iff_lt, n_lit, m_in, m_nar0, m_nar1, and_self, not_false_eq_true, not_true_eq_false, ne_eq, reduceIte, ite_self, Nat.reduceMul, Nat.reduceDiv, Nat.reduceMod, Nat.reducePow, Nat.zero_add, Nat.add_zero, Nat.one_mul, Nat.mul_one, n_in, n_min, n_clamp, n_eq_t, n_eq_f, n_eq, n_le_t, n_le_f, n_le, n_lt_t, n_lt_f, n_lt, n_sub0, n_sublt, n_suble, n_negsub, m_up_hit, m_up_miss, m_row_hit, m_row_miss, n_eqm, n_meq, n_meqm, n_ltm, n_lem, n_mlt, n_mle, n_sub, n_div, n_and1, n_shl, n_shr, n_inc, n_mul, n_rem, z_lt, z_le, z_nlt, z_nle, Nat.not_lt_zero, Nat.le_zero_eq, Nat.zero_le, if_true, if_false]
  exact key
theorem r_walk0 (hl : ML lay R) (h : MS I F S sp) (w : Wsh S) (hc9 : S 2 ≤ 9) (hd : 3 ≤ d) {vb : Int32} (k : Nat) : ∀ (b sum : Nat) (o : Option Nat) (v5 : Value), b < 65536 → k = q_on b 16 → (∀ g, g < 16 → b / 2 ^ g % 2 = 1 → g < S 3) → (∀ g, o = some g → g < S 3) → (o = none → b ≠ 0) →
    (Ev lay d 120 8 [.ref 166, .int vb, .int (nI b), .int (q_oI o), .int (nI sum), v5] [] I F R n Q ↔ Q (some (.int (nI (sum + q_of1 o + q_wl (S 2) (q_pos S) k b (q_at S o))))) I F R n) := by
  have hl' := hl
  have w1 := w.1
  induction k with
  | zero =>
    intro b sum o v5 hb hk hg ho hnz
    have b0 := q_on_0 hb hk.symm
    subst b0
    cases o with
    | none => exact absurd rfl (hnz rfl)
    | some g =>
      have hg3 := ho g rfl
      have kg : ∀ (d : Nat) (Q : mP), 1 ≤ d → (Ev lay d 108 0 [.ref 166, .int (nI g)] [] I F R n Q ↔ Q (some (.int (nI (q_pos S g)))) I F R n) := fun d Q hd => r_slotOf (g := g) (d := d) (n := n) (Q := Q) hl' h (by omega) hd
      have kf : ∀ (d : Nat) (Q : mP), 1 ≤ d → (Ev lay d 122 0 [.ref 166, .int (nI (q_pos S g))] [] I F R n Q ↔ Q (some (.int (nI (q_dsk (S 2) (q_pos S g))))) I F R n) := fun d Q hd => r_far (d := d) (n := n) (Q := Q) hl' h (w.2.1 g hg3) hd
      obtain ⟨hm0, hm1, hm2, hm3, hm4, hm5, hm6, hm7, hm8, hm9, hm10, hm11, hm12, hm13, hm14, hm15, hm16, hm17, hm18, hm19, hm20, hm21, hm22, hm23, hm24, hm25, hm26⟩ := hl
      rw [e120_8]
      simp (disch := omega) only [e120_9, e120_72, e120_74, e120_74N, e120_75, e120_75N, e120_76, e120_77, e120_80, e120_83, e120_84, true_or, m_psh_s, m_psh_n, m_kl_i, m_kl_f, m_kl_r, m_kl_n, m_kl_j, m_kl_l, m_kl_d, c_i, c_f, c_r, c_n, List.length_nil, List.length_cons, true_and, and_true, Nat.reduceAdd, Nat.reduceLeDiff, Nat.reduceSub, Nat.reduceEqDiff, Nat.reduceLT, ge_iff_le, gt_iff_lt, n_lit, m_in, m_nar0, m_nar1, and_self, not_false_eq_true, not_true_eq_false, ne_eq, reduceIte, ite_self, Nat.reduceMul, Nat.reduceDiv, Nat.reduceMod, Nat.reducePow, Nat.zero_add, Nat.add_zero, Nat.one_mul, Nat.mul_one, n_in, n_min, n_clamp, n_eq_t, n_eq_f, n_eq, n_le_t, n_le_f, n_le, n_lt_t, n_lt_f, n_lt, n_sub0, n_sublt, n_suble, n_negsub, m_up_hit, m_up_miss, m_row_hit, m_row_miss, n_eqm, n_meq, n_meqm, n_ltm, n_lem, n_mlt, n_mle, n_sub, n_div, n_and1, n_shl, n_shr, n_inc, n_mul, n_rem, z_lt, z_le, z_nlt, z_nle, Nat.not_lt_zero, Nat.le_zero_eq, Nat.zero_le, if_true, if_false, hm0, hm1, hm2, hm3, hm4, hm5, hm6, hm7, hm8, hm9, hm10, hm11, hm12, hm13, hm14, hm15, hm16, hm17, hm18, hm19, hm20, hm21, hm22, hm23, hm24, hm25, hm26, kg, kf, q_oI, q_of1, q_at, q_wl]
  | succ k ih =>
    intro b sum o v5 hb hk hg ho hnz
    have hb0 : b ≠ 0 := fun e => by
      subst e
      have : q_on 0 16 = 0 := by decide
      omega
    have hat : q_at S o < 30 := by
      cases o with
      | none => exact (by omega : 0 < 30)
      | some g => exact w.2.1 g (ho g rfl)
    cases hn : q_nx (fun g => q_stp (S 2) (q_at S o) (q_pos S g)) b 16 with
    | none =>
      have := q_nx_none hn
      omega
    | some g =>
      have gg := q_nx_bit hn
      have hg3 := hg g gg.1 gg.2
      have hp : q_pos S g < 30 := w.2.1 g hg3
      have kn : ∀ (Q : mP), _ := fun Q => r_nearest (d := d - 1) (n := n) (Q := Q) hl' h w hc9 hb hg ho (by omega)
      rw [hn] at kn
      have kg : ∀ (d : Nat) (Q : mP), 1 ≤ d → (Ev lay d 108 0 [.ref 166, .int (nI g)] [] I F R n Q ↔ Q (some (.int (nI (q_pos S g)))) I F R n) := fun d Q hd => r_slotOf (g := g) (d := d) (n := n) (Q := Q) hl' h (by omega) hd
      have hlt : b ^^^ 2 ^ g < 65536 := b_lt hb gg.1
      have qk : k = q_on (b ^^^ 2 ^ g) 16 := by
        rw [q_on_x gg.2, if_pos gg.1]; omega
      have esh : nI 1 <<< (nI g &&& nI 31) = nI (2 ^ g) := by
        have h2 : (2 : Nat) ^ g ≤ 2 ^ 16 := Nat.pow_le_pow_right (by decide) (by omega)
        have := n_shl (x := 1) (k := g) (by omega) (by omega)
        rw [Nat.one_mul] at this
        exact this
      have key := fun v5 => ih (b ^^^ 2 ^ g) (sum + (q_of1 o + q_stp (S 2) (q_at S o) (q_pos S g))) (some g) v5 hlt qk (fun x hx hb2 => by
        rw [b_xor] at hb2
        by_cases e : x = g
        · subst e; rw [if_pos rfl, gg.2] at hb2; omega
        · rw [if_neg e] at hb2
          exact hg x hx hb2) (fun x hx => by cases hx; exact hg3) nofun
      have er : sum + q_of1 o + q_wl (S 2) (q_pos S) (k + 1) b (q_at S o) = sum + (q_of1 o + q_stp (S 2) (q_at S o) (q_pos S g)) + q_of1 (some g) + q_wl (S 2) (q_pos S) k (b ^^^ 2 ^ g) (q_at S (some g)) := by
        rw [q_wl, hn]
        show sum + q_of1 o + (q_stp (S 2) (q_at S o) (q_pos S g) + q_wl (S 2) (q_pos S) k (b ^^^ 2 ^ g) (q_pos S g)) = sum + (q_of1 o + q_stp (S 2) (q_at S o) (q_pos S g)) + 0 + q_wl (S 2) (q_pos S) k (b ^^^ 2 ^ g) (q_pos S g)
        omega
      rw [er]
      rw [e120_8]
      have zb : nI b = nI 0 ↔ False := (n_eq (by omega) (by omega)).trans (iff_false_intro hb0)
      cases ho1 : o with
      | none =>
        subst ho1
        have kf : ∀ (d : Nat) (Q : mP), 1 ≤ d → (Ev lay d 122 0 [.ref 166, .int (nI (q_pos S g))] [] I F R n Q ↔ Q (some (.int (nI (q_dsk (S 2) (q_pos S g))))) I F R n) := fun d Q hd => r_far (d := d) (n := n) (Q := Q) hl' h hp hd
        rw [q_dsk_stp] at kf
        simp only [q_oI, q_of1, q_at] at kn key ⊢
        obtain ⟨hm0, hm1, hm2, hm3, hm4, hm5, hm6, hm7, hm8, hm9, hm10, hm11, hm12, hm13, hm14, hm15, hm16, hm17, hm18, hm19, hm20, hm21, hm22, hm23, hm24, hm25, hm26⟩ := hl
        simp (disch := omega) only [e120_9, e120_12, e120_12N, e120_13, e120_14, e120_15, e120_18, e120_20, e120_22, e120_23, e120_25, e120_28, e120_28N, e120_29, e120_29N, e120_30, e120_32, e120_35, e120_38, e120_41, e120_41N, e120_42, e120_42N, e120_43, e120_44, e120_47, e120_47N, e120_48, e120_50, e120_53, e120_56, e120_57, e120_59, e120_60, e120_61, e120_63, e120_64, e120_65, e120_66, e120_68, e120_69, true_or, m_psh_s, m_psh_n, m_kl_i, m_kl_f, m_kl_r, m_kl_n, m_kl_j, m_kl_l, m_kl_d, c_i, c_f, c_r, c_n, List.length_nil, List.length_cons, true_and, and_true, Nat.reduceAdd, Nat.reduceLeDiff, Nat.reduceSub, Nat.reduceEqDiff, Nat.reduceLT, ge_iff_le, gt_iff_lt, n_lit, m_in, m_nar0, m_nar1, and_self, not_false_eq_true, not_true_eq_false, ne_eq, reduceIte, ite_self, Nat.reduceMul, Nat.reduceDiv, Nat.reduceMod, Nat.reducePow, Nat.zero_add, Nat.add_zero, Nat.one_mul, Nat.mul_one, n_in, n_min, n_clamp, n_eq_t, n_eq_f, n_eq, n_le_t, n_le_f, n_le, n_lt_t, n_lt_f, n_lt, n_sub0, n_sublt, n_suble, n_negsub, m_up_hit, m_up_miss, m_row_hit, m_row_miss, n_eqm, n_meq, n_meqm, n_ltm, n_lem, n_mlt, n_mle, n_sub, n_div, n_and1, n_shl, n_shr, n_inc, n_mul, n_rem, z_lt, z_le, z_nlt, z_nle, Nat.not_lt_zero, Nat.le_zero_eq, Nat.zero_le, if_true, if_false, hm0, hm1, hm2, hm3, hm4, hm5, hm6, hm7, hm8, hm9, hm10, hm11, hm12, hm13, hm14, hm15, hm16, hm17, hm18, hm19, hm20, hm21, hm22, hm23, hm24, hm25, hm26, zb, kn, kg, kf, esh, n_xor]
        exact key _
      | some g0 =>
        subst ho1
        have hg0 := ho g0 rfl
        have kg0 : ∀ (d : Nat) (Q : mP), 1 ≤ d → (Ev lay d 108 0 [.ref 166, .int (nI g0)] [] I F R n Q ↔ Q (some (.int (nI (q_pos S g0)))) I F R n) := fun d Q hd => r_slotOf (g := g0) (d := d) (n := n) (Q := Q) hl' h (by omega) hd
        have kt : ∀ (d : Nat) (Q : mP), Ev lay d 123 0 [.ref 166, .int (nI (q_pos S g0)), .int (nI (q_pos S g)), m_j, m_j] [] I F R n Q ↔ Q (some (.int (nI (q_stp (S 2) (q_pos S g0) (q_pos S g))))) I F R n := fun d Q => r_stepsOf (d := d) (n := n) (Q := Q) hl' h (w.2.1 g0 hg0) hp
        simp only [q_oI, q_of1, q_at, Nat.zero_add] at kn key ⊢
        obtain ⟨hm0, hm1, hm2, hm3, hm4, hm5, hm6, hm7, hm8, hm9, hm10, hm11, hm12, hm13, hm14, hm15, hm16, hm17, hm18, hm19, hm20, hm21, hm22, hm23, hm24, hm25, hm26⟩ := hl
        simp (disch := omega) only [e120_9, e120_12, e120_12N, e120_13, e120_14, e120_15, e120_18, e120_20, e120_22, e120_23, e120_25, e120_28, e120_28N, e120_29, e120_29N, e120_30, e120_32, e120_35, e120_38, e120_41, e120_41N, e120_42, e120_42N, e120_43, e120_44, e120_47, e120_47N, e120_48, e120_50, e120_53, e120_56, e120_57, e120_59, e120_60, e120_61, e120_63, e120_64, e120_65, e120_66, e120_68, e120_69, true_or, m_psh_s, m_psh_n, m_kl_i, m_kl_f, m_kl_r, m_kl_n, m_kl_j, m_kl_l, m_kl_d, c_i, c_f, c_r, c_n, List.length_nil, List.length_cons, true_and, and_true, Nat.reduceAdd, Nat.reduceLeDiff, Nat.reduceSub, Nat.reduceEqDiff, Nat.reduceLT, ge_iff_le, gt_iff_lt, n_lit, m_in, m_nar0, m_nar1, and_self, not_false_eq_true, not_true_eq_false, ne_eq, reduceIte, ite_self, Nat.reduceMul, Nat.reduceDiv, Nat.reduceMod, Nat.reducePow, Nat.zero_add, Nat.add_zero, Nat.one_mul, Nat.mul_one, n_in, n_min, n_clamp, n_eq_t, n_eq_f, n_eq, n_le_t, n_le_f, n_le, n_lt_t, n_lt_f, n_lt, n_sub0, n_sublt, n_suble, n_negsub, m_up_hit, m_up_miss, m_row_hit, m_row_miss, n_eqm, n_meq, n_meqm, n_ltm, n_lem, n_mlt, n_mle, n_sub, n_div, n_and1, n_shl, n_shr, n_inc, n_mul, n_rem, z_lt, z_le, z_nlt, z_nle, Nat.not_lt_zero, Nat.le_zero_eq, Nat.zero_le, if_true, if_false, hm0, hm1, hm2, hm3, hm4, hm5, hm6, hm7, hm8, hm9, hm10, hm11, hm12, hm13, hm14, hm15, hm16, hm17, hm18, hm19, hm20, hm21, hm22, hm23, hm24, hm25, hm26, zb, kn, kg, kg0, kt, esh, n_xor]
        exact key _
theorem r_walkOf {b : Nat} (hl : ML lay R) (h : MS I F S sp) (w : Wsh S) (hc9 : S 2 ≤ 9) (hd : 3 ≤ d) (hb : bOK S b) (hb0 : b ≠ 0) : Ev lay d 120 0 [.ref 166, .int (nI b), m_j, m_j, m_j, m_j] [] I F R n Q ↔ Q (some (.int (nI (q_len S b)))) I F R n := by
  obtain ⟨hb1, hb2, hb3⟩ := hb
  have key := r_walk0 (n := n) (Q := Q) hl h w hc9 hd (vb := nI b) (q_on b 16) b 0 none m_j hb1 rfl hb3 (fun g e => by cases e) (fun _ => hb0)
  rw [show 0 + q_of1 none + q_wl (S 2) (q_pos S) (q_on b 16) b (q_at S none) = q_len S b from rfl] at key
  simp (disch := omega) only [e120_0, e120_1, e120_2, e120_4, e120_5, e120_6, true_or, m_psh_s, m_psh_n, m_kl_i, m_kl_f, m_kl_r, m_kl_n, m_kl_j, m_kl_l, m_kl_d, c_i, c_f, c_r, c_n, List.length_nil, List.length_cons, true_and, and_true, Nat.reduceAdd, Nat.reduceLeDiff, Nat.reduceSub, Nat.reduceEqDiff, Nat.reduceLT, ge_iff_le, gt_iff_lt, n_lit, m_in, m_nar0, m_nar1, and_self, not_false_eq_true, not_true_eq_false, ne_eq, reduceIte, ite_self, Nat.reduceMul, Nat.reduceDiv, Nat.reduceMod, Nat.reducePow, Nat.zero_add, Nat.add_zero, Nat.one_mul, Nat.mul_one, n_in, n_min, n_clamp, n_eq_t, n_eq_f, n_eq, n_le_t, n_le_f, n_le, n_lt_t, n_lt_f, n_lt, n_sub0, n_sublt, n_suble, n_negsub, m_up_hit, m_up_miss, m_row_hit, m_row_miss, n_eqm, n_meq, n_meqm, n_ltm, n_lem, n_mlt, n_mle, n_sub, n_div, n_and1, n_shl, n_shr, n_inc, n_mul, n_rem, z_lt, z_le, z_nlt, z_nle, Nat.not_lt_zero, Nat.le_zero_eq, Nat.zero_le, if_true, if_false]
  exact key
theorem r_now0 (hl : ML lay R) (h : MS I F S sp) (w : Wsh S) (hc9 : S 2 ≤ 9) (hD : dOK S) (hz : ∀ k, k < S 69 → S (71 + 2 * k) ≠ 0) (hd : 4 ≤ d) (j k : Nat) (hk : k + j = S 69) : Ev lay d 129 4 [.ref 166, .int (nI (q_tws S k)), .int (nI k)] [] I F R n Q ↔ Q (some (.int (nI (q_tws S (S 69))))) I F R n := by
  have hl' := hl
  have hD1 := hD.1
  have h69 := h.1 69 (by omega)
  induction j generalizing k with
  | zero =>
    have hk2 : k = S 69 := by omega
    subst hk2
    obtain ⟨hm0, hm1, hm2, hm3, hm4, hm5, hm6, hm7, hm8, hm9, hm10, hm11, hm12, hm13, hm14, hm15, hm16, hm17, hm18, hm19, hm20, hm21, hm22, hm23, hm24, hm25, hm26⟩ := hl
    rw [e129_4]
    simp (disch := omega) only [e129_5, e129_5N, e129_6, e129_9, e129_11, e129_12, e129_15, e129_16, e129_16N, e129_17, e129_17N, e129_18, e129_21, e129_23, e129_24, e129_25, e129_26, e129_27, e129_28, e129_31, e129_32, e129_33, e129_36, e129_39, e129_40, true_or, m_psh_s, m_psh_n, m_kl_i, m_kl_f, m_kl_r, m_kl_n, m_kl_j, m_kl_l, m_kl_d, c_i, c_f, c_r, c_n, List.length_nil, List.length_cons, true_and, and_true, Nat.reduceAdd, Nat.reduceLeDiff, Nat.reduceSub, Nat.reduceEqDiff, Nat.reduceLT, ge_iff_le, gt_iff_lt, n_lit, m_in, m_nar0, m_nar1, and_self, not_false_eq_true, not_true_eq_false, ne_eq, reduceIte, ite_self, Nat.reduceMul, Nat.reduceDiv, Nat.reduceMod, Nat.reducePow, Nat.zero_add, Nat.add_zero, Nat.one_mul, Nat.mul_one, n_in, n_min, n_clamp, n_eq_t, n_eq_f, n_eq, n_le_t, n_le_f, n_le, n_lt_t, n_lt_f, n_lt, n_sub0, n_sublt, n_suble, n_negsub, m_up_hit, m_up_miss, m_row_hit, m_row_miss, n_eqm, n_meq, n_meqm, n_ltm, n_lem, n_mlt, n_mle, n_sub, n_div, n_and1, n_shl, n_shr, n_inc, n_mul, n_rem, z_lt, z_le, z_nlt, z_nle, Nat.not_lt_zero, Nat.le_zero_eq, Nat.zero_le, if_true, if_false, hm0, hm1, hm2, hm3, hm4, hm5, hm6, hm7, hm8, hm9, hm10, hm11, hm12, hm13, hm14, hm15, hm16, hm17, hm18, hm19, hm20, hm21, hm22, hm23, hm24, hm25, hm26, h69]
  | succ j ih =>
    have kw : ∀ (Q : mP), _ := fun Q => r_walkOf (d := d - 1) (n := n) (Q := Q) hl' h w hc9 (by omega) (hD.2 k (by omega)) (hz k (by omega))
    have p := h.1 (71 + 2 * k) (by omega)
    have key := ih (k + 1) (by omega)
    rw [q_tws] at key
    obtain ⟨hm0, hm1, hm2, hm3, hm4, hm5, hm6, hm7, hm8, hm9, hm10, hm11, hm12, hm13, hm14, hm15, hm16, hm17, hm18, hm19, hm20, hm21, hm22, hm23, hm24, hm25, hm26⟩ := hl
    rw [e129_4]
    simp (disch := omega) only [e129_5, e129_5N, e129_6, e129_9, e129_11, e129_12, e129_15, e129_16, e129_16N, e129_17, e129_17N, e129_18, e129_21, e129_23, e129_24, e129_25, e129_26, e129_27, e129_28, e129_31, e129_32, e129_33, e129_36, e129_39, e129_40, true_or, m_psh_s, m_psh_n, m_kl_i, m_kl_f, m_kl_r, m_kl_n, m_kl_j, m_kl_l, m_kl_d, c_i, c_f, c_r, c_n, List.length_nil, List.length_cons, true_and, and_true, Nat.reduceAdd, Nat.reduceLeDiff, Nat.reduceSub, Nat.reduceEqDiff, Nat.reduceLT, ge_iff_le, gt_iff_lt, n_lit, m_in, m_nar0, m_nar1, and_self, not_false_eq_true, not_true_eq_false, ne_eq, reduceIte, ite_self, Nat.reduceMul, Nat.reduceDiv, Nat.reduceMod, Nat.reducePow, Nat.zero_add, Nat.add_zero, Nat.one_mul, Nat.mul_one, n_in, n_min, n_clamp, n_eq_t, n_eq_f, n_eq, n_le_t, n_le_f, n_le, n_lt_t, n_lt_f, n_lt, n_sub0, n_sublt, n_suble, n_negsub, m_up_hit, m_up_miss, m_row_hit, m_row_miss, n_eqm, n_meq, n_meqm, n_ltm, n_lem, n_mlt, n_mle, n_sub, n_div, n_and1, n_shl, n_shr, n_inc, n_mul, n_rem, z_lt, z_le, z_nlt, z_nle, Nat.not_lt_zero, Nat.le_zero_eq, Nat.zero_le, if_true, if_false, hm0, hm1, hm2, hm3, hm4, hm5, hm6, hm7, hm8, hm9, hm10, hm11, hm12, hm13, hm14, hm15, hm16, hm17, hm18, hm19, hm20, hm21, hm22, hm23, hm24, hm25, hm26, h69, p, kw]
    exact key
theorem r_walksNow (hl : ML lay R) (h : MS I F S sp) (w : Wsh S) (hc9 : S 2 ≤ 9) (hD : dOK S) (hz : ∀ k, k < S 69 → S (71 + 2 * k) ≠ 0) (hd : 4 ≤ d) : Ev lay d 129 0 [.ref 166, m_j, m_j] [] I F R n Q ↔ Q (some (.int (nI (q_tws S (S 69))))) I F R n := by
  have key := r_now0 (n := n) (Q := Q) hl h w hc9 hD hz hd (S 69) 0 (Nat.zero_add _)
  simp (disch := omega) only [e129_0, e129_1, e129_2, e129_3, true_or, m_psh_s, m_psh_n, m_kl_i, m_kl_f, m_kl_r, m_kl_n, m_kl_j, m_kl_l, m_kl_d, c_i, c_f, c_r, c_n, List.length_nil, List.length_cons, true_and, and_true, Nat.reduceAdd, Nat.reduceLeDiff, Nat.reduceSub, Nat.reduceEqDiff, Nat.reduceLT, ge_iff_le, gt_iff_lt, n_lit, m_in, m_nar0, m_nar1, and_self, not_false_eq_true, not_true_eq_false, ne_eq, reduceIte, ite_self, Nat.reduceMul, Nat.reduceDiv, Nat.reduceMod, Nat.reducePow, Nat.zero_add, Nat.add_zero, Nat.one_mul, Nat.mul_one, n_in, n_min, n_clamp, n_eq_t, n_eq_f, n_eq, n_le_t, n_le_f, n_le, n_lt_t, n_lt_f, n_lt, n_sub0, n_sublt, n_suble, n_negsub, m_up_hit, m_up_miss, m_row_hit, m_row_miss, n_eqm, n_meq, n_meqm, n_ltm, n_lem, n_mlt, n_mle, n_sub, n_div, n_and1, n_shl, n_shr, n_inc, n_mul, n_rem, z_lt, z_le, z_nlt, z_nle, Nat.not_lt_zero, Nat.le_zero_eq, Nat.zero_le, if_true, if_false]
  exact key
end MODELB
