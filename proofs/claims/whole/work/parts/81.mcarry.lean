section MCARRY
variable {lay : mL} {d a n n' : Nat} {I I' : mI} {F F' : mF} {R R' : mR} {Q : mP} {S : Nat → Nat} {sp : Nat → UInt32} {hi : List Nat} {pm pm' pl : Nat} {hs : List St} {pc : Nat → Nat} {sv : Nat → Option St}
theorem RD_fields (h : MX lay I F R S sp hi pm hs pl pc sv) : lay 166 = (14, 0) := h.1.1
/-- the reference's way through a text that is only read -/
theorem r_goF (hl : ML lay R) (h80 : pl ≤ 80) (hp : padOK pl pc) (hd : 5 ≤ d) (f : Nat) : ∀ (s k : Nat) (I : mI), PM I pl pc → RD I s 0 → s ≤ pl → pl < s + f → (∀ I' v2, F7 I I' → (match q_fl pl pc f s with
      | none => ∃ t, RD I' t 0
      | some p => RD I' p 1) → Ev lay d 156 105 [.ref 166, .int (nI 0), .int v2, .int (nI 0)] [] I' F R n Q) → Ev lay d 156 14 [.ref 166, .int (nI 0), .int (nI k), .int (nI 1)] [] I F R n Q := by
  have m0 := hl.1
  induction f with
  | zero => intro s k I _ _ h1 h2; omega
  | succ f ih =>
    intro s k I hP hr hs hf hQ
    have ko : ∀ (Q : mP), _ → _ := fun Q hQ => r_readOrder (d := d - 1) (F := F) (n := n) (Q := Q) hl hP h80 hp hr hs (by omega) hQ
    rw [q_fl] at hQ
    rw [e156_14]
    simp (disch := omega) only [e156_15, e156_18, e156_18N, e156_19, true_or, m_psh_s, m_psh_n, m_kl_i, m_kl_f, m_kl_r, m_kl_n, m_kl_j, m_kl_l, m_kl_d, c_i, c_f, c_r, c_n, List.length_nil, List.length_cons, true_and, and_true, Nat.reduceAdd, Nat.reduceLeDiff, Nat.reduceSub, Nat.reduceEqDiff, Nat.reduceLT, ge_iff_le, gt_iff_lt, n_lit, m_in, m_nar0, m_nar1, and_self, not_false_eq_true, not_true_eq_false, ne_eq, reduceIte, ite_self, Nat.reduceMul, Nat.reduceDiv, Nat.reduceMod, Nat.reducePow, Nat.zero_add, Nat.add_zero, Nat.one_mul, Nat.mul_one, n_in, n_min, n_clamp, n_eq_t, n_eq_f, n_eq, n_le_t, n_le_f, n_le, n_lt_t, n_lt_f, n_lt, n_sub0, n_sublt, n_suble, n_negsub, m_up_hit, m_up_miss, m_row_hit, m_row_miss, n_eqm, n_meq, n_meqm, n_ltm, n_lem, n_mlt, n_mle, n_sub, n_div, n_and1, n_shl, n_shr, n_inc, n_mul, n_rem, z_lt, z_le, z_nlt, z_nle, Nat.not_lt_zero, Nat.le_zero_eq, Nat.zero_le, if_true, if_false, m0]
    apply ko
    intro I1 f1 q1
    cases e : q_od pl pc s with
    | inl p =>
      rw [e] at q1 hQ
      have key := fun v2 => hQ I1 v2 f1 q1
      have r2 := q1.2
      simp (disch := omega) only [e156_22, e156_22N, e156_23, e156_26, e156_29, e156_30, e156_33, e156_33N, e156_34, e156_37, e156_40, e156_41, e156_44, e156_45, e156_46, e156_47, e156_48, e156_51, e156_52, e156_55, e156_56, e156_57, e156_58, e156_59, e156_62, e156_62N, e156_63, e156_66, e156_66N, e156_67, e156_70, e156_73, e156_74, e156_77, e156_78, e156_79, e156_80, true_or, m_psh_s, m_psh_n, m_kl_i, m_kl_f, m_kl_r, m_kl_n, m_kl_j, m_kl_l, m_kl_d, c_i, c_f, c_r, c_n, List.length_nil, List.length_cons, true_and, and_true, Nat.reduceAdd, Nat.reduceLeDiff, Nat.reduceSub, Nat.reduceEqDiff, Nat.reduceLT, ge_iff_le, gt_iff_lt, n_lit, m_in, m_nar0, m_nar1, and_self, not_false_eq_true, not_true_eq_false, ne_eq, reduceIte, ite_self, Nat.reduceMul, Nat.reduceDiv, Nat.reduceMod, Nat.reducePow, Nat.zero_add, Nat.add_zero, Nat.one_mul, Nat.mul_one, n_in, n_min, n_clamp, n_eq_t, n_eq_f, n_eq, n_le_t, n_le_f, n_le, n_lt_t, n_lt_f, n_lt, n_sub0, n_sublt, n_suble, n_negsub, m_up_hit, m_up_miss, m_row_hit, m_row_miss, n_eqm, n_meq, n_meqm, n_ltm, n_lem, n_mlt, n_mle, n_sub, n_div, n_and1, n_shl, n_shr, n_inc, n_mul, n_rem, z_lt, z_le, z_nlt, z_nle, Nat.not_lt_zero, Nat.le_zero_eq, Nat.zero_le, if_true, if_false, m0, r2]
      rw [e156_14]
      simp (disch := omega) only [e156_15, true_or, m_psh_s, m_psh_n, m_kl_i, m_kl_f, m_kl_r, m_kl_n, m_kl_j, m_kl_l, m_kl_d, c_i, c_f, c_r, c_n, List.length_nil, List.length_cons, true_and, and_true, Nat.reduceAdd, Nat.reduceLeDiff, Nat.reduceSub, Nat.reduceEqDiff, Nat.reduceLT, ge_iff_le, gt_iff_lt, n_lit, m_in, m_nar0, m_nar1, and_self, not_false_eq_true, not_true_eq_false, ne_eq, reduceIte, ite_self, Nat.reduceMul, Nat.reduceDiv, Nat.reduceMod, Nat.reducePow, Nat.zero_add, Nat.add_zero, Nat.one_mul, Nat.mul_one, n_in, n_min, n_clamp, n_eq_t, n_eq_f, n_eq, n_le_t, n_le_f, n_le, n_lt_t, n_lt_f, n_lt, n_sub0, n_sublt, n_suble, n_negsub, m_up_hit, m_up_miss, m_row_hit, m_row_miss, n_eqm, n_meq, n_meqm, n_ltm, n_lem, n_mlt, n_mle, n_sub, n_div, n_and1, n_shl, n_shr, n_inc, n_mul, n_rem, z_lt, z_le, z_nlt, z_nle, Nat.not_lt_zero, Nat.le_zero_eq, Nat.zero_le, if_true, if_false]
      exact key _
    | inr x =>
      obtain ⟨l, f', g, t, w, s1⟩ := x
      have e1 := q_od_lt e
      rw [e] at q1 hQ
      dsimp only at q1 hQ
      obtain ⟨rd1, or1⟩ := q1
      obtain ⟨r1, r2⟩ := rd1
      have P1 := PM_7 hP f1
      have p11 := P1.1
      by_cases c : s1 < pl
      · rw [if_pos c] at hQ
        have kt : ∀ (Q : mP), _ → _ := fun Q hQ => r_takes (d := d - 1) (F := F) (n := n) (Q := Q) (x := 59) hl P1 h80 hp ⟨r1, r2⟩ e1.2.1 (by omega) (by omega) (by omega) hQ
        simp (disch := omega) only [e156_22, e156_22N, e156_23, e156_26, e156_29, e156_30, e156_33, e156_33N, e156_34, e156_37, e156_40, e156_41, e156_44, e156_45, e156_46, e156_47, e156_48, e156_51, e156_52, e156_55, e156_56, e156_57, e156_58, e156_59, e156_62, e156_62N, e156_63, e156_66, e156_66N, e156_67, e156_70, e156_73, e156_74, e156_77, e156_78, e156_79, e156_80, e156_83, e156_83N, e156_84, e156_86, true_or, m_psh_s, m_psh_n, m_kl_i, m_kl_f, m_kl_r, m_kl_n, m_kl_j, m_kl_l, m_kl_d, c_i, c_f, c_r, c_n, List.length_nil, List.length_cons, true_and, and_true, Nat.reduceAdd, Nat.reduceLeDiff, Nat.reduceSub, Nat.reduceEqDiff, Nat.reduceLT, ge_iff_le, gt_iff_lt, n_lit, m_in, m_nar0, m_nar1, and_self, not_false_eq_true, not_true_eq_false, ne_eq, reduceIte, ite_self, Nat.reduceMul, Nat.reduceDiv, Nat.reduceMod, Nat.reducePow, Nat.zero_add, Nat.add_zero, Nat.one_mul, Nat.mul_one, n_in, n_min, n_clamp, n_eq_t, n_eq_f, n_eq, n_le_t, n_le_f, n_le, n_lt_t, n_lt_f, n_lt, n_sub0, n_sublt, n_suble, n_negsub, m_up_hit, m_up_miss, m_row_hit, m_row_miss, n_eqm, n_meq, n_meqm, n_ltm, n_lem, n_mlt, n_mle, n_sub, n_div, n_and1, n_shl, n_shr, n_inc, n_mul, n_rem, z_lt, z_le, z_nlt, z_nle, Nat.not_lt_zero, Nat.le_zero_eq, Nat.zero_le, if_true, if_false, m0, r1, r2, p11]
        apply kt
        intro I2 f2 rd2
        by_cases c2 : pc s1 = 59
        · rw [if_pos c2] at hQ
          rw [if_pos ⟨rfl, c, c2⟩, if_pos ⟨rfl, c, c2⟩] at rd2
          have key := ih (s1 + 1) (k + 1) I2 (PM_7 P1 (F2_7 f2)) rd2 c (by omega) (fun I' v2 a1 a2 => hQ I' v2 (F7_trans f1 (F7_trans (F2_7 f2) a1)) a2)
          have r2' := rd2.2
          simp (disch := omega) only [e156_89, e156_89N, e156_90, e156_93, e156_96, e156_97, e156_100, e156_101, e156_102, true_or, m_psh_s, m_psh_n, m_kl_i, m_kl_f, m_kl_r, m_kl_n, m_kl_j, m_kl_l, m_kl_d, c_i, c_f, c_r, c_n, List.length_nil, List.length_cons, true_and, and_true, Nat.reduceAdd, Nat.reduceLeDiff, Nat.reduceSub, Nat.reduceEqDiff, Nat.reduceLT, ge_iff_le, gt_iff_lt, n_lit, m_in, m_nar0, m_nar1, and_self, not_false_eq_true, not_true_eq_false, ne_eq, reduceIte, ite_self, Nat.reduceMul, Nat.reduceDiv, Nat.reduceMod, Nat.reducePow, Nat.zero_add, Nat.add_zero, Nat.one_mul, Nat.mul_one, n_in, n_min, n_clamp, n_eq_t, n_eq_f, n_eq, n_le_t, n_le_f, n_le, n_lt_t, n_lt_f, n_lt, n_sub0, n_sublt, n_suble, n_negsub, m_up_hit, m_up_miss, m_row_hit, m_row_miss, n_eqm, n_meq, n_meqm, n_ltm, n_lem, n_mlt, n_mle, n_sub, n_div, n_and1, n_shl, n_shr, n_inc, n_mul, n_rem, z_lt, z_le, z_nlt, z_nle, Nat.not_lt_zero, Nat.le_zero_eq, Nat.zero_le, if_true, if_false, m0, r2']
          exact key
        · rw [if_neg c2] at hQ
          rw [if_neg (fun z => c2 z.2.2), if_neg (fun z => c2 z.2.2)] at rd2
          have key := fun v2 => hQ I2 v2 (F7_trans f1 (F2_7 f2)) rd2
          have r2' := rd2.2
          simp (disch := omega) only [e156_89, e156_89N, e156_90, e156_93, e156_96, e156_97, e156_100, e156_101, e156_102, true_or, m_psh_s, m_psh_n, m_kl_i, m_kl_f, m_kl_r, m_kl_n, m_kl_j, m_kl_l, m_kl_d, c_i, c_f, c_r, c_n, List.length_nil, List.length_cons, true_and, and_true, Nat.reduceAdd, Nat.reduceLeDiff, Nat.reduceSub, Nat.reduceEqDiff, Nat.reduceLT, ge_iff_le, gt_iff_lt, n_lit, m_in, m_nar0, m_nar1, and_self, not_false_eq_true, not_true_eq_false, ne_eq, reduceIte, ite_self, Nat.reduceMul, Nat.reduceDiv, Nat.reduceMod, Nat.reducePow, Nat.zero_add, Nat.add_zero, Nat.one_mul, Nat.mul_one, n_in, n_min, n_clamp, n_eq_t, n_eq_f, n_eq, n_le_t, n_le_f, n_le, n_lt_t, n_lt_f, n_lt, n_sub0, n_sublt, n_suble, n_negsub, m_up_hit, m_up_miss, m_row_hit, m_row_miss, n_eqm, n_meq, n_meqm, n_ltm, n_lem, n_mlt, n_mle, n_sub, n_div, n_and1, n_shl, n_shr, n_inc, n_mul, n_rem, z_lt, z_le, z_nlt, z_nle, Nat.not_lt_zero, Nat.le_zero_eq, Nat.zero_le, if_true, if_false, m0, r2']
          rw [e156_14]
          simp (disch := omega) only [e156_15, true_or, m_psh_s, m_psh_n, m_kl_i, m_kl_f, m_kl_r, m_kl_n, m_kl_j, m_kl_l, m_kl_d, c_i, c_f, c_r, c_n, List.length_nil, List.length_cons, true_and, and_true, Nat.reduceAdd, Nat.reduceLeDiff, Nat.reduceSub, Nat.reduceEqDiff, Nat.reduceLT, ge_iff_le, gt_iff_lt, n_lit, m_in, m_nar0, m_nar1, and_self, not_false_eq_true, not_true_eq_false, ne_eq, reduceIte, ite_self, Nat.reduceMul, Nat.reduceDiv, Nat.reduceMod, Nat.reducePow, Nat.zero_add, Nat.add_zero, Nat.one_mul, Nat.mul_one, n_in, n_min, n_clamp, n_eq_t, n_eq_f, n_eq, n_le_t, n_le_f, n_le, n_lt_t, n_lt_f, n_lt, n_sub0, n_sublt, n_suble, n_negsub, m_up_hit, m_up_miss, m_row_hit, m_row_miss, n_eqm, n_meq, n_meqm, n_ltm, n_lem, n_mlt, n_mle, n_sub, n_div, n_and1, n_shl, n_shr, n_inc, n_mul, n_rem, z_lt, z_le, z_nlt, z_nle, Nat.not_lt_zero, Nat.le_zero_eq, Nat.zero_le, if_true, if_false]
          exact key _
      · rw [if_neg c] at hQ
        have key := fun v2 => hQ I1 v2 f1 ⟨s1, r1, r2⟩
        simp (disch := omega) only [e156_22, e156_22N, e156_23, e156_26, e156_29, e156_30, e156_33, e156_33N, e156_34, e156_37, e156_40, e156_41, e156_44, e156_45, e156_46, e156_47, e156_48, e156_51, e156_52, e156_55, e156_56, e156_57, e156_58, e156_59, e156_62, e156_62N, e156_63, e156_66, e156_66N, e156_67, e156_70, e156_73, e156_74, e156_77, e156_78, e156_79, e156_80, true_or, m_psh_s, m_psh_n, m_kl_i, m_kl_f, m_kl_r, m_kl_n, m_kl_j, m_kl_l, m_kl_d, c_i, c_f, c_r, c_n, List.length_nil, List.length_cons, true_and, and_true, Nat.reduceAdd, Nat.reduceLeDiff, Nat.reduceSub, Nat.reduceEqDiff, Nat.reduceLT, ge_iff_le, gt_iff_lt, n_lit, m_in, m_nar0, m_nar1, and_self, not_false_eq_true, not_true_eq_false, ne_eq, reduceIte, ite_self, Nat.reduceMul, Nat.reduceDiv, Nat.reduceMod, Nat.reducePow, Nat.zero_add, Nat.add_zero, Nat.one_mul, Nat.mul_one, n_in, n_min, n_clamp, n_eq_t, n_eq_f, n_eq, n_le_t, n_le_f, n_le, n_lt_t, n_lt_f, n_lt, n_sub0, n_sublt, n_suble, n_negsub, m_up_hit, m_up_miss, m_row_hit, m_row_miss, n_eqm, n_meq, n_meqm, n_ltm, n_lem, n_mlt, n_mle, n_sub, n_div, n_and1, n_shl, n_shr, n_inc, n_mul, n_rem, z_lt, z_le, z_nlt, z_nle, Nat.not_lt_zero, Nat.le_zero_eq, Nat.zero_le, if_true, if_false, m0, r1, r2, p11]
        rw [e156_14]
        simp (disch := omega) only [e156_15, true_or, m_psh_s, m_psh_n, m_kl_i, m_kl_f, m_kl_r, m_kl_n, m_kl_j, m_kl_l, m_kl_d, c_i, c_f, c_r, c_n, List.length_nil, List.length_cons, true_and, and_true, Nat.reduceAdd, Nat.reduceLeDiff, Nat.reduceSub, Nat.reduceEqDiff, Nat.reduceLT, ge_iff_le, gt_iff_lt, n_lit, m_in, m_nar0, m_nar1, and_self, not_false_eq_true, not_true_eq_false, ne_eq, reduceIte, ite_self, Nat.reduceMul, Nat.reduceDiv, Nat.reduceMod, Nat.reducePow, Nat.zero_add, Nat.add_zero, Nat.one_mul, Nat.mul_one, n_in, n_min, n_clamp, n_eq_t, n_eq_f, n_eq, n_le_t, n_le_f, n_le, n_lt_t, n_lt_f, n_lt, n_sub0, n_sublt, n_suble, n_negsub, m_up_hit, m_up_miss, m_row_hit, m_row_miss, n_eqm, n_meq, n_meqm, n_ltm, n_lem, n_mlt, n_mle, n_sub, n_div, n_and1, n_shl, n_shr, n_inc, n_mul, n_rem, z_lt, z_le, z_nlt, z_nle, Nat.not_lt_zero, Nat.le_zero_eq, Nat.zero_le, if_true, if_false]
        exact key _
theorem r_fault (h : MX lay I F R S sp hi pm hs pl pc sv) (h80 : pl ≤ 80) (hp : padOK pl pc) (hd : 6 ≤ d) (hQ : ∀ I', F7 I I' → Q (some (.int (q_oI (q_flt pl pc)))) I' F R n) : Ev lay d 155 0 [.ref 166, m_j] [] I F R n Q := by
  have m0 := h.1.1
  have hP := h.2.2.2.2.2.2
  have f0 : F7 I (m_up (m_up I 166 17 (nI 0)) 166 18 (nI 0)) := F7_trans (F7_up (by omega)) (F7_up (by omega))
  rw [q_flt_fl hp h80] at hQ
  have key := r_goF (lay := lay) (d := d - 1) (F := F) (n := n) (pl := pl) (pc := pc) (Q := fun v I F R n => Ev lay d 155 5 [.ref 166, m_j] (m_psh v []) I F R n Q) h.1 h80 hp (by omega) 81 0 0 _ (PM_7 hP f0) ⟨by rw [m_up_miss (by omega), m_up_at], m_up_at⟩ (by omega) (by omega) (fun I1 v2 f1 q1 => by
    have key := hQ I1 (F7_trans f0 f1)
    cases e : q_fl pl pc 81 0 with
    | none =>
      rw [e] at q1 key
      obtain ⟨t, r1, r2⟩ := q1
      simp only [q_oI] at key
      simp (disch := omega) only [e156_105, e156_106, e155_5, e155_6, e155_6N, e155_7, e155_10, e155_13, e155_13N, e155_14, e155_17, e155_20, e155_22, true_or, m_psh_s, m_psh_n, m_kl_i, m_kl_f, m_kl_r, m_kl_n, m_kl_j, m_kl_l, m_kl_d, c_i, c_f, c_r, c_n, List.length_nil, List.length_cons, true_and, and_true, Nat.reduceAdd, Nat.reduceLeDiff, Nat.reduceSub, Nat.reduceEqDiff, Nat.reduceLT, ge_iff_le, gt_iff_lt, n_lit, m_in, m_nar0, m_nar1, and_self, not_false_eq_true, not_true_eq_false, ne_eq, reduceIte, ite_self, Nat.reduceMul, Nat.reduceDiv, Nat.reduceMod, Nat.reducePow, Nat.zero_add, Nat.add_zero, Nat.one_mul, Nat.mul_one, n_in, n_min, n_clamp, n_eq_t, n_eq_f, n_eq, n_le_t, n_le_f, n_le, n_lt_t, n_lt_f, n_lt, n_sub0, n_sublt, n_suble, n_negsub, m_up_hit, m_up_miss, m_row_hit, m_row_miss, n_eqm, n_meq, n_meqm, n_ltm, n_lem, n_mlt, n_mle, n_sub, n_div, n_and1, n_shl, n_shr, n_inc, n_mul, n_rem, z_lt, z_le, z_nlt, z_nle, Nat.not_lt_zero, Nat.le_zero_eq, Nat.zero_le, if_true, if_false, m0, r1, r2]
      exact key
    | some p =>
      rw [e] at q1 key
      obtain ⟨r1, r2⟩ := q1
      simp only [q_oI] at key
      simp (disch := omega) only [e156_105, e156_106, e155_5, e155_6, e155_6N, e155_7, e155_10, e155_13, e155_13N, e155_14, e155_17, e155_20, e155_22, true_or, m_psh_s, m_psh_n, m_kl_i, m_kl_f, m_kl_r, m_kl_n, m_kl_j, m_kl_l, m_kl_d, c_i, c_f, c_r, c_n, List.length_nil, List.length_cons, true_and, and_true, Nat.reduceAdd, Nat.reduceLeDiff, Nat.reduceSub, Nat.reduceEqDiff, Nat.reduceLT, ge_iff_le, gt_iff_lt, n_lit, m_in, m_nar0, m_nar1, and_self, not_false_eq_true, not_true_eq_false, ne_eq, reduceIte, ite_self, Nat.reduceMul, Nat.reduceDiv, Nat.reduceMod, Nat.reducePow, Nat.zero_add, Nat.add_zero, Nat.one_mul, Nat.mul_one, n_in, n_min, n_clamp, n_eq_t, n_eq_f, n_eq, n_le_t, n_le_f, n_le, n_lt_t, n_lt_f, n_lt, n_sub0, n_sublt, n_suble, n_negsub, m_up_hit, m_up_miss, m_row_hit, m_row_miss, n_eqm, n_meq, n_meqm, n_ltm, n_lem, n_mlt, n_mle, n_sub, n_div, n_and1, n_shl, n_shr, n_inc, n_mul, n_rem, z_lt, z_le, z_nlt, z_nle, Nat.not_lt_zero, Nat.le_zero_eq, Nat.zero_le, if_true, if_false, m0, r1, r2]
      exact key)
  simp (disch := omega) only [e155_0, e155_0N, e155_1, e155_2, e156_0, e156_0N, e156_1, e156_2, e156_5, e156_5N, e156_6, e156_7, e156_10, e156_11, e156_12, e156_13, true_or, m_psh_s, m_psh_n, m_kl_i, m_kl_f, m_kl_r, m_kl_n, m_kl_j, m_kl_l, m_kl_d, c_i, c_f, c_r, c_n, List.length_nil, List.length_cons, true_and, and_true, Nat.reduceAdd, Nat.reduceLeDiff, Nat.reduceSub, Nat.reduceEqDiff, Nat.reduceLT, ge_iff_le, gt_iff_lt, n_lit, m_in, m_nar0, m_nar1, and_self, not_false_eq_true, not_true_eq_false, ne_eq, reduceIte, ite_self, Nat.reduceMul, Nat.reduceDiv, Nat.reduceMod, Nat.reducePow, Nat.zero_add, Nat.add_zero, Nat.one_mul, Nat.mul_one, n_in, n_min, n_clamp, n_eq_t, n_eq_f, n_eq, n_le_t, n_le_f, n_le, n_lt_t, n_lt_f, n_lt, n_sub0, n_sublt, n_suble, n_negsub, m_up_hit, m_up_miss, m_row_hit, m_row_miss, n_eqm, n_meq, n_meqm, n_ltm, n_lem, n_mlt, n_mle, n_sub, n_div, n_and1, n_shl, n_shr, n_inc, n_mul, n_rem, z_lt, z_le, z_nlt, z_nle, Nat.not_lt_zero, Nat.le_zero_eq, Nat.zero_le, if_true, if_false, m0, true_or, or_true]
  exact key
theorem m_fault (h : MX lay I F R S sp hi pm hs pl pc sv) (h80 : pl ≤ 80) (hp : padOK pl pc) (hd : 6 ≤ d) (hQ : ∀ I' F', MX lay I' F' R S sp hi pm hs pl pc sv → FrR I F I' F' → Q (some (.int (q_oI (q_flt pl pc)))) I' F' R n) : Ev lay d 155 0 [.ref 166, m_j] [] I F R n Q :=
  r_fault h h80 hp hd fun I' f => hQ I' F (MX_7 h f) (FrR_7 f)
theorem pick_w {t : Nat} (w1 : S 3 ≤ 16) (ht : t < 65536) : q_pick S hi (nI (t ||| q_W 1)) = (-nI 1, S, hi) := by
  have h1 : 65536 ≤ t ||| 65536 := Nat.right_le_or
  have h2 : t ||| 65536 < 2 ^ 17 := Nat.or_lt_two_pow (by omega) (by omega)
  have hle : 2 ^ S 3 ≤ 2 ^ 16 := Nat.pow_le_pow_right (by decide) w1
  have e : q_err S (nI (t ||| q_W 1)) = -nI 1 := by
    have en : q_N (nI (t ||| q_W 1)) = t ||| 65536 := q_N_n (by show t ||| 65536 < _; omega)
    exact if_pos (Or.inr (by rw [en]; omega))
  unfold q_pick
  rw [e, if_neg (by decide)]
theorem q_od_tw {s l f g t w s1 : Nat} (h : q_od pl pc s = .inr (l, f, g, t, w, s1)) : t < 65536 ∧ w ≤ 1 ∧ f < 100 ∧ g < 100 ∧ (l = 103 ∨ l = 98 ∨ l = 109 ∨ l = 120 ∨ l = 110) := by
  unfold q_od at h
  split at h
  · split at h
    · cases h; omega
    · split at h
      · cases e : q_bk pl pc 81 (s + 1) 0 0 with
        | inl p => rw [e] at h; cases h
        | inr x =>
          obtain ⟨a, b, e2⟩ := x
          rw [e] at h
          have := q_bk_b _ _ _ _ _ _ _ (by omega) (by omega) e
          cases h; omega
      · split at h
        · cases e : q_nm pl pc (s + 1) with
          | inl p => rw [e] at h; cases h
          | inr x =>
            obtain ⟨a, b⟩ := x
            have h1 := q_nm_lt e
            rw [e] at h
            dsimp only at h
            split at h
            · cases e2 : q_nm pl pc (b + 1) with
              | inl p => rw [e2] at h; cases h
              | inr x =>
                obtain ⟨a2, b2⟩ := x
                have h2 := q_nm_lt e2
                rw [e2] at h
                cases h; omega
            · cases h
        · split at h
          · cases e : q_nm pl pc (s + 1) with
            | inl p => rw [e] at h; cases h
            | inr x =>
              obtain ⟨a, b⟩ := x
              have h1 := q_nm_lt e
              rw [e] at h
              rename_i c4
              cases h
              refine ⟨by omega, by omega, by omega, by omega, ?_⟩
              rcases c4 with c4 | c4
              · exact Or.inl c4
              · exact Or.inr (Or.inr (Or.inr (Or.inl c4)))
          · cases h
  · cases h
/-- what an order of the reference leaves alone of what it reads -/
def G7 (I I' : mI) : Prop := ∀ k, 17 ≤ k → I' 166 k = I 166 k
theorem r_does {l f g t w : Nat} {st0 : St} (h : MX lay I F R S sp hi pm hs pl pc sv) (ha : AM I F pm st0) (wf : Wf S sp hi) (ho : OR I l f g t w) (ht : t < 65536) (hw : w ≤ 1) (hl2 : hi.length < 2000) (hp2 : pm < 2048) (hll : l = 103 ∨ l = 98 ∨ l = 109 ∨ l = 120 ∨ l = 110) (hd : 7 ≤ d)
    (hQ : ∀ I' F' pm', pm ≤ pm' → pm' ≤ pm + 1 → (l ≠ 98 → pm' = pm) → (q_exO S sp hi l f g t w).2.2.2.length + pm = hi.length + pm' → MX lay I' F' R (q_exO S sp hi l f g t w).2.1 (q_exO S sp hi l f g t w).2.2.1 (q_exO S sp hi l f g t w).2.2.2 pm' hs pl pc sv → AM I' F' pm' st0 → FrR I F I' F' → G7 I I' → Q (some (.int (q_exO S sp hi l f g t w).1)) I' F' R n) : Ev lay d 162 0 [.ref 166] [] I F R n Q := by
  have m0 := h.1.1
  obtain ⟨o1, o2, o3, o4⟩ := ho
  have g7 : ∀ {I' : mI} {F' : mF}, Om I F R I' F' → G7 I I' := fun ho k _ => by rw [(ho.1 166 (by omega)).1]
  rcases hll with rfl | rfl | rfl | rfl | rfl
  · have p20 := o2 (by omega) (by omega)
    have e : q_exO S sp hi 103 f g t w = ((q_add S (nI f)).1, (q_add S (nI f)).2, sp, hi) := rfl
    rw [e] at hQ
    have ka : ∀ (Q : mP), _ → _ := fun Q hQ => r_adds (d := d - 1) (n := n) (Q := Q) (x := nI f) h.1 h.2.1 wf.1 (fun g hg hg2 => (wf.2.2.2.2.2.2.2.1 g hg).2 hg2) (by omega) hQ
    simp (disch := omega) only [e162_0, e162_0N, e162_1, e162_4, e162_48, e162_48N, e162_49, e162_49N, e162_50, e162_53, true_or, m_psh_s, m_psh_n, m_kl_i, m_kl_f, m_kl_r, m_kl_n, m_kl_j, m_kl_l, m_kl_d, c_i, c_f, c_r, c_n, List.length_nil, List.length_cons, true_and, and_true, Nat.reduceAdd, Nat.reduceLeDiff, Nat.reduceSub, Nat.reduceEqDiff, Nat.reduceLT, ge_iff_le, gt_iff_lt, n_lit, m_in, m_nar0, m_nar1, and_self, not_false_eq_true, not_true_eq_false, ne_eq, reduceIte, ite_self, Nat.reduceMul, Nat.reduceDiv, Nat.reduceMod, Nat.reducePow, Nat.zero_add, Nat.add_zero, Nat.one_mul, Nat.mul_one, n_in, n_min, n_clamp, n_eq_t, n_eq_f, n_eq, n_le_t, n_le_f, n_le, n_lt_t, n_lt_f, n_lt, n_sub0, n_sublt, n_suble, n_negsub, m_up_hit, m_up_miss, m_row_hit, m_row_miss, n_eqm, n_meq, n_meqm, n_ltm, n_lem, n_mlt, n_mle, n_sub, n_div, n_and1, n_shl, n_shr, n_inc, n_mul, n_rem, z_lt, z_le, z_nlt, z_nle, Nat.not_lt_zero, Nat.le_zero_eq, Nat.zero_le, if_true, if_false, m0, o1, p20]
    apply ka
    intro I1 F1 h1 om
    have key := hQ I1 F1 pm (Nat.le_refl _) (by omega) (fun _ => rfl) rfl (MX_om h h1 om) (AM_om ha om) (FrR_om om) (g7 om)
    simp (disch := omega) only [e162_56, true_or, m_psh_s, m_psh_n, m_kl_i, m_kl_f, m_kl_r, m_kl_n, m_kl_j, m_kl_l, m_kl_d, c_i, c_f, c_r, c_n, List.length_nil, List.length_cons, true_and, and_true, Nat.reduceAdd, Nat.reduceLeDiff, Nat.reduceSub, Nat.reduceEqDiff, Nat.reduceLT, ge_iff_le, gt_iff_lt, n_lit, m_in, m_nar0, m_nar1, and_self, not_false_eq_true, not_true_eq_false, ne_eq, reduceIte, ite_self, Nat.reduceMul, Nat.reduceDiv, Nat.reduceMod, Nat.reducePow, Nat.zero_add, Nat.add_zero, Nat.one_mul, Nat.mul_one, n_in, n_min, n_clamp, n_eq_t, n_eq_f, n_eq, n_le_t, n_le_f, n_le, n_lt_t, n_lt_f, n_lt, n_sub0, n_sublt, n_suble, n_negsub, m_up_hit, m_up_miss, m_row_hit, m_row_miss, n_eqm, n_meq, n_meqm, n_ltm, n_lem, n_mlt, n_mle, n_sub, n_div, n_and1, n_shl, n_shr, n_inc, n_mul, n_rem, z_lt, z_le, z_nlt, z_nle, Nat.not_lt_zero, Nat.le_zero_eq, Nat.zero_le, if_true, if_false]
    exact key
  · obtain ⟨p22, p23⟩ := o4 rfl
    have e : q_exO S sp hi 98 f g t w = ((q_pick S hi (nI (t ||| q_W w))).1, (q_pick S hi (nI (t ||| q_W w))).2.1, sp, (q_pick S hi (nI (t ||| q_W w))).2.2) := rfl
    rw [e] at hQ
    have hw2 : w = 0 ∨ w = 1 := by omega
    rcases hw2 with rfl | rfl
    · have e0 : t ||| q_W 0 = t := Nat.or_zero t
      rw [e0] at hQ
      have ka : ∀ (Q : mP), _ → _ := fun Q hQ => r_pickW (d := d - 1) (n := n) (Q := Q) (x := nI t) h wf hl2 hp2 (by omega) hQ
      simp (disch := omega) only [e162_0, e162_0N, e162_1, e162_4, e162_48, e162_48N, e162_49, e162_49N, e162_50, e162_53, e162_56, e162_57, e162_57N, e162_58, e162_61, e162_64, e162_65, e162_68, e162_68N, e162_69, e162_69N, e162_70, e162_73, true_or, m_psh_s, m_psh_n, m_kl_i, m_kl_f, m_kl_r, m_kl_n, m_kl_j, m_kl_l, m_kl_d, c_i, c_f, c_r, c_n, List.length_nil, List.length_cons, true_and, and_true, Nat.reduceAdd, Nat.reduceLeDiff, Nat.reduceSub, Nat.reduceEqDiff, Nat.reduceLT, ge_iff_le, gt_iff_lt, n_lit, m_in, m_nar0, m_nar1, and_self, not_false_eq_true, not_true_eq_false, ne_eq, reduceIte, ite_self, Nat.reduceMul, Nat.reduceDiv, Nat.reduceMod, Nat.reducePow, Nat.zero_add, Nat.add_zero, Nat.one_mul, Nat.mul_one, n_in, n_min, n_clamp, n_eq_t, n_eq_f, n_eq, n_le_t, n_le_f, n_le, n_lt_t, n_lt_f, n_lt, n_sub0, n_sublt, n_suble, n_negsub, m_up_hit, m_up_miss, m_row_hit, m_row_miss, n_eqm, n_meq, n_meqm, n_ltm, n_lem, n_mlt, n_mle, n_sub, n_div, n_and1, n_shl, n_shr, n_inc, n_mul, n_rem, z_lt, z_le, z_nlt, z_nle, Nat.not_lt_zero, Nat.le_zero_eq, Nat.zero_le, if_true, if_false, m0, o1, p22, p23]
      apply ka
      intro I1 pm1 b1 b2 b3 h1 op
      have key := hQ I1 F pm1 b1 b2 (fun z => absurd rfl z) b3 h1 (AM_pk ha b1 op) (FrR_op op) (fun k hk => op.2.1 k (by omega))
      simp (disch := omega) only [e162_76, true_or, m_psh_s, m_psh_n, m_kl_i, m_kl_f, m_kl_r, m_kl_n, m_kl_j, m_kl_l, m_kl_d, c_i, c_f, c_r, c_n, List.length_nil, List.length_cons, true_and, and_true, Nat.reduceAdd, Nat.reduceLeDiff, Nat.reduceSub, Nat.reduceEqDiff, Nat.reduceLT, ge_iff_le, gt_iff_lt, n_lit, m_in, m_nar0, m_nar1, and_self, not_false_eq_true, not_true_eq_false, ne_eq, reduceIte, ite_self, Nat.reduceMul, Nat.reduceDiv, Nat.reduceMod, Nat.reducePow, Nat.zero_add, Nat.add_zero, Nat.one_mul, Nat.mul_one, n_in, n_min, n_clamp, n_eq_t, n_eq_f, n_eq, n_le_t, n_le_f, n_le, n_lt_t, n_lt_f, n_lt, n_sub0, n_sublt, n_suble, n_negsub, m_up_hit, m_up_miss, m_row_hit, m_row_miss, n_eqm, n_meq, n_meqm, n_ltm, n_lem, n_mlt, n_mle, n_sub, n_div, n_and1, n_shl, n_shr, n_inc, n_mul, n_rem, z_lt, z_le, z_nlt, z_nle, Nat.not_lt_zero, Nat.le_zero_eq, Nat.zero_le, if_true, if_false]
      exact key
    · rw [pick_w wf.1.1 ht] at hQ
      have key := hQ I F pm (Nat.le_refl _) (by omega) (fun _ => rfl) rfl h ha FrR_refl (fun _ _ => rfl)
      simp (disch := omega) only [e162_0, e162_0N, e162_1, e162_4, e162_48, e162_48N, e162_49, e162_49N, e162_50, e162_53, e162_56, e162_57, e162_57N, e162_58, e162_61, e162_64, e162_65, e162_68, e162_68N, e162_69, e162_69N, e162_70, e162_73, e162_76, true_or, m_psh_s, m_psh_n, m_kl_i, m_kl_f, m_kl_r, m_kl_n, m_kl_j, m_kl_l, m_kl_d, c_i, c_f, c_r, c_n, List.length_nil, List.length_cons, true_and, and_true, Nat.reduceAdd, Nat.reduceLeDiff, Nat.reduceSub, Nat.reduceEqDiff, Nat.reduceLT, ge_iff_le, gt_iff_lt, n_lit, m_in, m_nar0, m_nar1, and_self, not_false_eq_true, not_true_eq_false, ne_eq, reduceIte, ite_self, Nat.reduceMul, Nat.reduceDiv, Nat.reduceMod, Nat.reducePow, Nat.zero_add, Nat.add_zero, Nat.one_mul, Nat.mul_one, n_in, n_min, n_clamp, n_eq_t, n_eq_f, n_eq, n_le_t, n_le_f, n_le, n_lt_t, n_lt_f, n_lt, n_sub0, n_sublt, n_suble, n_negsub, m_up_hit, m_up_miss, m_row_hit, m_row_miss, n_eqm, n_meq, n_meqm, n_ltm, n_lem, n_mlt, n_mle, n_sub, n_div, n_and1, n_shl, n_shr, n_inc, n_mul, n_rem, z_lt, z_le, z_nlt, z_nle, Nat.not_lt_zero, Nat.le_zero_eq, Nat.zero_le, if_true, if_false, m0, o1, p23]
      exact key
  · have p20 := o2 (by omega) (by omega)
    have p21 := o3 rfl
    have e : q_exO S sp hi 109 f g t w = ((q_swp S (nI f) (nI g)).1, (q_swp S (nI f) (nI g)).2, sp, hi) := rfl
    rw [e] at hQ
    have ka : ∀ (Q : mP), _ → _ := fun Q hQ => r_swaps (d := d - 1) (n := n) (Q := Q) (x := nI f) (y := nI g) h.1 h.2.1 wf.1 (by omega) hQ
    simp (disch := omega) only [e162_0, e162_0N, e162_1, e162_4, e162_77, e162_77N, e162_78, e162_78N, e162_79, e162_82, e162_82N, e162_83, e162_86, true_or, m_psh_s, m_psh_n, m_kl_i, m_kl_f, m_kl_r, m_kl_n, m_kl_j, m_kl_l, m_kl_d, c_i, c_f, c_r, c_n, List.length_nil, List.length_cons, true_and, and_true, Nat.reduceAdd, Nat.reduceLeDiff, Nat.reduceSub, Nat.reduceEqDiff, Nat.reduceLT, ge_iff_le, gt_iff_lt, n_lit, m_in, m_nar0, m_nar1, and_self, not_false_eq_true, not_true_eq_false, ne_eq, reduceIte, ite_self, Nat.reduceMul, Nat.reduceDiv, Nat.reduceMod, Nat.reducePow, Nat.zero_add, Nat.add_zero, Nat.one_mul, Nat.mul_one, n_in, n_min, n_clamp, n_eq_t, n_eq_f, n_eq, n_le_t, n_le_f, n_le, n_lt_t, n_lt_f, n_lt, n_sub0, n_sublt, n_suble, n_negsub, m_up_hit, m_up_miss, m_row_hit, m_row_miss, n_eqm, n_meq, n_meqm, n_ltm, n_lem, n_mlt, n_mle, n_sub, n_div, n_and1, n_shl, n_shr, n_inc, n_mul, n_rem, z_lt, z_le, z_nlt, z_nle, Nat.not_lt_zero, Nat.le_zero_eq, Nat.zero_le, if_true, if_false, m0, o1, p20, p21]
    apply ka
    intro I1 h1 om
    have key := hQ I1 F pm (Nat.le_refl _) (by omega) (fun _ => rfl) rfl (MX_om h h1 om) (AM_om ha om) (FrR_om om) (g7 om)
    simp (disch := omega) only [e162_89, true_or, m_psh_s, m_psh_n, m_kl_i, m_kl_f, m_kl_r, m_kl_n, m_kl_j, m_kl_l, m_kl_d, c_i, c_f, c_r, c_n, List.length_nil, List.length_cons, true_and, and_true, Nat.reduceAdd, Nat.reduceLeDiff, Nat.reduceSub, Nat.reduceEqDiff, Nat.reduceLT, ge_iff_le, gt_iff_lt, n_lit, m_in, m_nar0, m_nar1, and_self, not_false_eq_true, not_true_eq_false, ne_eq, reduceIte, ite_self, Nat.reduceMul, Nat.reduceDiv, Nat.reduceMod, Nat.reducePow, Nat.zero_add, Nat.add_zero, Nat.one_mul, Nat.mul_one, n_in, n_min, n_clamp, n_eq_t, n_eq_f, n_eq, n_le_t, n_le_f, n_le, n_lt_t, n_lt_f, n_lt, n_sub0, n_sublt, n_suble, n_negsub, m_up_hit, m_up_miss, m_row_hit, m_row_miss, n_eqm, n_meq, n_meqm, n_ltm, n_lem, n_mlt, n_mle, n_sub, n_div, n_and1, n_shl, n_shr, n_inc, n_mul, n_rem, z_lt, z_le, z_nlt, z_nle, Nat.not_lt_zero, Nat.le_zero_eq, Nat.zero_le, if_true, if_false]
    exact key
  · have p20 := o2 (by omega) (by omega)
    have e : q_exO S sp hi 120 f g t w = ((q_cls S (nI f)).1, (q_cls S (nI f)).2, sp, hi) := rfl
    rw [e] at hQ
    have ka : ∀ (Q : mP), _ → _ := fun Q hQ => r_closes (d := d - 1) (n := n) (Q := Q) (x := nI f) h.1 h.2.1 wf.2.2.1 (by omega) hQ
    simp (disch := omega) only [e162_0, e162_0N, e162_1, e162_4, e162_90, e162_90N, e162_91, e162_91N, e162_92, e162_95, true_or, m_psh_s, m_psh_n, m_kl_i, m_kl_f, m_kl_r, m_kl_n, m_kl_j, m_kl_l, m_kl_d, c_i, c_f, c_r, c_n, List.length_nil, List.length_cons, true_and, and_true, Nat.reduceAdd, Nat.reduceLeDiff, Nat.reduceSub, Nat.reduceEqDiff, Nat.reduceLT, ge_iff_le, gt_iff_lt, n_lit, m_in, m_nar0, m_nar1, and_self, not_false_eq_true, not_true_eq_false, ne_eq, reduceIte, ite_self, Nat.reduceMul, Nat.reduceDiv, Nat.reduceMod, Nat.reducePow, Nat.zero_add, Nat.add_zero, Nat.one_mul, Nat.mul_one, n_in, n_min, n_clamp, n_eq_t, n_eq_f, n_eq, n_le_t, n_le_f, n_le, n_lt_t, n_lt_f, n_lt, n_sub0, n_sublt, n_suble, n_negsub, m_up_hit, m_up_miss, m_row_hit, m_row_miss, n_eqm, n_meq, n_meqm, n_ltm, n_lem, n_mlt, n_mle, n_sub, n_div, n_and1, n_shl, n_shr, n_inc, n_mul, n_rem, z_lt, z_le, z_nlt, z_nle, Nat.not_lt_zero, Nat.le_zero_eq, Nat.zero_le, if_true, if_false, m0, o1, p20]
    apply ka
    intro I1 h1 om
    have key := hQ I1 F pm (Nat.le_refl _) (by omega) (fun _ => rfl) rfl (MX_om h h1 om) (AM_om ha om) (FrR_om om) (g7 om)
    simp (disch := omega) only [e162_98, true_or, m_psh_s, m_psh_n, m_kl_i, m_kl_f, m_kl_r, m_kl_n, m_kl_j, m_kl_l, m_kl_d, c_i, c_f, c_r, c_n, List.length_nil, List.length_cons, true_and, and_true, Nat.reduceAdd, Nat.reduceLeDiff, Nat.reduceSub, Nat.reduceEqDiff, Nat.reduceLT, ge_iff_le, gt_iff_lt, n_lit, m_in, m_nar0, m_nar1, and_self, not_false_eq_true, not_true_eq_false, ne_eq, reduceIte, ite_self, Nat.reduceMul, Nat.reduceDiv, Nat.reduceMod, Nat.reducePow, Nat.zero_add, Nat.add_zero, Nat.one_mul, Nat.mul_one, n_in, n_min, n_clamp, n_eq_t, n_eq_f, n_eq, n_le_t, n_le_f, n_le, n_lt_t, n_lt_f, n_lt, n_sub0, n_sublt, n_suble, n_negsub, m_up_hit, m_up_miss, m_row_hit, m_row_miss, n_eqm, n_meq, n_meqm, n_ltm, n_lem, n_mlt, n_mle, n_sub, n_div, n_and1, n_shl, n_shr, n_inc, n_mul, n_rem, z_lt, z_le, z_nlt, z_nle, Nat.not_lt_zero, Nat.le_zero_eq, Nat.zero_le, if_true, if_false]
    exact key
  · have e : q_exO S sp hi 110 f g t w = ((q_night S sp).1, (q_night S sp).2.1, (q_night S sp).2.2, hi) := rfl
    rw [e] at hQ
    have ka : ∀ (Q : mP), _ → _ := fun Q hQ => r_nightW (d := d - 1) (n := n) (Q := Q) h.2.1 h.1 wf (by omega) hQ
    simp (disch := omega) only [e162_0, e162_0N, e162_1, e162_4, e162_99, e162_99N, e162_100, true_or, m_psh_s, m_psh_n, m_kl_i, m_kl_f, m_kl_r, m_kl_n, m_kl_j, m_kl_l, m_kl_d, c_i, c_f, c_r, c_n, List.length_nil, List.length_cons, true_and, and_true, Nat.reduceAdd, Nat.reduceLeDiff, Nat.reduceSub, Nat.reduceEqDiff, Nat.reduceLT, ge_iff_le, gt_iff_lt, n_lit, m_in, m_nar0, m_nar1, and_self, not_false_eq_true, not_true_eq_false, ne_eq, reduceIte, ite_self, Nat.reduceMul, Nat.reduceDiv, Nat.reduceMod, Nat.reducePow, Nat.zero_add, Nat.add_zero, Nat.one_mul, Nat.mul_one, n_in, n_min, n_clamp, n_eq_t, n_eq_f, n_eq, n_le_t, n_le_f, n_le, n_lt_t, n_lt_f, n_lt, n_sub0, n_sublt, n_suble, n_negsub, m_up_hit, m_up_miss, m_row_hit, m_row_miss, n_eqm, n_meq, n_meqm, n_ltm, n_lem, n_mlt, n_mle, n_sub, n_div, n_and1, n_shl, n_shr, n_inc, n_mul, n_rem, z_lt, z_le, z_nlt, z_nle, Nat.not_lt_zero, Nat.le_zero_eq, Nat.zero_le, if_true, if_false, m0, o1]
    apply ka
    intro I1 F1 h1 om
    have key := hQ I1 F1 pm (Nat.le_refl _) (by omega) (fun _ => rfl) rfl (MX_om h h1 om) (AM_om ha om) (FrR_om om) (g7 om)
    simp (disch := omega) only [e162_103, true_or, m_psh_s, m_psh_n, m_kl_i, m_kl_f, m_kl_r, m_kl_n, m_kl_j, m_kl_l, m_kl_d, c_i, c_f, c_r, c_n, List.length_nil, List.length_cons, true_and, and_true, Nat.reduceAdd, Nat.reduceLeDiff, Nat.reduceSub, Nat.reduceEqDiff, Nat.reduceLT, ge_iff_le, gt_iff_lt, n_lit, m_in, m_nar0, m_nar1, and_self, not_false_eq_true, not_true_eq_false, ne_eq, reduceIte, ite_self, Nat.reduceMul, Nat.reduceDiv, Nat.reduceMod, Nat.reducePow, Nat.zero_add, Nat.add_zero, Nat.one_mul, Nat.mul_one, n_in, n_min, n_clamp, n_eq_t, n_eq_f, n_eq, n_le_t, n_le_f, n_le, n_lt_t, n_lt_f, n_lt, n_sub0, n_sublt, n_suble, n_negsub, m_up_hit, m_up_miss, m_row_hit, m_row_miss, n_eqm, n_meq, n_meqm, n_ltm, n_lem, n_mlt, n_mle, n_sub, n_div, n_and1, n_shl, n_shr, n_inc, n_mul, n_rem, z_lt, z_le, z_nlt, z_nle, Nat.not_lt_zero, Nat.le_zero_eq, Nat.zero_le, if_true, if_false]
    exact key
theorem RD_g {s ft : Nat} (h : RD I s ft) (hg : G7 I I') : RD I' s ft := ⟨by rw [hg 17 (by omega)]; exact h.1, by rw [hg 18 (by omega)]; exact h.2⟩
theorem r_goT (h80 : pl ≤ 80) (hp : padOK pl pc) (hd : 8 ≤ d) (f : Nat) : ∀ (s k pm : Nat) (S : Nat → Nat) (sp : Nat → UInt32) (hi : List Nat) (I : mI) (F : mF) (st0 : St), MX lay I F R S sp hi pm hs pl pc sv → AM I F pm st0 → RD I s 0 → s ≤ pl → pl < s + f → ff pl pc s (0, 32, 1) = none → Wf S sp hi → hi.length ≤ pm → 3 * pm + (pl + 1 - s) ≤ 5900 →
    (∀ I' F' pm' v2, pm ≤ pm' → (q_go pl pc f s k (S, sp, hi)).2.2.2.length + pm = hi.length + pm' → MX lay I' F' R (q_go pl pc f s k (S, sp, hi)).2.1 (q_go pl pc f s k (S, sp, hi)).2.2.1 (q_go pl pc f s k (S, sp, hi)).2.2.2 pm' hs pl pc sv → AM I' F' pm' st0 → FrR I F I' F' → Ev lay d 156 105 [.ref 166, .int (nI 1), .int (nI (q_go pl pc f s k (S, sp, hi)).1), .int v2] [] I' F' R n Q) →
    Ev lay d 156 14 [.ref 166, .int (nI 1), .int (nI k), .int (nI 1)] [] I F R n Q := by
  induction f with
  | zero => intro s k pm S sp hi I F st0 _ _ _ h1 h2; omega
  | succ f ih =>
    intro s k pm S sp hi I F st0 h ha hr hs hf hv wf hlen hb hQ
    have m0 := h.1.1
    have hl := h.1
    have hv' := hv
    rw [ff_od hp h80 hs] at hv'
    rw [q_go] at hQ
    cases e : q_od pl pc s with
    | inl p => rw [e] at hv'; cases hv'
    | inr x =>
      obtain ⟨l, f1, g1, t, w, s1⟩ := x
      rw [e] at hv' hQ
      dsimp only at hv' hQ
      have e1 := q_od_lt e
      have e2 := q_od_tw e
      have ko : ∀ (Q : mP), _ → _ := fun Q hQ => r_readOrder (d := d - 1) (F := F) (n := n) (Q := Q) hl h.2.2.2.2.2.2 h80 hp hr hs (by omega) hQ
      rw [e] at ko
      rw [e156_14]
      simp (disch := omega) only [e156_15, e156_18, e156_18N, e156_19, true_or, m_psh_s, m_psh_n, m_kl_i, m_kl_f, m_kl_r, m_kl_n, m_kl_j, m_kl_l, m_kl_d, c_i, c_f, c_r, c_n, List.length_nil, List.length_cons, true_and, and_true, Nat.reduceAdd, Nat.reduceLeDiff, Nat.reduceSub, Nat.reduceEqDiff, Nat.reduceLT, ge_iff_le, gt_iff_lt, n_lit, m_in, m_nar0, m_nar1, and_self, not_false_eq_true, not_true_eq_false, ne_eq, reduceIte, ite_self, Nat.reduceMul, Nat.reduceDiv, Nat.reduceMod, Nat.reducePow, Nat.zero_add, Nat.add_zero, Nat.one_mul, Nat.mul_one, n_in, n_min, n_clamp, n_eq_t, n_eq_f, n_eq, n_le_t, n_le_f, n_le, n_lt_t, n_lt_f, n_lt, n_sub0, n_sublt, n_suble, n_negsub, m_up_hit, m_up_miss, m_row_hit, m_row_miss, n_eqm, n_meq, n_meqm, n_ltm, n_lem, n_mlt, n_mle, n_sub, n_div, n_and1, n_shl, n_shr, n_inc, n_mul, n_rem, z_lt, z_le, z_nlt, z_nle, Nat.not_lt_zero, Nat.le_zero_eq, Nat.zero_le, if_true, if_false, m0]
      apply ko
      intro I1 f1' q1
      dsimp only at q1
      obtain ⟨rd1, or1⟩ := q1
      obtain ⟨r1, r2⟩ := rd1
      have h1 := MX_7 h f1'
      have a1 := AM_7 ha f1'
      have kd : ∀ (Q : mP), _ → _ := fun Q hQ => r_does (d := d - 1) (n := n) (Q := Q) h1 a1 wf or1 e2.1 e2.2.1 (by omega) (by omega) e2.2.2.2.2 (by omega) hQ
      simp (disch := omega) only [e156_22, e156_22N, e156_23, e156_26, e156_29, e156_30, e156_33, e156_33N, e156_34, true_or, m_psh_s, m_psh_n, m_kl_i, m_kl_f, m_kl_r, m_kl_n, m_kl_j, m_kl_l, m_kl_d, c_i, c_f, c_r, c_n, List.length_nil, List.length_cons, true_and, and_true, Nat.reduceAdd, Nat.reduceLeDiff, Nat.reduceSub, Nat.reduceEqDiff, Nat.reduceLT, ge_iff_le, gt_iff_lt, n_lit, m_in, m_nar0, m_nar1, and_self, not_false_eq_true, not_true_eq_false, ne_eq, reduceIte, ite_self, Nat.reduceMul, Nat.reduceDiv, Nat.reduceMod, Nat.reducePow, Nat.zero_add, Nat.add_zero, Nat.one_mul, Nat.mul_one, n_in, n_min, n_clamp, n_eq_t, n_eq_f, n_eq, n_le_t, n_le_f, n_le, n_lt_t, n_lt_f, n_lt, n_sub0, n_sublt, n_suble, n_negsub, m_up_hit, m_up_miss, m_row_hit, m_row_miss, n_eqm, n_meq, n_meqm, n_ltm, n_lem, n_mlt, n_mle, n_sub, n_div, n_and1, n_shl, n_shr, n_inc, n_mul, n_rem, z_lt, z_le, z_nlt, z_nle, Nat.not_lt_zero, Nat.le_zero_eq, Nat.zero_le, if_true, if_false, m0, r2]
      apply kd
      intro I2 F2 pm2 b1 b2 b3 b4 h2 a2 fr2 g2
      have W1 := Wf_ex (l := l) (f := f1) (g := g1) (t := t) (w := w) wf
      have bb : 3 * pm2 + (pl + 1 - (s1 + 1)) ≤ 3 * pm + (pl + 1 - s) := by
        by_cases c : l = 98
        · have := e1.2.2 c
          omega
        · have := b3 c
          omega
      have rd2 := RD_g (I := I1) (I' := I2) ⟨r1, r2⟩ g2
      have p11 := h2.2.2.2.2.2.2.1
      by_cases c : (q_exO S sp hi l f1 g1 t w).1 < nI 0
      · rw [if_pos c] at hQ
        have key := fun v2 => hQ I2 F2 pm2 v2 b1 b4 h2 a2 (FrR_trans (FrR_7 f1') fr2)
        simp (disch := omega) only [e156_37, e156_40, e156_41, e156_44, e156_45, e156_46, e156_47, e156_48, e156_51, e156_52, e156_55, e156_56, e156_57, e156_58, e156_59, e156_62, e156_62N, e156_63, e156_66, e156_66N, e156_67, e156_70, e156_73, e156_74, e156_77, e156_78, e156_79, e156_80, true_or, m_psh_s, m_psh_n, m_kl_i, m_kl_f, m_kl_r, m_kl_n, m_kl_j, m_kl_l, m_kl_d, c_i, c_f, c_r, c_n, List.length_nil, List.length_cons, true_and, and_true, Nat.reduceAdd, Nat.reduceLeDiff, Nat.reduceSub, Nat.reduceEqDiff, Nat.reduceLT, ge_iff_le, gt_iff_lt, n_lit, m_in, m_nar0, m_nar1, and_self, not_false_eq_true, not_true_eq_false, ne_eq, reduceIte, ite_self, Nat.reduceMul, Nat.reduceDiv, Nat.reduceMod, Nat.reducePow, Nat.zero_add, Nat.add_zero, Nat.one_mul, Nat.mul_one, n_in, n_min, n_clamp, n_eq_t, n_eq_f, n_eq, n_le_t, n_le_f, n_le, n_lt_t, n_lt_f, n_lt, n_sub0, n_sublt, n_suble, n_negsub, m_up_hit, m_up_miss, m_row_hit, m_row_miss, n_eqm, n_meq, n_meqm, n_ltm, n_lem, n_mlt, n_mle, n_sub, n_div, n_and1, n_shl, n_shr, n_inc, n_mul, n_rem, z_lt, z_le, z_nlt, z_nle, Nat.not_lt_zero, Nat.le_zero_eq, Nat.zero_le, if_true, if_false, m0, c, if_pos c]
        rw [e156_14]
        simp (disch := omega) only [e156_15, true_or, m_psh_s, m_psh_n, m_kl_i, m_kl_f, m_kl_r, m_kl_n, m_kl_j, m_kl_l, m_kl_d, c_i, c_f, c_r, c_n, List.length_nil, List.length_cons, true_and, and_true, Nat.reduceAdd, Nat.reduceLeDiff, Nat.reduceSub, Nat.reduceEqDiff, Nat.reduceLT, ge_iff_le, gt_iff_lt, n_lit, m_in, m_nar0, m_nar1, and_self, not_false_eq_true, not_true_eq_false, ne_eq, reduceIte, ite_self, Nat.reduceMul, Nat.reduceDiv, Nat.reduceMod, Nat.reducePow, Nat.zero_add, Nat.add_zero, Nat.one_mul, Nat.mul_one, n_in, n_min, n_clamp, n_eq_t, n_eq_f, n_eq, n_le_t, n_le_f, n_le, n_lt_t, n_lt_f, n_lt, n_sub0, n_sublt, n_suble, n_negsub, m_up_hit, m_up_miss, m_row_hit, m_row_miss, n_eqm, n_meq, n_meqm, n_ltm, n_lem, n_mlt, n_mle, n_sub, n_div, n_and1, n_shl, n_shr, n_inc, n_mul, n_rem, z_lt, z_le, z_nlt, z_nle, Nat.not_lt_zero, Nat.le_zero_eq, Nat.zero_le, if_true, if_false]
        exact key _
      · rw [if_neg c] at hQ
        obtain ⟨q, hq, eq⟩ : ∃ q : Nat, q < 2147483648 ∧ (q_exO S sp hi l f1 g1 t w).1 = nI q := by
          rcases n_g (q_exO S sp hi l f1 g1 t w).1 with ⟨q, h1, h2⟩ | hx
          · exact ⟨q, h1, h2⟩
          · exact absurd hx c
        rw [eq]
        obtain ⟨s17, s18⟩ := rd2
        by_cases c1 : s1 < pl
        · rw [if_pos c1] at hQ
          rw [ff_32 hp e1.2.1, if_pos c1] at hv'
          have c2 : pc s1 = 59 := by
            by_cases c2 : pc s1 = 59
            · exact c2
            · rw [if_neg c2] at hv'; cases hv'
          rw [if_pos c2] at hv'
          have kt : ∀ (Q : mP), _ → _ := fun Q hQ => r_takes (d := d - 1) (F := F2) (n := n) (Q := Q) (x := 59) hl h2.2.2.2.2.2.2 h80 hp ⟨s17, s18⟩ e1.2.1 (by omega) (by omega) (by omega) hQ
          rw [if_pos ⟨rfl, c1, c2⟩, if_pos ⟨rfl, c1, c2⟩] at kt
          simp (disch := omega) only [e156_37, e156_40, e156_41, e156_44, e156_45, e156_46, e156_47, e156_48, e156_51, e156_52, e156_55, e156_56, e156_57, e156_58, e156_59, e156_62, e156_62N, e156_63, e156_66, e156_66N, e156_67, e156_70, e156_73, e156_74, e156_77, e156_78, e156_79, e156_80, e156_83, e156_83N, e156_84, e156_86, true_or, m_psh_s, m_psh_n, m_kl_i, m_kl_f, m_kl_r, m_kl_n, m_kl_j, m_kl_l, m_kl_d, c_i, c_f, c_r, c_n, List.length_nil, List.length_cons, true_and, and_true, Nat.reduceAdd, Nat.reduceLeDiff, Nat.reduceSub, Nat.reduceEqDiff, Nat.reduceLT, ge_iff_le, gt_iff_lt, n_lit, m_in, m_nar0, m_nar1, and_self, not_false_eq_true, not_true_eq_false, ne_eq, reduceIte, ite_self, Nat.reduceMul, Nat.reduceDiv, Nat.reduceMod, Nat.reducePow, Nat.zero_add, Nat.add_zero, Nat.one_mul, Nat.mul_one, n_in, n_min, n_clamp, n_eq_t, n_eq_f, n_eq, n_le_t, n_le_f, n_le, n_lt_t, n_lt_f, n_lt, n_sub0, n_sublt, n_suble, n_negsub, m_up_hit, m_up_miss, m_row_hit, m_row_miss, n_eqm, n_meq, n_meqm, n_ltm, n_lem, n_mlt, n_mle, n_sub, n_div, n_and1, n_shl, n_shr, n_inc, n_mul, n_rem, z_lt, z_le, z_nlt, z_nle, Nat.not_lt_zero, Nat.le_zero_eq, Nat.zero_le, if_true, if_false, m0, s17, s18, p11]
          apply kt
          intro I3 f3 rd3
          have key := ih (s1 + 1) (k + 1) pm2 _ _ _ I3 F2 st0 (MX_7 h2 (F2_7 f3)) (AM_7 a2 (F2_7 f3)) rd3 c1 (by omega) hv' W1 (by omega) (by omega) (fun I' F' pm' v2 k1 k2 k3 k4 k5 => hQ I' F' pm' v2 (by omega) (by
            have k2' : (q_go pl pc f (s1 + 1) (k + 1) (q_exO S sp hi l f1 g1 t w).2).2.2.2.length + pm2 = (q_exO S sp hi l f1 g1 t w).2.2.2.length + pm' := k2
            omega) k3 k4 (FrR_trans (FrR_7 f1') (FrR_trans fr2 (FrR_trans (FrR_7 (F2_7 f3)) k5))))
          have r2' := rd3.2
          simp (disch := omega) only [e156_89, e156_89N, e156_90, e156_93, e156_96, e156_97, e156_100, e156_101, e156_102, true_or, m_psh_s, m_psh_n, m_kl_i, m_kl_f, m_kl_r, m_kl_n, m_kl_j, m_kl_l, m_kl_d, c_i, c_f, c_r, c_n, List.length_nil, List.length_cons, true_and, and_true, Nat.reduceAdd, Nat.reduceLeDiff, Nat.reduceSub, Nat.reduceEqDiff, Nat.reduceLT, ge_iff_le, gt_iff_lt, n_lit, m_in, m_nar0, m_nar1, and_self, not_false_eq_true, not_true_eq_false, ne_eq, reduceIte, ite_self, Nat.reduceMul, Nat.reduceDiv, Nat.reduceMod, Nat.reducePow, Nat.zero_add, Nat.add_zero, Nat.one_mul, Nat.mul_one, n_in, n_min, n_clamp, n_eq_t, n_eq_f, n_eq, n_le_t, n_le_f, n_le, n_lt_t, n_lt_f, n_lt, n_sub0, n_sublt, n_suble, n_negsub, m_up_hit, m_up_miss, m_row_hit, m_row_miss, n_eqm, n_meq, n_meqm, n_ltm, n_lem, n_mlt, n_mle, n_sub, n_div, n_and1, n_shl, n_shr, n_inc, n_mul, n_rem, z_lt, z_le, z_nlt, z_nle, Nat.not_lt_zero, Nat.le_zero_eq, Nat.zero_le, if_true, if_false, m0, r2']
          exact key
        · rw [if_neg c1] at hQ
          have key := fun v2 => hQ I2 F2 pm2 v2 b1 b4 h2 a2 (FrR_trans (FrR_7 f1') fr2)
          simp (disch := omega) only [e156_37, e156_40, e156_41, e156_44, e156_45, e156_46, e156_47, e156_48, e156_51, e156_52, e156_55, e156_56, e156_57, e156_58, e156_59, e156_62, e156_62N, e156_63, e156_66, e156_66N, e156_67, e156_70, e156_73, e156_74, e156_77, e156_78, e156_79, e156_80, true_or, m_psh_s, m_psh_n, m_kl_i, m_kl_f, m_kl_r, m_kl_n, m_kl_j, m_kl_l, m_kl_d, c_i, c_f, c_r, c_n, List.length_nil, List.length_cons, true_and, and_true, Nat.reduceAdd, Nat.reduceLeDiff, Nat.reduceSub, Nat.reduceEqDiff, Nat.reduceLT, ge_iff_le, gt_iff_lt, n_lit, m_in, m_nar0, m_nar1, and_self, not_false_eq_true, not_true_eq_false, ne_eq, reduceIte, ite_self, Nat.reduceMul, Nat.reduceDiv, Nat.reduceMod, Nat.reducePow, Nat.zero_add, Nat.add_zero, Nat.one_mul, Nat.mul_one, n_in, n_min, n_clamp, n_eq_t, n_eq_f, n_eq, n_le_t, n_le_f, n_le, n_lt_t, n_lt_f, n_lt, n_sub0, n_sublt, n_suble, n_negsub, m_up_hit, m_up_miss, m_row_hit, m_row_miss, n_eqm, n_meq, n_meqm, n_ltm, n_lem, n_mlt, n_mle, n_sub, n_div, n_and1, n_shl, n_shr, n_inc, n_mul, n_rem, z_lt, z_le, z_nlt, z_nle, Nat.not_lt_zero, Nat.le_zero_eq, Nat.zero_le, if_true, if_false, m0, s17, s18, p11]
          rw [e156_14]
          simp (disch := omega) only [e156_15, true_or, m_psh_s, m_psh_n, m_kl_i, m_kl_f, m_kl_r, m_kl_n, m_kl_j, m_kl_l, m_kl_d, c_i, c_f, c_r, c_n, List.length_nil, List.length_cons, true_and, and_true, Nat.reduceAdd, Nat.reduceLeDiff, Nat.reduceSub, Nat.reduceEqDiff, Nat.reduceLT, ge_iff_le, gt_iff_lt, n_lit, m_in, m_nar0, m_nar1, and_self, not_false_eq_true, not_true_eq_false, ne_eq, reduceIte, ite_self, Nat.reduceMul, Nat.reduceDiv, Nat.reduceMod, Nat.reducePow, Nat.zero_add, Nat.add_zero, Nat.one_mul, Nat.mul_one, n_in, n_min, n_clamp, n_eq_t, n_eq_f, n_eq, n_le_t, n_le_f, n_le, n_lt_t, n_lt_f, n_lt, n_sub0, n_sublt, n_suble, n_negsub, m_up_hit, m_up_miss, m_row_hit, m_row_miss, n_eqm, n_meq, n_meqm, n_ltm, n_lem, n_mlt, n_mle, n_sub, n_div, n_and1, n_shl, n_shr, n_inc, n_mul, n_rem, z_lt, z_le, z_nlt, z_nle, Nat.not_lt_zero, Nat.le_zero_eq, Nat.zero_le, if_true, if_false]
          exact key _
theorem m_carry0 {p : Nat} (h : MX lay I F R S sp hi pm hs pl pc sv) (h80 : pl ≤ 80) (hp : padOK pl pc) (hd : 7 ≤ d) (hf : q_flt pl pc = some p) (hQ : ∀ I' F', MX lay I' F' R S sp hi pm hs pl pc sv → FrR I F I' F' → Q (some (.int (-nI 3))) I' F' R n) : Ev lay d 163 0 [.ref 166, m_j] [] I F R n Q := by
  have m0 := h.1.1
  have hpp : p ≤ pl := q_ff_le pl 0 (0, 32, 0) p (by omega) hf
  have kf : ∀ (Q : mP), _ → _ := fun Q hQ => r_fault (d := d - 1) (n := n) (Q := Q) h h80 hp (by omega) hQ
  simp (disch := omega) only [e163_0, e163_0N, e163_1, true_or, m_psh_s, m_psh_n, m_kl_i, m_kl_f, m_kl_r, m_kl_n, m_kl_j, m_kl_l, m_kl_d, c_i, c_f, c_r, c_n, List.length_nil, List.length_cons, true_and, and_true, Nat.reduceAdd, Nat.reduceLeDiff, Nat.reduceSub, Nat.reduceEqDiff, Nat.reduceLT, ge_iff_le, gt_iff_lt, n_lit, m_in, m_nar0, m_nar1, and_self, not_false_eq_true, not_true_eq_false, ne_eq, reduceIte, ite_self, Nat.reduceMul, Nat.reduceDiv, Nat.reduceMod, Nat.reducePow, Nat.zero_add, Nat.add_zero, Nat.one_mul, Nat.mul_one, n_in, n_min, n_clamp, n_eq_t, n_eq_f, n_eq, n_le_t, n_le_f, n_le, n_lt_t, n_lt_f, n_lt, n_sub0, n_sublt, n_suble, n_negsub, m_up_hit, m_up_miss, m_row_hit, m_row_miss, n_eqm, n_meq, n_meqm, n_ltm, n_lem, n_mlt, n_mle, n_sub, n_div, n_and1, n_shl, n_shr, n_inc, n_mul, n_rem, z_lt, z_le, z_nlt, z_nle, Nat.not_lt_zero, Nat.le_zero_eq, Nat.zero_le, if_true, if_false, m0]
  apply kf
  intro I1 f1
  have key := hQ I1 F (MX_7 h f1) (FrR_7 f1)
  rw [hf]
  simp (disch := omega) only [e163_4, e163_6, e163_9, e163_11, true_or, m_psh_s, m_psh_n, m_kl_i, m_kl_f, m_kl_r, m_kl_n, m_kl_j, m_kl_l, m_kl_d, c_i, c_f, c_r, c_n, List.length_nil, List.length_cons, true_and, and_true, Nat.reduceAdd, Nat.reduceLeDiff, Nat.reduceSub, Nat.reduceEqDiff, Nat.reduceLT, ge_iff_le, gt_iff_lt, n_lit, m_in, m_nar0, m_nar1, and_self, not_false_eq_true, not_true_eq_false, ne_eq, reduceIte, ite_self, Nat.reduceMul, Nat.reduceDiv, Nat.reduceMod, Nat.reducePow, Nat.zero_add, Nat.add_zero, Nat.one_mul, Nat.mul_one, n_in, n_min, n_clamp, n_eq_t, n_eq_f, n_eq, n_le_t, n_le_f, n_le, n_lt_t, n_lt_f, n_lt, n_sub0, n_sublt, n_suble, n_negsub, m_up_hit, m_up_miss, m_row_hit, m_row_miss, n_eqm, n_meq, n_meqm, n_ltm, n_lem, n_mlt, n_mle, n_sub, n_div, n_and1, n_shl, n_shr, n_inc, n_mul, n_rem, z_lt, z_le, z_nlt, z_nle, Nat.not_lt_zero, Nat.le_zero_eq, Nat.zero_le, if_true, if_false, q_oI]
  exact key
theorem m_carry1 (h : MX lay I F R S sp hi pm hs pl pc sv) (h80 : pl ≤ 80) (hp : padOK pl pc) (hd : 9 ≤ d) (hf : q_flt pl pc = none) (wf : Wf S sp hi) (hlen : hi.length ≤ pm) (hb : 3 * pm + (pl + 1) ≤ 5900)
    (hQ : ∀ I' F' pm', pm ≤ pm' → (q_go pl pc 81 0 0 (S, sp, hi)).2.2.2.length + pm = hi.length + pm' → MX lay I' F' R (q_go pl pc 81 0 0 (S, sp, hi)).2.1 (q_go pl pc 81 0 0 (S, sp, hi)).2.2.1 (q_go pl pc 81 0 0 (S, sp, hi)).2.2.2 pm' (q_rec hs (S, sp, hi)) 0 pc sv → FrR I F I' F' → Q (some (.int (nI (q_go pl pc 81 0 0 (S, sp, hi)).1))) I' F' R n) : Ev lay d 163 0 [.ref 166, m_j] [] I F R n Q := by
  have m0 := h.1.1
  have kf : ∀ (Q : mP), _ → _ := fun Q hQ => r_fault (d := d - 1) (n := n) (Q := Q) h h80 hp (by omega) hQ
  simp (disch := omega) only [e163_0, e163_0N, e163_1, true_or, m_psh_s, m_psh_n, m_kl_i, m_kl_f, m_kl_r, m_kl_n, m_kl_j, m_kl_l, m_kl_d, c_i, c_f, c_r, c_n, List.length_nil, List.length_cons, true_and, and_true, Nat.reduceAdd, Nat.reduceLeDiff, Nat.reduceSub, Nat.reduceEqDiff, Nat.reduceLT, ge_iff_le, gt_iff_lt, n_lit, m_in, m_nar0, m_nar1, and_self, not_false_eq_true, not_true_eq_false, ne_eq, reduceIte, ite_self, Nat.reduceMul, Nat.reduceDiv, Nat.reduceMod, Nat.reducePow, Nat.zero_add, Nat.add_zero, Nat.one_mul, Nat.mul_one, n_in, n_min, n_clamp, n_eq_t, n_eq_f, n_eq, n_le_t, n_le_f, n_le, n_lt_t, n_lt_f, n_lt, n_sub0, n_sublt, n_suble, n_negsub, m_up_hit, m_up_miss, m_row_hit, m_row_miss, n_eqm, n_meq, n_meqm, n_ltm, n_lem, n_mlt, n_mle, n_sub, n_div, n_and1, n_shl, n_shr, n_inc, n_mul, n_rem, z_lt, z_le, z_nlt, z_nle, Nat.not_lt_zero, Nat.le_zero_eq, Nat.zero_le, if_true, if_false, m0]
  apply kf
  intro I1 f1
  have h1 := MX_7 h f1
  rw [hf]
  have kp : ∀ (Q : mP), _ → _ := fun Q hQ => r_putAside (d := d - 1) (n := n) (Q := Q) h1 hQ
  simp (disch := omega) only [e163_4, e163_6, e163_9, e163_11, e163_12, e163_12N, e163_13, true_or, m_psh_s, m_psh_n, m_kl_i, m_kl_f, m_kl_r, m_kl_n, m_kl_j, m_kl_l, m_kl_d, c_i, c_f, c_r, c_n, List.length_nil, List.length_cons, true_and, and_true, Nat.reduceAdd, Nat.reduceLeDiff, Nat.reduceSub, Nat.reduceEqDiff, Nat.reduceLT, ge_iff_le, gt_iff_lt, n_lit, m_in, m_nar0, m_nar1, and_self, not_false_eq_true, not_true_eq_false, ne_eq, reduceIte, ite_self, Nat.reduceMul, Nat.reduceDiv, Nat.reduceMod, Nat.reducePow, Nat.zero_add, Nat.add_zero, Nat.one_mul, Nat.mul_one, n_in, n_min, n_clamp, n_eq_t, n_eq_f, n_eq, n_le_t, n_le_f, n_le, n_lt_t, n_lt_f, n_lt, n_sub0, n_sublt, n_suble, n_negsub, m_up_hit, m_up_miss, m_row_hit, m_row_miss, n_eqm, n_meq, n_meqm, n_ltm, n_lem, n_mlt, n_mle, n_sub, n_div, n_and1, n_shl, n_shr, n_inc, n_mul, n_rem, z_lt, z_le, z_nlt, z_nle, Nat.not_lt_zero, Nat.le_zero_eq, Nat.zero_le, if_true, if_false, m0, q_oI]
  apply kp
  intro I2 F2 h2 a2 f2
  have f0 : F7 I2 (m_up (m_up I2 166 17 (nI 0)) 166 18 (nI 0)) := F7_trans (F7_up (by omega)) (F7_up (by omega))
  have hv : ff pl pc 0 (0, 32, 1) = none := by
    rw [ff_0 (mk' := 32) (me' := 0) (by omega)]
    exact hf
  have key := r_goT (lay := lay) (d := d - 1) (n := n) (Q := fun v I F R n => Ev lay d 163 21 [.ref 166, m_j] (m_psh v []) I F R n Q) h80 hp (by omega) 81 0 0 pm S sp hi _ F2 (S, sp, hi) (MX_7 h2 f0) (AM_7 a2 f0) ⟨by rw [m_up_miss (by omega), m_up_at], m_up_at⟩ (by omega) (by omega) hv wf hlen (by omega) (fun I3 F3 pm3 v2 k1 k2 k3 k4 k5 => by
    have kr : ∀ (Q : mP), _ → _ := fun Q hQ => r_record (d := d - 1) (n := n) (Q := Q) k3 k4 hQ
    simp (disch := omega) only [e156_105, e156_106, e163_21, e163_22, e163_22N, e163_23, true_or, m_psh_s, m_psh_n, m_kl_i, m_kl_f, m_kl_r, m_kl_n, m_kl_j, m_kl_l, m_kl_d, c_i, c_f, c_r, c_n, List.length_nil, List.length_cons, true_and, and_true, Nat.reduceAdd, Nat.reduceLeDiff, Nat.reduceSub, Nat.reduceEqDiff, Nat.reduceLT, ge_iff_le, gt_iff_lt, n_lit, m_in, m_nar0, m_nar1, and_self, not_false_eq_true, not_true_eq_false, ne_eq, reduceIte, ite_self, Nat.reduceMul, Nat.reduceDiv, Nat.reduceMod, Nat.reducePow, Nat.zero_add, Nat.add_zero, Nat.one_mul, Nat.mul_one, n_in, n_min, n_clamp, n_eq_t, n_eq_f, n_eq, n_le_t, n_le_f, n_le, n_lt_t, n_lt_f, n_lt, n_sub0, n_sublt, n_suble, n_negsub, m_up_hit, m_up_miss, m_row_hit, m_row_miss, n_eqm, n_meq, n_meqm, n_ltm, n_lem, n_mlt, n_mle, n_sub, n_div, n_and1, n_shl, n_shr, n_inc, n_mul, n_rem, z_lt, z_le, z_nlt, z_nle, Nat.not_lt_zero, Nat.le_zero_eq, Nat.zero_le, if_true, if_false, m0]
    apply kr
    intro I4 F4 h4 f4
    have key := hQ (m_up I4 166 11 (nI 0)) F4 pm3 k1 k2 (MX_pad h4 ⟨m_up_at, fun k hk => by omega⟩ (fun x a1 _ => m_up_off a1) (fun k hk => m_up_ne hk)) (FrR_trans (FrR_7 f1) (FrR_trans f2 (FrR_trans (FrR_7 f0) (FrR_trans k5 (FrR_trans f4 (FrR_up (by omega)))))))
    simp (disch := omega) only [e163_26, e163_26N, e163_27, e163_28, e163_31, e163_32, true_or, m_psh_s, m_psh_n, m_kl_i, m_kl_f, m_kl_r, m_kl_n, m_kl_j, m_kl_l, m_kl_d, c_i, c_f, c_r, c_n, List.length_nil, List.length_cons, true_and, and_true, Nat.reduceAdd, Nat.reduceLeDiff, Nat.reduceSub, Nat.reduceEqDiff, Nat.reduceLT, ge_iff_le, gt_iff_lt, n_lit, m_in, m_nar0, m_nar1, and_self, not_false_eq_true, not_true_eq_false, ne_eq, reduceIte, ite_self, Nat.reduceMul, Nat.reduceDiv, Nat.reduceMod, Nat.reducePow, Nat.zero_add, Nat.add_zero, Nat.one_mul, Nat.mul_one, n_in, n_min, n_clamp, n_eq_t, n_eq_f, n_eq, n_le_t, n_le_f, n_le, n_lt_t, n_lt_f, n_lt, n_sub0, n_sublt, n_suble, n_negsub, m_up_hit, m_up_miss, m_row_hit, m_row_miss, n_eqm, n_meq, n_meqm, n_ltm, n_lem, n_mlt, n_mle, n_sub, n_div, n_and1, n_shl, n_shr, n_inc, n_mul, n_rem, z_lt, z_le, z_nlt, z_nle, Nat.not_lt_zero, Nat.le_zero_eq, Nat.zero_le, if_true, if_false, m0]
    exact key)
  simp (disch := omega) only [e163_16, e163_16N, e163_17, e163_18, e156_0, e156_0N, e156_1, e156_2, e156_5, e156_5N, e156_6, e156_7, e156_10, e156_11, e156_12, e156_13, true_or, m_psh_s, m_psh_n, m_kl_i, m_kl_f, m_kl_r, m_kl_n, m_kl_j, m_kl_l, m_kl_d, c_i, c_f, c_r, c_n, List.length_nil, List.length_cons, true_and, and_true, Nat.reduceAdd, Nat.reduceLeDiff, Nat.reduceSub, Nat.reduceEqDiff, Nat.reduceLT, ge_iff_le, gt_iff_lt, n_lit, m_in, m_nar0, m_nar1, and_self, not_false_eq_true, not_true_eq_false, ne_eq, reduceIte, ite_self, Nat.reduceMul, Nat.reduceDiv, Nat.reduceMod, Nat.reducePow, Nat.zero_add, Nat.add_zero, Nat.one_mul, Nat.mul_one, n_in, n_min, n_clamp, n_eq_t, n_eq_f, n_eq, n_le_t, n_le_f, n_le, n_lt_t, n_lt_f, n_lt, n_sub0, n_sublt, n_suble, n_negsub, m_up_hit, m_up_miss, m_row_hit, m_row_miss, n_eqm, n_meq, n_meqm, n_ltm, n_lem, n_mlt, n_mle, n_sub, n_div, n_and1, n_shl, n_shr, n_inc, n_mul, n_rem, z_lt, z_le, z_nlt, z_nle, Nat.not_lt_zero, Nat.le_zero_eq, Nat.zero_le, if_true, if_false, m0, true_or, or_true]
  exact key
end MCARRY
