section MPUT
variable {lay : mL} {d a n n' : Nat} {I I' : mI} {F F' : mF} {R R' : mR} {Q : mP} {S : Nat → Nat} {sp : Nat → UInt32} {hi : List Nat} {pm pm' pl : Nat} {hs : List St} {pc : Nat → Nat} {sv : Nat → Option St}
theorem wb_c : ∀ k, k < 64 → ((nI k).toInt64 &&& 63) = lN k := by decide +kernel
theorem wb_sm : ∀ k, k < 64 → ((BitVec.ofNat 64 k).smod 64).toNat = k := by decide +kernel
theorem l_sar {u k : Nat} (hk : k ≤ 56) (hu : u < 18446744073709551616) : (lN u >>> ((nI k).toInt64 &&& lN 63)) &&& lN 255 = lN (u / 2 ^ k % 256) := by
  have e : ((nI k).toInt64 &&& lN 63) = lN k := wb_c k (by omega)
  rw [e]
  apply wb_inj
  have h1 : (lN u >>> lN k).toBitVec = (BitVec.ofNat 64 u).sshiftRight k := by
    show (lN u).toBitVec.sshiftRight (((lN k).toBitVec.smod 64).toNat) = _
    rw [wb_tb, wb_tb, wb_sm k (by omega)]
  rw [Int64.toBitVec_and, h1, wb_tb, wb_tb]
  apply BitVec.eq_of_getLsbD_eq
  intro i hi
  rw [BitVec.getLsbD_and, BitVec.getLsbD_sshiftRight, BitVec.getLsbD_ofNat, BitVec.getLsbD_ofNat, BitVec.getLsbD_ofNat]
  have e255 : (255 : Nat).testBit i = decide (i < 8) := by
    rw [show (255 : Nat) = 2 ^ 8 - 1 from rfl, Nat.testBit_two_pow_sub_one]
  have e256 : (u / 2 ^ k % 256).testBit i = (decide (i < 8) && u.testBit (k + i)) := by
    rw [show (256 : Nat) = 2 ^ 8 from rfl, Nat.testBit_mod_two_pow, Nat.testBit_div_two_pow, Nat.add_comm]
  rw [e255, e256]
  by_cases c : i < 8
  · have c2 : k + i < 64 := by omega
    simp [c, c2, hi]
  · simp [c]
def q_bad2 (o : Option Nat) : Prop := o = none ∨ o = some 0
/-- where the reference stands in a text of characters -/
def q_pi (u k many ov wr : Nat) : Prop := (wr = 1 ∧ many ≤ k ∧ ov ≤ 1 ∧ q_bad2 (q_scan u 8 0)) ∨ (wr = 0 ∧ ov = 0 ∧ many = k ∧ q_scan u 8 0 = q_scan u (8 - k) k ∧ (k = 0 → u % 256 ≠ 0)) ∨ (wr = 0 ∧ ov = 1 ∧ many < k ∧ 1 ≤ many ∧ q_scan u 8 0 = (if u / 2 ^ (8 * many) = 0 then some many else none) ∧ ∀ j, many ≤ j → j < k → u / 2 ^ (8 * j) % 256 = 0)
theorem by_zero {u m : Nat} (hu : u < 18446744073709551616) (j : Nat) : ∀ k, k + j = 8 → m ≤ k → (∀ i, m ≤ i → i < 8 → u / 2 ^ (8 * i) % 256 = 0) → u / 2 ^ (8 * k) = 0 := by
  induction j with
  | zero =>
    intro k hk _ _
    have : k = 8 := by omega
    subst this
    exact Nat.div_eq_of_lt hu
  | succ j ih =>
    intro k hk hm h
    have h1 := ih (k + 1) (by omega) (by omega) h
    have h2 := h k hm (by omega)
    have e8 : u / 2 ^ (8 * (k + 1)) = u / 2 ^ (8 * k) / 256 := by
      rw [show 8 * (k + 1) = 8 * k + 8 by omega, Nat.pow_add, ← Nat.div_div_eq_div_mul]
    rw [e8] at h1
    omega
theorem r_put0 {u : Nat} (hu : u < 18446744073709551616) (hd : 1 ≤ d) (hQ : ∀ many ov wr v7, q_pi u 8 many ov wr → Ev lay d 153 119 [.ref 166, .long (lN u), m_j, .int (nI many), .int (nI ov), .int (nI wr), .int (nI 8), v7] [] I F R n Q) (j : Nat) : ∀ (k many ov wr : Nat) (v7 : Value), k + j = 8 → q_pi u k many ov wr → Ev lay d 153 25 [.ref 166, .long (lN u), m_j, .int (nI many), .int (nI ov), .int (nI wr), .int (nI k), v7] [] I F R n Q := by
  have ki : ∀ (v lo hi' : Int32) (Q : mP), _ := fun v lo hi' Q => r_in (lay := lay) (d := d - 1) (v := v) (lo := lo) (hi' := hi') (I := I) (F := F) (R := R) (n := n) (Q := Q)
  induction j with
  | zero =>
    intro k many ov wr v7 hk h
    have hk2 : k = 8 := by omega
    subst hk2
    have key := hQ many ov wr v7 h
    rw [e153_25]
    simp (disch := omega) only [e153_27, e153_29, e153_32, e153_33, e153_35, e153_37, e153_38, e153_39, e153_42, e153_43, e153_44, e153_46, e153_48, e153_51, e153_53, e153_56, e153_57, e153_60, e153_61, e153_63, e153_65, e153_68, e153_70, e153_73, e153_75, e153_78, e153_81, e153_83, e153_85, e153_87, e153_90, e153_93, e153_94, e153_97, e153_98, e153_100, e153_101, e153_103, e153_106, e153_107, e153_110, e153_111, e153_112, e153_113, e153_116, true_or, m_psh_s, m_psh_n, m_kl_i, m_kl_f, m_kl_r, m_kl_n, m_kl_j, m_kl_l, m_kl_d, c_i, c_f, c_r, c_n, List.length_nil, List.length_cons, true_and, and_true, Nat.reduceAdd, Nat.reduceLeDiff, Nat.reduceSub, Nat.reduceEqDiff, Nat.reduceLT, ge_iff_le, gt_iff_lt, n_lit, m_in, m_nar0, m_nar1, and_self, not_false_eq_true, not_true_eq_false, ne_eq, reduceIte, ite_self, Nat.reduceMul, Nat.reduceDiv, Nat.reduceMod, Nat.reducePow, Nat.zero_add, Nat.add_zero, Nat.one_mul, Nat.mul_one, n_in, n_min, n_clamp, n_eq_t, n_eq_f, n_eq, n_le_t, n_le_f, n_le, n_lt_t, n_lt_f, n_lt, n_sub0, n_sublt, n_suble, n_negsub, m_up_hit, m_up_miss, m_row_hit, m_row_miss, n_eqm, n_meq, n_meqm, n_ltm, n_lem, n_mlt, n_mle, n_sub, n_div, n_and1, n_shl, n_shr, n_inc, n_mul, n_rem, z_lt, z_le, z_nlt, z_nle, Nat.not_lt_zero, Nat.le_zero_eq, Nat.zero_le, if_true, if_false]
    exact key
  | succ j ih =>
    intro k many ov wr v7 hk h
    have hw : u / 2 ^ (8 * k) % 256 < 256 := Nat.mod_lt _ (by decide)
    have key := fun many ov wr v7 => ih (k + 1) many ov wr v7 (by omega)
    have sc : q_scan u (8 - k) k = if u / 2 ^ (8 * k) % 256 = 0 then (if u / 2 ^ (8 * k) = 0 then some k else none) else if 33 ≤ u / 2 ^ (8 * k) % 256 ∧ u / 2 ^ (8 * k) % 256 ≤ 126 then q_scan u (8 - (k + 1)) (k + 1) else none := by
      rw [show 8 - k = (8 - (k + 1)) + 1 by omega, q_scan]
    rw [e153_25]
    rcases h with ⟨rfl, h2, h3, h4⟩ | ⟨rfl, rfl, h3, h4, h5⟩ | ⟨rfl, rfl, h3, h3', h4, h5⟩
    · have ho : ov = 0 ∨ ov = 1 := by omega
      by_cases c : u / 2 ^ (8 * k) % 256 = 0
      · have kk := fun v7 => key many 1 1 v7 (Or.inl ⟨rfl, by omega, by omega, h4⟩)
        rcases ho with rfl | rfl
        · simp (disch := omega) only [e153_27, e153_29, e153_32, e153_33, e153_35, e153_37, e153_38, e153_39, e153_42, e153_43, e153_44, e153_46, e153_48, e153_51, e153_53, e153_56, e153_57, e153_60, e153_61, e153_63, e153_65, e153_68, e153_70, e153_73, e153_75, e153_78, e153_81, e153_83, e153_85, e153_87, e153_90, e153_93, e153_94, e153_97, e153_98, e153_100, e153_101, e153_103, e153_106, e153_107, e153_110, e153_111, e153_112, e153_113, e153_116, true_or, m_psh_s, m_psh_n, m_kl_i, m_kl_f, m_kl_r, m_kl_n, m_kl_j, m_kl_l, m_kl_d, c_i, c_f, c_r, c_n, List.length_nil, List.length_cons, true_and, and_true, Nat.reduceAdd, Nat.reduceLeDiff, Nat.reduceSub, Nat.reduceEqDiff, Nat.reduceLT, ge_iff_le, gt_iff_lt, n_lit, m_in, m_nar0, m_nar1, and_self, not_false_eq_true, not_true_eq_false, ne_eq, reduceIte, ite_self, Nat.reduceMul, Nat.reduceDiv, Nat.reduceMod, Nat.reducePow, Nat.zero_add, Nat.add_zero, Nat.one_mul, Nat.mul_one, n_in, n_min, n_clamp, n_eq_t, n_eq_f, n_eq, n_le_t, n_le_f, n_le, n_lt_t, n_lt_f, n_lt, n_sub0, n_sublt, n_suble, n_negsub, m_up_hit, m_up_miss, m_row_hit, m_row_miss, n_eqm, n_meq, n_meqm, n_ltm, n_lem, n_mlt, n_mle, n_sub, n_div, n_and1, n_shl, n_shr, n_inc, n_mul, n_rem, z_lt, z_le, z_nlt, z_nle, Nat.not_lt_zero, Nat.le_zero_eq, Nat.zero_le, if_true, if_false, l_lit, l_sar, l_toI, c]
          exact kk _
        · simp (disch := omega) only [e153_27, e153_29, e153_32, e153_33, e153_35, e153_37, e153_38, e153_39, e153_42, e153_43, e153_44, e153_46, e153_48, e153_51, e153_53, e153_56, e153_57, e153_60, e153_61, e153_63, e153_65, e153_68, e153_70, e153_73, e153_75, e153_78, e153_81, e153_83, e153_85, e153_87, e153_90, e153_93, e153_94, e153_97, e153_98, e153_100, e153_101, e153_103, e153_106, e153_107, e153_110, e153_111, e153_112, e153_113, e153_116, true_or, m_psh_s, m_psh_n, m_kl_i, m_kl_f, m_kl_r, m_kl_n, m_kl_j, m_kl_l, m_kl_d, c_i, c_f, c_r, c_n, List.length_nil, List.length_cons, true_and, and_true, Nat.reduceAdd, Nat.reduceLeDiff, Nat.reduceSub, Nat.reduceEqDiff, Nat.reduceLT, ge_iff_le, gt_iff_lt, n_lit, m_in, m_nar0, m_nar1, and_self, not_false_eq_true, not_true_eq_false, ne_eq, reduceIte, ite_self, Nat.reduceMul, Nat.reduceDiv, Nat.reduceMod, Nat.reducePow, Nat.zero_add, Nat.add_zero, Nat.one_mul, Nat.mul_one, n_in, n_min, n_clamp, n_eq_t, n_eq_f, n_eq, n_le_t, n_le_f, n_le, n_lt_t, n_lt_f, n_lt, n_sub0, n_sublt, n_suble, n_negsub, m_up_hit, m_up_miss, m_row_hit, m_row_miss, n_eqm, n_meq, n_meqm, n_ltm, n_lem, n_mlt, n_mle, n_sub, n_div, n_and1, n_shl, n_shr, n_inc, n_mul, n_rem, z_lt, z_le, z_nlt, z_nle, Nat.not_lt_zero, Nat.le_zero_eq, Nat.zero_le, if_true, if_false, l_lit, l_sar, l_toI, c]
          exact kk _
      · rcases ho with rfl | rfl
        · have kk := fun v7 => key (many + 1) 0 1 v7 (Or.inl ⟨rfl, by omega, by omega, h4⟩)
          simp (disch := omega) only [e153_27, e153_29, e153_32, e153_33, e153_35, e153_37, e153_38, e153_39, e153_42, e153_43, e153_44, e153_46, e153_48, e153_51, e153_53, e153_56, e153_57, e153_60, e153_61, e153_63, e153_65, e153_68, e153_70, e153_73, e153_75, e153_78, e153_81, e153_83, e153_85, e153_87, e153_90, e153_93, e153_94, e153_97, e153_98, e153_100, e153_101, e153_103, e153_106, e153_107, e153_110, e153_111, e153_112, e153_113, e153_116, true_or, m_psh_s, m_psh_n, m_kl_i, m_kl_f, m_kl_r, m_kl_n, m_kl_j, m_kl_l, m_kl_d, c_i, c_f, c_r, c_n, List.length_nil, List.length_cons, true_and, and_true, Nat.reduceAdd, Nat.reduceLeDiff, Nat.reduceSub, Nat.reduceEqDiff, Nat.reduceLT, ge_iff_le, gt_iff_lt, n_lit, m_in, m_nar0, m_nar1, and_self, not_false_eq_true, not_true_eq_false, ne_eq, reduceIte, ite_self, Nat.reduceMul, Nat.reduceDiv, Nat.reduceMod, Nat.reducePow, Nat.zero_add, Nat.add_zero, Nat.one_mul, Nat.mul_one, n_in, n_min, n_clamp, n_eq_t, n_eq_f, n_eq, n_le_t, n_le_f, n_le, n_lt_t, n_lt_f, n_lt, n_sub0, n_sublt, n_suble, n_negsub, m_up_hit, m_up_miss, m_row_hit, m_row_miss, n_eqm, n_meq, n_meqm, n_ltm, n_lem, n_mlt, n_mle, n_sub, n_div, n_and1, n_shl, n_shr, n_inc, n_mul, n_rem, z_lt, z_le, z_nlt, z_nle, Nat.not_lt_zero, Nat.le_zero_eq, Nat.zero_le, if_true, if_false, l_lit, l_sar, l_toI, c]
          exact kk _
        · have kk := fun v7 => key many 1 1 v7 (Or.inl ⟨rfl, by omega, by omega, h4⟩)
          simp (disch := omega) only [e153_27, e153_29, e153_32, e153_33, e153_35, e153_37, e153_38, e153_39, e153_42, e153_43, e153_44, e153_46, e153_48, e153_51, e153_53, e153_56, e153_57, e153_60, e153_61, e153_63, e153_65, e153_68, e153_70, e153_73, e153_75, e153_78, e153_81, e153_83, e153_85, e153_87, e153_90, e153_93, e153_94, e153_97, e153_98, e153_100, e153_101, e153_103, e153_106, e153_107, e153_110, e153_111, e153_112, e153_113, e153_116, true_or, m_psh_s, m_psh_n, m_kl_i, m_kl_f, m_kl_r, m_kl_n, m_kl_j, m_kl_l, m_kl_d, c_i, c_f, c_r, c_n, List.length_nil, List.length_cons, true_and, and_true, Nat.reduceAdd, Nat.reduceLeDiff, Nat.reduceSub, Nat.reduceEqDiff, Nat.reduceLT, ge_iff_le, gt_iff_lt, n_lit, m_in, m_nar0, m_nar1, and_self, not_false_eq_true, not_true_eq_false, ne_eq, reduceIte, ite_self, Nat.reduceMul, Nat.reduceDiv, Nat.reduceMod, Nat.reducePow, Nat.zero_add, Nat.add_zero, Nat.one_mul, Nat.mul_one, n_in, n_min, n_clamp, n_eq_t, n_eq_f, n_eq, n_le_t, n_le_f, n_le, n_lt_t, n_lt_f, n_lt, n_sub0, n_sublt, n_suble, n_negsub, m_up_hit, m_up_miss, m_row_hit, m_row_miss, n_eqm, n_meq, n_meqm, n_ltm, n_lem, n_mlt, n_mle, n_sub, n_div, n_and1, n_shl, n_shr, n_inc, n_mul, n_rem, z_lt, z_le, z_nlt, z_nle, Nat.not_lt_zero, Nat.le_zero_eq, Nat.zero_le, if_true, if_false, l_lit, l_sar, l_toI, c]
          exact kk _
    · subst h3
      by_cases c : u / 2 ^ (8 * many) % 256 = 0
      · have hk0 : many ≠ 0 := fun e => by
          subst e
          rw [Nat.mul_zero, Nat.pow_zero, Nat.div_one] at c
          exact h5 rfl c
        rw [if_pos c] at sc
        have kk := fun v7 => key many 1 0 v7 (Or.inr (Or.inr ⟨rfl, rfl, by omega, by omega, h4.trans sc, fun j a1 a2 => by
          have : j = many := by omega
          subst this; exact c⟩))
        simp (disch := omega) only [e153_27, e153_29, e153_32, e153_33, e153_35, e153_37, e153_38, e153_39, e153_42, e153_43, e153_44, e153_46, e153_48, e153_51, e153_53, e153_56, e153_57, e153_60, e153_61, e153_63, e153_65, e153_68, e153_70, e153_73, e153_75, e153_78, e153_81, e153_83, e153_85, e153_87, e153_90, e153_93, e153_94, e153_97, e153_98, e153_100, e153_101, e153_103, e153_106, e153_107, e153_110, e153_111, e153_112, e153_113, e153_116, true_or, m_psh_s, m_psh_n, m_kl_i, m_kl_f, m_kl_r, m_kl_n, m_kl_j, m_kl_l, m_kl_d, c_i, c_f, c_r, c_n, List.length_nil, List.length_cons, true_and, and_true, Nat.reduceAdd, Nat.reduceLeDiff, Nat.reduceSub, Nat.reduceEqDiff, Nat.reduceLT, ge_iff_le, gt_iff_lt, n_lit, m_in, m_nar0, m_nar1, and_self, not_false_eq_true, not_true_eq_false, ne_eq, reduceIte, ite_self, Nat.reduceMul, Nat.reduceDiv, Nat.reduceMod, Nat.reducePow, Nat.zero_add, Nat.add_zero, Nat.one_mul, Nat.mul_one, n_in, n_min, n_clamp, n_eq_t, n_eq_f, n_eq, n_le_t, n_le_f, n_le, n_lt_t, n_lt_f, n_lt, n_sub0, n_sublt, n_suble, n_negsub, m_up_hit, m_up_miss, m_row_hit, m_row_miss, n_eqm, n_meq, n_meqm, n_ltm, n_lem, n_mlt, n_mle, n_sub, n_div, n_and1, n_shl, n_shr, n_inc, n_mul, n_rem, z_lt, z_le, z_nlt, z_nle, Nat.not_lt_zero, Nat.le_zero_eq, Nat.zero_le, if_true, if_false, l_lit, l_sar, l_toI, c]
        exact kk _
      · rw [if_neg c] at sc
        by_cases c2 : 33 ≤ u / 2 ^ (8 * many) % 256 ∧ u / 2 ^ (8 * many) % 256 ≤ 126
        · rw [if_pos c2] at sc
          have kk := fun v7 => key (many + 1) 0 0 v7 (Or.inr (Or.inl ⟨rfl, rfl, rfl, h4.trans sc, fun e => by omega⟩))
          obtain ⟨c3, c4⟩ := c2
          simp (disch := omega) only [e153_27, e153_29, e153_32, e153_33, e153_35, e153_37, e153_38, e153_39, e153_42, e153_43, e153_44, e153_46, e153_48, e153_51, e153_53, e153_56, e153_57, e153_60, e153_61, e153_63, e153_65, e153_68, e153_70, e153_73, e153_75, e153_78, e153_81, e153_83, e153_85, e153_87, e153_90, e153_93, e153_94, e153_97, e153_98, e153_100, e153_101, e153_103, e153_106, e153_107, e153_110, e153_111, e153_112, e153_113, e153_116, true_or, m_psh_s, m_psh_n, m_kl_i, m_kl_f, m_kl_r, m_kl_n, m_kl_j, m_kl_l, m_kl_d, c_i, c_f, c_r, c_n, List.length_nil, List.length_cons, true_and, and_true, Nat.reduceAdd, Nat.reduceLeDiff, Nat.reduceSub, Nat.reduceEqDiff, Nat.reduceLT, ge_iff_le, gt_iff_lt, n_lit, m_in, m_nar0, m_nar1, and_self, not_false_eq_true, not_true_eq_false, ne_eq, reduceIte, ite_self, Nat.reduceMul, Nat.reduceDiv, Nat.reduceMod, Nat.reducePow, Nat.zero_add, Nat.add_zero, Nat.one_mul, Nat.mul_one, n_in, n_min, n_clamp, n_eq_t, n_eq_f, n_eq, n_le_t, n_le_f, n_le, n_lt_t, n_lt_f, n_lt, n_sub0, n_sublt, n_suble, n_negsub, m_up_hit, m_up_miss, m_row_hit, m_row_miss, n_eqm, n_meq, n_meqm, n_ltm, n_lem, n_mlt, n_mle, n_sub, n_div, n_and1, n_shl, n_shr, n_inc, n_mul, n_rem, z_lt, z_le, z_nlt, z_nle, Nat.not_lt_zero, Nat.le_zero_eq, Nat.zero_le, if_true, if_false, l_lit, l_sar, l_toI, c, ki]
          exact kk _
        · rw [if_neg c2] at sc
          have kk := fun v7 => key (many + 1) 0 1 v7 (Or.inl ⟨rfl, by omega, by omega, Or.inl (h4.trans sc)⟩)
          by_cases c3 : 33 ≤ u / 2 ^ (8 * many) % 256
          · have c4 : 126 < u / 2 ^ (8 * many) % 256 := by omega
            simp (disch := omega) only [e153_27, e153_29, e153_32, e153_33, e153_35, e153_37, e153_38, e153_39, e153_42, e153_43, e153_44, e153_46, e153_48, e153_51, e153_53, e153_56, e153_57, e153_60, e153_61, e153_63, e153_65, e153_68, e153_70, e153_73, e153_75, e153_78, e153_81, e153_83, e153_85, e153_87, e153_90, e153_93, e153_94, e153_97, e153_98, e153_100, e153_101, e153_103, e153_106, e153_107, e153_110, e153_111, e153_112, e153_113, e153_116, true_or, m_psh_s, m_psh_n, m_kl_i, m_kl_f, m_kl_r, m_kl_n, m_kl_j, m_kl_l, m_kl_d, c_i, c_f, c_r, c_n, List.length_nil, List.length_cons, true_and, and_true, Nat.reduceAdd, Nat.reduceLeDiff, Nat.reduceSub, Nat.reduceEqDiff, Nat.reduceLT, ge_iff_le, gt_iff_lt, n_lit, m_in, m_nar0, m_nar1, and_self, not_false_eq_true, not_true_eq_false, ne_eq, reduceIte, ite_self, Nat.reduceMul, Nat.reduceDiv, Nat.reduceMod, Nat.reducePow, Nat.zero_add, Nat.add_zero, Nat.one_mul, Nat.mul_one, n_in, n_min, n_clamp, n_eq_t, n_eq_f, n_eq, n_le_t, n_le_f, n_le, n_lt_t, n_lt_f, n_lt, n_sub0, n_sublt, n_suble, n_negsub, m_up_hit, m_up_miss, m_row_hit, m_row_miss, n_eqm, n_meq, n_meqm, n_ltm, n_lem, n_mlt, n_mle, n_sub, n_div, n_and1, n_shl, n_shr, n_inc, n_mul, n_rem, z_lt, z_le, z_nlt, z_nle, Nat.not_lt_zero, Nat.le_zero_eq, Nat.zero_le, if_true, if_false, l_lit, l_sar, l_toI, c, ki, and_false, false_and]
            exact kk _
          · simp (disch := omega) only [e153_27, e153_29, e153_32, e153_33, e153_35, e153_37, e153_38, e153_39, e153_42, e153_43, e153_44, e153_46, e153_48, e153_51, e153_53, e153_56, e153_57, e153_60, e153_61, e153_63, e153_65, e153_68, e153_70, e153_73, e153_75, e153_78, e153_81, e153_83, e153_85, e153_87, e153_90, e153_93, e153_94, e153_97, e153_98, e153_100, e153_101, e153_103, e153_106, e153_107, e153_110, e153_111, e153_112, e153_113, e153_116, true_or, m_psh_s, m_psh_n, m_kl_i, m_kl_f, m_kl_r, m_kl_n, m_kl_j, m_kl_l, m_kl_d, c_i, c_f, c_r, c_n, List.length_nil, List.length_cons, true_and, and_true, Nat.reduceAdd, Nat.reduceLeDiff, Nat.reduceSub, Nat.reduceEqDiff, Nat.reduceLT, ge_iff_le, gt_iff_lt, n_lit, m_in, m_nar0, m_nar1, and_self, not_false_eq_true, not_true_eq_false, ne_eq, reduceIte, ite_self, Nat.reduceMul, Nat.reduceDiv, Nat.reduceMod, Nat.reducePow, Nat.zero_add, Nat.add_zero, Nat.one_mul, Nat.mul_one, n_in, n_min, n_clamp, n_eq_t, n_eq_f, n_eq, n_le_t, n_le_f, n_le, n_lt_t, n_lt_f, n_lt, n_sub0, n_sublt, n_suble, n_negsub, m_up_hit, m_up_miss, m_row_hit, m_row_miss, n_eqm, n_meq, n_meqm, n_ltm, n_lem, n_mlt, n_mle, n_sub, n_div, n_and1, n_shl, n_shr, n_inc, n_mul, n_rem, z_lt, z_le, z_nlt, z_nle, Nat.not_lt_zero, Nat.le_zero_eq, Nat.zero_le, if_true, if_false, l_lit, l_sar, l_toI, c, ki, and_false, false_and]
            exact kk _
    · by_cases c : u / 2 ^ (8 * k) % 256 = 0
      · have kk := fun v7 => key many 1 0 v7 (Or.inr (Or.inr ⟨rfl, rfl, by omega, h3', h4, fun j a1 a2 => by
          by_cases e : j = k
          · subst e; exact c
          · exact h5 j a1 (by omega)⟩))
        simp (disch := omega) only [e153_27, e153_29, e153_32, e153_33, e153_35, e153_37, e153_38, e153_39, e153_42, e153_43, e153_44, e153_46, e153_48, e153_51, e153_53, e153_56, e153_57, e153_60, e153_61, e153_63, e153_65, e153_68, e153_70, e153_73, e153_75, e153_78, e153_81, e153_83, e153_85, e153_87, e153_90, e153_93, e153_94, e153_97, e153_98, e153_100, e153_101, e153_103, e153_106, e153_107, e153_110, e153_111, e153_112, e153_113, e153_116, true_or, m_psh_s, m_psh_n, m_kl_i, m_kl_f, m_kl_r, m_kl_n, m_kl_j, m_kl_l, m_kl_d, c_i, c_f, c_r, c_n, List.length_nil, List.length_cons, true_and, and_true, Nat.reduceAdd, Nat.reduceLeDiff, Nat.reduceSub, Nat.reduceEqDiff, Nat.reduceLT, ge_iff_le, gt_iff_lt, n_lit, m_in, m_nar0, m_nar1, and_self, not_false_eq_true, not_true_eq_false, ne_eq, reduceIte, ite_self, Nat.reduceMul, Nat.reduceDiv, Nat.reduceMod, Nat.reducePow, Nat.zero_add, Nat.add_zero, Nat.one_mul, Nat.mul_one, n_in, n_min, n_clamp, n_eq_t, n_eq_f, n_eq, n_le_t, n_le_f, n_le, n_lt_t, n_lt_f, n_lt, n_sub0, n_sublt, n_suble, n_negsub, m_up_hit, m_up_miss, m_row_hit, m_row_miss, n_eqm, n_meq, n_meqm, n_ltm, n_lem, n_mlt, n_mle, n_sub, n_div, n_and1, n_shl, n_shr, n_inc, n_mul, n_rem, z_lt, z_le, z_nlt, z_nle, Nat.not_lt_zero, Nat.le_zero_eq, Nat.zero_le, if_true, if_false, l_lit, l_sar, l_toI, c]
        exact kk _
      · have hne : u / 2 ^ (8 * many) ≠ 0 := fun e => by
          have e2 : u / 2 ^ (8 * k) = u / 2 ^ (8 * many) / 2 ^ (8 * (k - many)) := by
            rw [Nat.div_div_eq_div_mul, ← Nat.pow_add]
            congr 2
            omega
          rw [e, Nat.zero_div] at e2
          rw [e2] at c
          exact c rfl
        rw [if_neg hne] at h4
        have kk := fun v7 => key many 1 1 v7 (Or.inl ⟨rfl, by omega, by omega, Or.inl h4⟩)
        simp (disch := omega) only [e153_27, e153_29, e153_32, e153_33, e153_35, e153_37, e153_38, e153_39, e153_42, e153_43, e153_44, e153_46, e153_48, e153_51, e153_53, e153_56, e153_57, e153_60, e153_61, e153_63, e153_65, e153_68, e153_70, e153_73, e153_75, e153_78, e153_81, e153_83, e153_85, e153_87, e153_90, e153_93, e153_94, e153_97, e153_98, e153_100, e153_101, e153_103, e153_106, e153_107, e153_110, e153_111, e153_112, e153_113, e153_116, true_or, m_psh_s, m_psh_n, m_kl_i, m_kl_f, m_kl_r, m_kl_n, m_kl_j, m_kl_l, m_kl_d, c_i, c_f, c_r, c_n, List.length_nil, List.length_cons, true_and, and_true, Nat.reduceAdd, Nat.reduceLeDiff, Nat.reduceSub, Nat.reduceEqDiff, Nat.reduceLT, ge_iff_le, gt_iff_lt, n_lit, m_in, m_nar0, m_nar1, and_self, not_false_eq_true, not_true_eq_false, ne_eq, reduceIte, ite_self, Nat.reduceMul, Nat.reduceDiv, Nat.reduceMod, Nat.reducePow, Nat.zero_add, Nat.add_zero, Nat.one_mul, Nat.mul_one, n_in, n_min, n_clamp, n_eq_t, n_eq_f, n_eq, n_le_t, n_le_f, n_le, n_lt_t, n_lt_f, n_lt, n_sub0, n_sublt, n_suble, n_negsub, m_up_hit, m_up_miss, m_row_hit, m_row_miss, n_eqm, n_meq, n_meqm, n_ltm, n_lem, n_mlt, n_mle, n_sub, n_div, n_and1, n_shl, n_shr, n_inc, n_mul, n_rem, z_lt, z_le, z_nlt, z_nle, Nat.not_lt_zero, Nat.le_zero_eq, Nat.zero_le, if_true, if_false, l_lit, l_sar, l_toI, c]
        exact kk _
theorem r_app0 {u m : Nat} {v3 v4 v5 : Value} {v7 : Value} (hl : ML lay R) (hu : u < 18446744073709551616) (hm : pl + (m + 1) ≤ 80) (hm8 : m < 8) (h5k : m_kl v5 = v5) (j : Nat) : ∀ (I : mI), j ≤ m + 1 → I 166 11 = nI (pl + (m + 1 - j)) → (∀ k, k < pl + (m + 1 - j) → I 175 k = nI (if pl ≤ k then u / 2 ^ (8 * (pl + m - k)) % 256 else pc k)) → (∀ I', PM I' (pl + (m + 1)) (fun k => if pl ≤ k then u / 2 ^ (8 * (pl + m - k)) % 256 else pc k) → (∀ x, x ≠ 166 → x ≠ 175 → I' x = I x) → (∀ k, k ≠ 11 → I' 166 k = I 166 k) → Q (some (.int (nI (pl + (m + 1))))) I' F R n) → Ev lay d 153 146 [.ref 166, .long (lN u), m_j, v3, v4, v5, .int (q_sg j), v7] [] I F R n Q := by
  have hl' := hl
  have m0 := hl.1
  have m9 : lay 175 = (0, 80) := by obtain ⟨hm0, hm1, hm2, hm3, hm4, hm5, hm6, hm7, hm8, hm9, hm10, hm11, hm12, hm13, hm14, hm15, hm16, hm17, hm18, hm19, hm20, hm21, hm22, hm23, hm24, hm25, hm26⟩ := hl; assumption
  have r10 : m_rv (R 166 10) = .ref 175 := by obtain ⟨hm0, hm1, hm2, hm3, hm4, hm5, hm6, hm7, hm8, hm9, hm10, hm11, hm12, hm13, hm14, hm15, hm16, hm17, hm18, hm19, hm20, hm21, hm22, hm23, hm24, hm25, hm26⟩ := hl; assumption
  induction j with
  | zero =>
    intro I hj h3 h4 hQ
    rw [Nat.sub_zero] at h3 h4
    have key := hQ I ⟨h3, h4⟩ (fun _ _ _ => rfl) (fun _ _ => rfl)
    rw [e153_146]
    simp (disch := omega) only [e153_148, e153_151, e153_151N, e153_152, e153_155, e153_155N, e153_156, e153_159, e153_160, e153_162, e153_164, e153_165, e153_166, e153_169, e153_170, e153_171, e153_172, e153_172N, e153_173, e153_174, e153_177, e153_178, e153_179, e153_182, e153_185, e153_188, e153_188N, e153_189, e153_192, true_or, m_psh_s, m_psh_n, m_kl_i, m_kl_f, m_kl_r, m_kl_n, m_kl_j, m_kl_l, m_kl_d, c_i, c_f, c_r, c_n, List.length_nil, List.length_cons, true_and, and_true, Nat.reduceAdd, Nat.reduceLeDiff, Nat.reduceSub, Nat.reduceEqDiff, Nat.reduceLT, ge_iff_le, gt_iff_lt, n_lit, m_in, m_nar0, m_nar1, and_self, not_false_eq_true, not_true_eq_false, ne_eq, reduceIte, ite_self, Nat.reduceMul, Nat.reduceDiv, Nat.reduceMod, Nat.reducePow, Nat.zero_add, Nat.add_zero, Nat.one_mul, Nat.mul_one, n_in, n_min, n_clamp, n_eq_t, n_eq_f, n_eq, n_le_t, n_le_f, n_le, n_lt_t, n_lt_f, n_lt, n_sub0, n_sublt, n_suble, n_negsub, m_up_hit, m_up_miss, m_row_hit, m_row_miss, n_eqm, n_meq, n_meqm, n_ltm, n_lem, n_mlt, n_mle, n_sub, n_div, n_and1, n_shl, n_shr, n_inc, n_mul, n_rem, z_lt, z_le, z_nlt, z_nle, Nat.not_lt_zero, Nat.le_zero_eq, Nat.zero_le, if_true, if_false, m0, h3, q_sg]
    exact key
  | succ j ih =>
    intro I hj h3 h4 hQ
    have hw2 : u / 2 ^ (8 * j) % 256 < 256 := Nat.mod_lt _ (by decide)
    have e1 : m + 1 - (j + 1) = m - j := by omega
    have e2 : m + 1 - j = m - j + 1 := by omega
    rw [e1] at h3 h4
    rw [e2] at ih
    have key := ih (m_up (m_up I 175 (pl + (m - j)) (nI (u / 2 ^ (8 * j) % 256))) 166 11 (nI (pl + (m - j) + 1))) (by omega) (by rw [m_up_at]; rfl) (fun k hk => by
      rw [m_up_miss (by omega)]
      by_cases e : k = pl + (m - j)
      · subst e
        rw [m_up_at, if_pos (by omega), show pl + m - (pl + (m - j)) = j by omega]
      · rw [m_up_miss (by omega)]
        exact h4 k (by omega)) (fun I' k1 k2 k3 => hQ I' k1 (fun x a1 a2 => by rw [k2 x a1 a2, m_up_off a1, m_up_off a2]) (fun k hk => by rw [k3 k hk, m_up_ne hk, m_up_off (by omega)]))
    rw [e153_146]
    cases j with
    | zero =>
      have en : nI 0 + -nI 1 = -nI 1 := rfl
      simp (disch := omega) only [e153_148, e153_151, e153_151N, e153_152, e153_155, e153_155N, e153_156, e153_159, e153_160, e153_162, e153_164, e153_165, e153_166, e153_169, e153_170, e153_171, e153_172, e153_172N, e153_173, e153_174, e153_177, e153_178, e153_179, e153_182, e153_185, true_or, m_psh_s, m_psh_n, m_kl_i, m_kl_f, m_kl_r, m_kl_n, m_kl_j, m_kl_l, m_kl_d, c_i, c_f, c_r, c_n, List.length_nil, List.length_cons, true_and, and_true, Nat.reduceAdd, Nat.reduceLeDiff, Nat.reduceSub, Nat.reduceEqDiff, Nat.reduceLT, ge_iff_le, gt_iff_lt, n_lit, m_in, m_nar0, m_nar1, and_self, not_false_eq_true, not_true_eq_false, ne_eq, reduceIte, ite_self, Nat.reduceMul, Nat.reduceDiv, Nat.reduceMod, Nat.reducePow, Nat.zero_add, Nat.add_zero, Nat.one_mul, Nat.mul_one, n_in, n_min, n_clamp, n_eq_t, n_eq_f, n_eq, n_le_t, n_le_f, n_le, n_lt_t, n_lt_f, n_lt, n_sub0, n_sublt, n_suble, n_negsub, m_up_hit, m_up_miss, m_row_hit, m_row_miss, n_eqm, n_meq, n_meqm, n_ltm, n_lem, n_mlt, n_mle, n_sub, n_div, n_and1, n_shl, n_shr, n_inc, n_mul, n_rem, z_lt, z_le, z_nlt, z_nle, Nat.not_lt_zero, Nat.le_zero_eq, Nat.zero_le, if_true, if_false, m0, m9, r10, h3, q_sg, l_lit, l_sar, l_toI, en, h5k]
      exact key
    | succ j =>
      have e3 : nI (j + 1) + -nI 1 = nI j := by rw [n_dec (by omega)]; rfl
      simp (disch := omega) only [e153_148, e153_151, e153_151N, e153_152, e153_155, e153_155N, e153_156, e153_159, e153_160, e153_162, e153_164, e153_165, e153_166, e153_169, e153_170, e153_171, e153_172, e153_172N, e153_173, e153_174, e153_177, e153_178, e153_179, e153_182, e153_185, true_or, m_psh_s, m_psh_n, m_kl_i, m_kl_f, m_kl_r, m_kl_n, m_kl_j, m_kl_l, m_kl_d, c_i, c_f, c_r, c_n, List.length_nil, List.length_cons, true_and, and_true, Nat.reduceAdd, Nat.reduceLeDiff, Nat.reduceSub, Nat.reduceEqDiff, Nat.reduceLT, ge_iff_le, gt_iff_lt, n_lit, m_in, m_nar0, m_nar1, and_self, not_false_eq_true, not_true_eq_false, ne_eq, reduceIte, ite_self, Nat.reduceMul, Nat.reduceDiv, Nat.reduceMod, Nat.reducePow, Nat.zero_add, Nat.add_zero, Nat.one_mul, Nat.mul_one, n_in, n_min, n_clamp, n_eq_t, n_eq_f, n_eq, n_le_t, n_le_f, n_le, n_lt_t, n_lt_f, n_lt, n_sub0, n_sublt, n_suble, n_negsub, m_up_hit, m_up_miss, m_row_hit, m_row_miss, n_eqm, n_meq, n_meqm, n_ltm, n_lem, n_mlt, n_mle, n_sub, n_div, n_and1, n_shl, n_shr, n_inc, n_mul, n_rem, z_lt, z_le, z_nlt, z_nle, Nat.not_lt_zero, Nat.le_zero_eq, Nat.zero_le, if_true, if_false, m0, m9, r10, h3, q_sg, l_lit, l_sar, l_toI, e3, h5k]
      exact key
theorem MX_pad {pl' : Nat} {pc' : Nat → Nat} (h : MX lay I F R S sp hi pm hs pl pc sv) (hp : PM I' pl' pc') (o1 : ∀ x, x ≠ 166 → x ≠ 175 → I' x = I x) (o2 : ∀ k, k ≠ 11 → I' 166 k = I 166 k) : MX lay I' F R S sp hi pm hs pl' pc' sv := by
  obtain ⟨u1, u2, u3, u4, u5, u6, u7⟩ := h
  have ch : ∀ k, k < pm → I' 176 k = I 176 k ∧ I' 177 k = I 177 k := fun k _ => by rw [o1 176 (by omega) (by omega), o1 177 (by omega) (by omega)]; exact ⟨rfl, rfl⟩
  exact ⟨u1, MS_off u2 (o1 167 (by omega) (by omega)) rfl, by rw [o1 167 (by omega) (by omega)]; exact Mch_off u3 (Nat.le_refl _) ch, by rw [o2 14 (by omega)]; exact u4, HM_sm u5 (Nat.le_refl _) (o2 6 (by omega)) (o1 171 (by omega) (by omega)) rfl ch, VM_sm u6 (Nat.le_refl _) (o2 9 (by omega)) (o1 173 (by omega) (by omega)) rfl ch, hp⟩
theorem m_put {u : Nat} (h : MX lay I F R S sp hi pm hs pl pc sv) (hu : u < 18446744073709551616) (hpl : pl ≤ 80) (hd : 1 ≤ d) (hQ : ∀ I' F', MX lay I' F' R S sp hi pm hs (q_ptl pl u) (q_ptc pl pc u) sv → FrR I F I' F' → Q (some (.int (q_put pl u))) I' F' R n) : Ev lay d 153 0 [.ref 166, .long (lN u), m_j, m_j, m_j, m_j, m_j, m_j] [] I F R n Q := by
  have m0 := h.1.1
  have p11 := h.2.2.2.2.2.2.1
  have hP := h.2.2.2.2.2.2
  have hu0 : u / 2 ^ (8 * 0) = u := by rw [Nat.mul_zero, Nat.pow_zero, Nat.div_one]
  have fin : ∀ many ov wr v7, q_pi u 8 many ov wr → Ev lay d 153 119 [.ref 166, .long (lN u), m_j, .int (nI many), .int (nI ov), .int (nI wr), .int (nI 8), v7] [] I F R n Q := by
    intro many ov wr v7 hpi
    have bad : q_bad2 (q_scan u 8 0) → Q (some (.int (-nI 2))) I F R n := by
      intro hb
      unfold q_put q_ptl q_ptc at hQ
      rcases hb with hb | hb
      · rw [hb] at hQ
        exact hQ I F h FrR_refl
      · rw [hb] at hQ
        exact hQ I F h FrR_refl
    have good : ∀ m, many = m + 1 → wr = 0 → m < 8 → q_scan u 8 0 = some (m + 1) → Ev lay d 153 119 [.ref 166, .long (lN u), m_j, .int (nI many), .int (nI ov), .int (nI wr), .int (nI 8), v7] [] I F R n Q := by
      intro m e1 e2 e3 e4
      subst e1
      subst e2
      unfold q_put q_ptl q_ptc at hQ
      rw [e4] at hQ
      dsimp only at hQ
      by_cases c : 80 < pl + (m + 1)
      · rw [if_pos c, if_pos c] at hQ
        have key := hQ I F (MX_pad h ⟨p11, fun k hk => by dsimp only; rw [if_neg (by omega)]; exact hP.2 k hk⟩ (fun _ _ _ => rfl) (fun _ _ => rfl)) FrR_refl
        simp (disch := omega) only [e153_119, e153_121, e153_124, e153_126, e153_127, e153_127N, e153_128, e153_131, e153_132, e153_133, e153_135, e153_138, e153_140, true_or, m_psh_s, m_psh_n, m_kl_i, m_kl_f, m_kl_r, m_kl_n, m_kl_j, m_kl_l, m_kl_d, c_i, c_f, c_r, c_n, List.length_nil, List.length_cons, true_and, and_true, Nat.reduceAdd, Nat.reduceLeDiff, Nat.reduceSub, Nat.reduceEqDiff, Nat.reduceLT, ge_iff_le, gt_iff_lt, n_lit, m_in, m_nar0, m_nar1, and_self, not_false_eq_true, not_true_eq_false, ne_eq, reduceIte, ite_self, Nat.reduceMul, Nat.reduceDiv, Nat.reduceMod, Nat.reducePow, Nat.zero_add, Nat.add_zero, Nat.one_mul, Nat.mul_one, n_in, n_min, n_clamp, n_eq_t, n_eq_f, n_eq, n_le_t, n_le_f, n_le, n_lt_t, n_lt_f, n_lt, n_sub0, n_sublt, n_suble, n_negsub, m_up_hit, m_up_miss, m_row_hit, m_row_miss, n_eqm, n_meq, n_meqm, n_ltm, n_lem, n_mlt, n_mle, n_sub, n_div, n_and1, n_shl, n_shr, n_inc, n_mul, n_rem, z_lt, z_le, z_nlt, z_nle, Nat.not_lt_zero, Nat.le_zero_eq, Nat.zero_le, if_true, if_false, m0, p11]
        exact key
      · rw [if_neg c, if_neg c] at hQ
        have key := r_app0 (lay := lay) (d := d) (n := n) (F := F) (R := R) (Q := Q) (pl := pl) (pc := pc) (u := u) (m := m) (v3 := .int (nI (m + 1))) (v4 := .int (nI ov)) (v5 := .int (nI 0)) (v7 := v7) h.1 hu (by omega) e3 rfl (m + 1) I (Nat.le_refl _) (by rw [Nat.sub_self]; exact p11) (fun k hk => by rw [Nat.sub_self] at hk; rw [if_neg (by omega)]; exact hP.2 k hk) (fun I' k1 k2 k3 => hQ I' F (MX_pad h k1 k2 k3) (fun x hx => ⟨k2 x (by omega) (by omega), rfl⟩))
        simp (disch := omega) only [e153_119, e153_121, e153_124, e153_126, e153_127, e153_127N, e153_128, e153_131, e153_132, e153_133, e153_135, e153_138, e153_140, e153_141, e153_142, e153_143, e153_144, true_or, m_psh_s, m_psh_n, m_kl_i, m_kl_f, m_kl_r, m_kl_n, m_kl_j, m_kl_l, m_kl_d, c_i, c_f, c_r, c_n, List.length_nil, List.length_cons, true_and, and_true, Nat.reduceAdd, Nat.reduceLeDiff, Nat.reduceSub, Nat.reduceEqDiff, Nat.reduceLT, ge_iff_le, gt_iff_lt, n_lit, m_in, m_nar0, m_nar1, and_self, not_false_eq_true, not_true_eq_false, ne_eq, reduceIte, ite_self, Nat.reduceMul, Nat.reduceDiv, Nat.reduceMod, Nat.reducePow, Nat.zero_add, Nat.add_zero, Nat.one_mul, Nat.mul_one, n_in, n_min, n_clamp, n_eq_t, n_eq_f, n_eq, n_le_t, n_le_f, n_le, n_lt_t, n_lt_f, n_lt, n_sub0, n_sublt, n_suble, n_negsub, m_up_hit, m_up_miss, m_row_hit, m_row_miss, n_eqm, n_meq, n_meqm, n_ltm, n_lem, n_mlt, n_mle, n_sub, n_div, n_and1, n_shl, n_shr, n_inc, n_mul, n_rem, z_lt, z_le, z_nlt, z_nle, Nat.not_lt_zero, Nat.le_zero_eq, Nat.zero_le, if_true, if_false, m0, p11, Nat.add_sub_cancel]
        exact key
    rcases hpi with ⟨rfl, h2, h3, h4⟩ | ⟨rfl, rfl, h3, h4, h5⟩ | ⟨rfl, rfl, h3, h3', h4, h5⟩
    · have key := bad h4
      simp (disch := omega) only [e153_119, e153_121, e153_124, e153_126, true_or, m_psh_s, m_psh_n, m_kl_i, m_kl_f, m_kl_r, m_kl_n, m_kl_j, m_kl_l, m_kl_d, c_i, c_f, c_r, c_n, List.length_nil, List.length_cons, true_and, and_true, Nat.reduceAdd, Nat.reduceLeDiff, Nat.reduceSub, Nat.reduceEqDiff, Nat.reduceLT, ge_iff_le, gt_iff_lt, n_lit, m_in, m_nar0, m_nar1, and_self, not_false_eq_true, not_true_eq_false, ne_eq, reduceIte, ite_self, Nat.reduceMul, Nat.reduceDiv, Nat.reduceMod, Nat.reducePow, Nat.zero_add, Nat.add_zero, Nat.one_mul, Nat.mul_one, n_in, n_min, n_clamp, n_eq_t, n_eq_f, n_eq, n_le_t, n_le_f, n_le, n_lt_t, n_lt_f, n_lt, n_sub0, n_sublt, n_suble, n_negsub, m_up_hit, m_up_miss, m_row_hit, m_row_miss, n_eqm, n_meq, n_meqm, n_ltm, n_lem, n_mlt, n_mle, n_sub, n_div, n_and1, n_shl, n_shr, n_inc, n_mul, n_rem, z_lt, z_le, z_nlt, z_nle, Nat.not_lt_zero, Nat.le_zero_eq, Nat.zero_le, if_true, if_false]
      exact key
    · have e8 : q_scan u 8 0 = some 8 := by
        rw [h4]
        show (if u / 2 ^ (8 * 8) = 0 then some 8 else none) = some 8
        rw [if_pos (Nat.div_eq_of_lt hu)]
      exact good 7 h3 rfl (by omega) e8
    · have ez := by_zero (m := many) hu (8 - many) many (by omega) (Nat.le_refl _) h5
      rw [if_pos ez] at h4
      exact good (many - 1) (by omega) rfl (by omega) (by rw [h4]; congr 1; omega)
  have key := r_put0 (lay := lay) (d := d) (I := I) (F := F) (R := R) (n := n) (Q := Q) hu hd fin 8 0 0 0
  by_cases c : u % 256 = 0
  · have kk := key 1 m_j rfl (Or.inl ⟨rfl, by omega, by omega, by
      show q_bad2 (q_scan u (7 + 1) 0)
      rw [q_scan, hu0, if_pos c]
      by_cases c2 : u = 0
      · rw [if_pos c2]; exact Or.inr rfl
      · rw [if_neg c2]; exact Or.inl rfl⟩)
    simp (disch := omega) only [e153_0, e153_1, e153_2, e153_3, e153_5, e153_6, e153_9, e153_10, e153_11, e153_12, e153_15, e153_16, e153_19, e153_20, e153_22, e153_23, true_or, m_psh_s, m_psh_n, m_kl_i, m_kl_f, m_kl_r, m_kl_n, m_kl_j, m_kl_l, m_kl_d, c_i, c_f, c_r, c_n, List.length_nil, List.length_cons, true_and, and_true, Nat.reduceAdd, Nat.reduceLeDiff, Nat.reduceSub, Nat.reduceEqDiff, Nat.reduceLT, ge_iff_le, gt_iff_lt, n_lit, m_in, m_nar0, m_nar1, and_self, not_false_eq_true, not_true_eq_false, ne_eq, reduceIte, ite_self, Nat.reduceMul, Nat.reduceDiv, Nat.reduceMod, Nat.reducePow, Nat.zero_add, Nat.add_zero, Nat.one_mul, Nat.mul_one, n_in, n_min, n_clamp, n_eq_t, n_eq_f, n_eq, n_le_t, n_le_f, n_le, n_lt_t, n_lt_f, n_lt, n_sub0, n_sublt, n_suble, n_negsub, m_up_hit, m_up_miss, m_row_hit, m_row_miss, n_eqm, n_meq, n_meqm, n_ltm, n_lem, n_mlt, n_mle, n_sub, n_div, n_and1, n_shl, n_shr, n_inc, n_mul, n_rem, z_lt, z_le, z_nlt, z_nle, Nat.not_lt_zero, Nat.le_zero_eq, Nat.zero_le, if_true, if_false, l_lit, l_and, l_cmp, c]
    exact kk
  · have kk := key 0 m_j rfl (Or.inr (Or.inl ⟨rfl, rfl, rfl, rfl, fun _ => c⟩))
    have hw3 : u % 256 < 18446744073709551616 := by omega
    simp (disch := omega) only [e153_0, e153_1, e153_2, e153_3, e153_5, e153_6, e153_9, e153_10, e153_11, e153_12, e153_15, e153_16, e153_19, e153_20, e153_22, e153_23, true_or, m_psh_s, m_psh_n, m_kl_i, m_kl_f, m_kl_r, m_kl_n, m_kl_j, m_kl_l, m_kl_d, c_i, c_f, c_r, c_n, List.length_nil, List.length_cons, true_and, and_true, Nat.reduceAdd, Nat.reduceLeDiff, Nat.reduceSub, Nat.reduceEqDiff, Nat.reduceLT, ge_iff_le, gt_iff_lt, n_lit, m_in, m_nar0, m_nar1, and_self, not_false_eq_true, not_true_eq_false, ne_eq, reduceIte, ite_self, Nat.reduceMul, Nat.reduceDiv, Nat.reduceMod, Nat.reducePow, Nat.zero_add, Nat.add_zero, Nat.one_mul, Nat.mul_one, n_in, n_min, n_clamp, n_eq_t, n_eq_f, n_eq, n_le_t, n_le_f, n_le, n_lt_t, n_lt_f, n_lt, n_sub0, n_sublt, n_suble, n_negsub, m_up_hit, m_up_miss, m_row_hit, m_row_miss, n_eqm, n_meq, n_meqm, n_ltm, n_lem, n_mlt, n_mle, n_sub, n_div, n_and1, n_shl, n_shr, n_inc, n_mul, n_rem, z_lt, z_le, z_nlt, z_nle, Nat.not_lt_zero, Nat.le_zero_eq, Nat.zero_le, if_true, if_false, l_lit, l_and, l_cmp, c]
    exact kk
theorem m_wipe (h : MX lay I F R S sp hi pm hs pl pc sv) (hQ : ∀ I' F', MX lay I' F' R S sp hi pm hs 0 pc sv → FrR I F I' F' → Q (some (.int (nI pl))) I' F' R n) : Ev lay d 154 0 [.ref 166, m_j] [] I F R n Q := by
  have m0 := h.1.1
  have p11 := h.2.2.2.2.2.2.1
  have key := hQ (m_up I 166 11 (nI 0)) F (MX_pad h ⟨m_up_at, fun k hk => by omega⟩ (fun x a1 _ => m_up_off a1) (fun k hk => m_up_ne hk)) (FrR_up (by omega))
  simp (disch := omega) only [e154_0, e154_0N, e154_1, e154_4, e154_5, e154_5N, e154_6, e154_7, e154_10, e154_11, true_or, m_psh_s, m_psh_n, m_kl_i, m_kl_f, m_kl_r, m_kl_n, m_kl_j, m_kl_l, m_kl_d, c_i, c_f, c_r, c_n, List.length_nil, List.length_cons, true_and, and_true, Nat.reduceAdd, Nat.reduceLeDiff, Nat.reduceSub, Nat.reduceEqDiff, Nat.reduceLT, ge_iff_le, gt_iff_lt, n_lit, m_in, m_nar0, m_nar1, and_self, not_false_eq_true, not_true_eq_false, ne_eq, reduceIte, ite_self, Nat.reduceMul, Nat.reduceDiv, Nat.reduceMod, Nat.reducePow, Nat.zero_add, Nat.add_zero, Nat.one_mul, Nat.mul_one, n_in, n_min, n_clamp, n_eq_t, n_eq_f, n_eq, n_le_t, n_le_f, n_le, n_lt_t, n_lt_f, n_lt, n_sub0, n_sublt, n_suble, n_negsub, m_up_hit, m_up_miss, m_row_hit, m_row_miss, n_eqm, n_meq, n_meqm, n_ltm, n_lem, n_mlt, n_mle, n_sub, n_div, n_and1, n_shl, n_shr, n_inc, n_mul, n_rem, z_lt, z_le, z_nlt, z_nle, Nat.not_lt_zero, Nat.le_zero_eq, Nat.zero_le, if_true, if_false, m0, p11]
  exact key
end MPUT
