-- isNightSo
section NIGHTM
variable {lay : mL} {d e n n' k : Nat} {I I' : mI} {F F' : mF} {R R' : mR} {Q : mP} {st st' st2 : St} {hs hs' hs2 : List St}
theorem ob_bs (o : Option Nat) : o = none ∨ ∃ p, o = some p := by
  cases o with
  | none => exact Or.inl rfl
  | some p => exact Or.inr ⟨p, rfl⟩
theorem v_bsw0 {S : Nat → Nat} {sp : Nat → UInt32} : q_bsw S sp (nI 0) = q_loI (q_bs S sp) := by
  unfold q_bsw
  rw [if_pos rfl]
  rfl
theorem v_bsw1 {S : Nat → Nat} {sp : Nat → UInt32} : q_bsw S sp (nI 1) = q_hiI (q_bs S sp) := by
  unfold q_bsw
  rw [if_neg (by decide), if_pos rfl]
  rfl
theorem v_ifs {S : Nat → Nat} {s o : Nat} (hs : s < 30) (ho : o < 30) : q_ifs S (nI s) (nI o) = nI (q_tws (q_exS S s o) (S 69)) := by
  unfold q_ifs
  rw [if_pos ⟨isS_k hs, isS_k ho⟩, q_N_n (by omega), q_N_n (by omega)]
theorem v_set0 {S : Nat → Nat} : q_set S (nI 0) (nI (q_m1 S)) = (nI (S 0), up1 S 0 (q_m1 S)) := by
  have hm : q_m1 S = 0 ∨ q_m1 S = 1 := by
    unfold q_m1
    split
    · exact Or.inl rfl
    · exact Or.inr rfl
  have ok : okS (nI 0) (nI (q_m1 S)) := by
    rcases hm with h | h <;> rw [h] <;> exact ⟨by decide, by decide, by decide, by decide⟩
  unfold q_set
  rw [if_pos ok, q_N_n (by omega), q_N_n (by omega)]
def q_one (S : Nat → Nat) (o : Option Nat) : Int32 := match o with
  | none => -nI 6
  | some p => q_oI (q_gi S (p / 30))
def q_two (S : Nat → Nat) (o : Option Nat) : Int32 := match o with
  | none => -nI 6
  | some p => q_oI (q_gi S (p % 30))
theorem q_rec2 (hs : List St) (st st1 : St) : ∃ l2 : List St, hs.length ≤ 6 → q_rec (q_rec hs st) st1 = (l2 ++ [st]) ++ [st1] ∧ l2.length ≤ 5 := by
  by_cases h : hs.length ≤ 6
  · have h1 : ∃ l1 : List St, q_rec hs st = l1 ++ [st] ∧ l1.length ≤ 5 := by
      unfold q_rec
      by_cases c : hs.length = 6
      · rw [if_pos c]
        exact ⟨_, rfl, by rw [List.length_drop, c]; omega⟩
      · rw [if_neg c]
        exact ⟨_, rfl, by omega⟩
    obtain ⟨l1, e1, h1⟩ := h1
    rw [e1]
    unfold q_rec
    by_cases c : (l1 ++ [st]).length = 6
    · rw [if_pos c]
      have c2 : l1.length = 5 := by rw [List.length_append, List.length_singleton] at c; omega
      refine ⟨l1.drop 1, fun _ => ⟨?_, by rw [List.length_drop]; omega⟩⟩
      rw [List.drop_append_of_le_length (by omega)]
    · rw [if_neg c]
      exact ⟨l1, fun _ => ⟨rfl, h1⟩⟩
  · exact ⟨[], fun h2 => absurd h2 h⟩
/-- to the first checks -/
theorem ni_a (hl : HL lay) (G : GD e st) (he : e ≤ 50) (hd : 5 ≤ d) (T : TW lay st hs st' hs' I F R n) (hQ : ∀ I' F' R', I' 0 = I 0 → TW lay st hs st' hs' I' F' R' n → Ev lay d 101 157 [.ref 1, .int (q_loI (q_bs st.1 st.2.1)), .int (q_hiI (q_bs st.1 st.2.1)), .int (nI (q_tws st.1 (st.1 69))), .int (nI (st.1 0)), .int (nI (st.1 121)), .int (nI (st.1 68)), .int (nI 1), m_j, m_j, m_j, m_j, m_j, m_j, m_j] [] I' F' R' n Q) : Ev lay d 101 0 [.ref 1, m_j, m_j, m_j, m_j, m_j, m_j, m_j, m_j, m_j, m_j, m_j, m_j, m_j, m_j] [] I F R n Q := by
  have wf := G.1
  have x1 := TW_1 T
  have hc := wf.2.2.1
  have d1 := wf.2.2.2.1.1
  have ht := q_tws_le wf.1 wf.2.1.2.2 wf.2.2.2.1 (st.1 69) (Nat.le_refl _)
  simp (disch := omega) only [e101_0, e101_0N, e101_1, e101_2, true_or, m_psh_s, m_psh_n, m_kl_i, m_kl_f, m_kl_r, m_kl_n, m_kl_j, m_kl_l, m_kl_d, c_i, c_f, c_r, c_n, List.length_nil, List.length_cons, true_and, and_true, Nat.reduceAdd, Nat.reduceLeDiff, Nat.reduceSub, Nat.reduceEqDiff, Nat.reduceLT, ge_iff_le, gt_iff_lt, n_lit, m_in, m_nar0, m_nar1, and_self, not_false_eq_true, not_true_eq_false, ne_eq, reduceIte, ite_self, Nat.reduceMul, Nat.reduceDiv, Nat.reduceMod, Nat.reducePow, Nat.zero_add, Nat.add_zero, Nat.one_mul, Nat.mul_one, n_in, n_min, n_clamp, n_eq_t, n_eq_f, n_eq, n_le_t, n_le_f, n_le, n_lt_t, n_lt_f, n_lt, n_sub0, n_sublt, n_suble, n_negsub, m_up_hit, m_up_miss, m_row_hit, m_row_miss, n_eqm, n_meq, n_meqm, n_ltm, n_lem, n_mlt, n_mle, n_sub, n_div, n_and1, n_shl, n_shr, n_inc, n_mul, n_rem, z_lt, z_le, z_nlt, z_nle, Nat.not_lt_zero, Nat.le_zero_eq, Nat.zero_le, if_true, if_false, x1]
  refine k_bestSwap (d := d - 1) hl wf (by omega) _ _ _ _ _ _ _ T fun I1 F1 R1 n1 a1 b1 z1 T1 => ?_
  obtain rfl : n1 = n := by omega
  rw [v_bsw0]
  simp (disch := omega) only [e101_5, e101_6, e101_6N, e101_7, e101_8, true_or, m_psh_s, m_psh_n, m_kl_i, m_kl_f, m_kl_r, m_kl_n, m_kl_j, m_kl_l, m_kl_d, c_i, c_f, c_r, c_n, List.length_nil, List.length_cons, true_and, and_true, Nat.reduceAdd, Nat.reduceLeDiff, Nat.reduceSub, Nat.reduceEqDiff, Nat.reduceLT, ge_iff_le, gt_iff_lt, n_lit, m_in, m_nar0, m_nar1, and_self, not_false_eq_true, not_true_eq_false, ne_eq, reduceIte, ite_self, Nat.reduceMul, Nat.reduceDiv, Nat.reduceMod, Nat.reducePow, Nat.zero_add, Nat.add_zero, Nat.one_mul, Nat.mul_one, n_in, n_min, n_clamp, n_eq_t, n_eq_f, n_eq, n_le_t, n_le_f, n_le, n_lt_t, n_lt_f, n_lt, n_sub0, n_sublt, n_suble, n_negsub, m_up_hit, m_up_miss, m_row_hit, m_row_miss, n_eqm, n_meq, n_meqm, n_ltm, n_lem, n_mlt, n_mle, n_sub, n_div, n_and1, n_shl, n_shr, n_inc, n_mul, n_rem, z_lt, z_le, z_nlt, z_nle, Nat.not_lt_zero, Nat.le_zero_eq, Nat.zero_le, if_true, if_false, x1]
  refine k_bestSwap (d := d - 1) hl wf (by omega) _ _ _ _ _ _ _ T1 fun I2 F2 R2 n2 a2 b2 z2 T2 => ?_
  obtain rfl : n2 = n1 := by omega
  rw [v_bsw1]
  simp (disch := omega) only [e101_11, e101_12, e101_12N, e101_13, e101_14, e101_15, true_or, m_psh_s, m_psh_n, m_kl_i, m_kl_f, m_kl_r, m_kl_n, m_kl_j, m_kl_l, m_kl_d, c_i, c_f, c_r, c_n, List.length_nil, List.length_cons, true_and, and_true, Nat.reduceAdd, Nat.reduceLeDiff, Nat.reduceSub, Nat.reduceEqDiff, Nat.reduceLT, ge_iff_le, gt_iff_lt, n_lit, m_in, m_nar0, m_nar1, and_self, not_false_eq_true, not_true_eq_false, ne_eq, reduceIte, ite_self, Nat.reduceMul, Nat.reduceDiv, Nat.reduceMod, Nat.reducePow, Nat.zero_add, Nat.add_zero, Nat.one_mul, Nat.mul_one, n_in, n_min, n_clamp, n_eq_t, n_eq_f, n_eq, n_le_t, n_le_f, n_le, n_lt_t, n_lt_f, n_lt, n_sub0, n_sublt, n_suble, n_negsub, m_up_hit, m_up_miss, m_row_hit, m_row_miss, n_eqm, n_meq, n_meqm, n_ltm, n_lem, n_mlt, n_mle, n_sub, n_div, n_and1, n_shl, n_shr, n_inc, n_mul, n_rem, z_lt, z_le, z_nlt, z_nle, Nat.not_lt_zero, Nat.le_zero_eq, Nat.zero_le, if_true, if_false, x1]
  refine k_ifSwapped (d := d - 1) hl wf (by omega) _ _ _ _ _ _ _ T2 fun I3 F3 R3 n3 a3 b3 z3 T3 => ?_
  obtain rfl : n3 = n2 := by omega
  rw [v_ifs (by omega) (by omega), q_exS_same wf.1]
  simp (disch := omega) only [e101_18, e101_19, e101_19N, e101_20, e101_22, true_or, m_psh_s, m_psh_n, m_kl_i, m_kl_f, m_kl_r, m_kl_n, m_kl_j, m_kl_l, m_kl_d, c_i, c_f, c_r, c_n, List.length_nil, List.length_cons, true_and, and_true, Nat.reduceAdd, Nat.reduceLeDiff, Nat.reduceSub, Nat.reduceEqDiff, Nat.reduceLT, ge_iff_le, gt_iff_lt, n_lit, m_in, m_nar0, m_nar1, and_self, not_false_eq_true, not_true_eq_false, ne_eq, reduceIte, ite_self, Nat.reduceMul, Nat.reduceDiv, Nat.reduceMod, Nat.reducePow, Nat.zero_add, Nat.add_zero, Nat.one_mul, Nat.mul_one, n_in, n_min, n_clamp, n_eq_t, n_eq_f, n_eq, n_le_t, n_le_f, n_le, n_lt_t, n_lt_f, n_lt, n_sub0, n_sublt, n_suble, n_negsub, m_up_hit, m_up_miss, m_row_hit, m_row_miss, n_eqm, n_meq, n_meqm, n_ltm, n_lem, n_mlt, n_mle, n_sub, n_div, n_and1, n_shl, n_shr, n_inc, n_mul, n_rem, z_lt, z_le, z_nlt, z_nle, Nat.not_lt_zero, Nat.le_zero_eq, Nat.zero_le, if_true, if_false, x1]
  refine k_count (d := d - 1) hl wf (by omega) _ _ _ _ _ _ _ T3 fun I4 F4 R4 n4 a4 b4 z4 T4 => ?_
  obtain rfl : n4 = n3 := by omega
  rw [v_c11]
  simp (disch := omega) only [e101_25, e101_27, e101_27N, e101_28, e101_30, true_or, m_psh_s, m_psh_n, m_kl_i, m_kl_f, m_kl_r, m_kl_n, m_kl_j, m_kl_l, m_kl_d, c_i, c_f, c_r, c_n, List.length_nil, List.length_cons, true_and, and_true, Nat.reduceAdd, Nat.reduceLeDiff, Nat.reduceSub, Nat.reduceEqDiff, Nat.reduceLT, ge_iff_le, gt_iff_lt, n_lit, m_in, m_nar0, m_nar1, and_self, not_false_eq_true, not_true_eq_false, ne_eq, reduceIte, ite_self, Nat.reduceMul, Nat.reduceDiv, Nat.reduceMod, Nat.reducePow, Nat.zero_add, Nat.add_zero, Nat.one_mul, Nat.mul_one, n_in, n_min, n_clamp, n_eq_t, n_eq_f, n_eq, n_le_t, n_le_f, n_le, n_lt_t, n_lt_f, n_lt, n_sub0, n_sublt, n_suble, n_negsub, m_up_hit, m_up_miss, m_row_hit, m_row_miss, n_eqm, n_meq, n_meqm, n_ltm, n_lem, n_mlt, n_mle, n_sub, n_div, n_and1, n_shl, n_shr, n_inc, n_mul, n_rem, z_lt, z_le, z_nlt, z_nle, Nat.not_lt_zero, Nat.le_zero_eq, Nat.zero_le, if_true, if_false, x1]
  refine k_count (d := d - 1) hl wf (by omega) _ _ _ _ _ _ _ T4 fun I5 F5 R5 n5 a5 b5 z5 T5 => ?_
  obtain rfl : n5 = n4 := by omega
  rw [v_c6]
  simp (disch := omega) only [e101_33, e101_35, e101_35N, e101_36, e101_38, true_or, m_psh_s, m_psh_n, m_kl_i, m_kl_f, m_kl_r, m_kl_n, m_kl_j, m_kl_l, m_kl_d, c_i, c_f, c_r, c_n, List.length_nil, List.length_cons, true_and, and_true, Nat.reduceAdd, Nat.reduceLeDiff, Nat.reduceSub, Nat.reduceEqDiff, Nat.reduceLT, ge_iff_le, gt_iff_lt, n_lit, m_in, m_nar0, m_nar1, and_self, not_false_eq_true, not_true_eq_false, ne_eq, reduceIte, ite_self, Nat.reduceMul, Nat.reduceDiv, Nat.reduceMod, Nat.reducePow, Nat.zero_add, Nat.add_zero, Nat.one_mul, Nat.mul_one, n_in, n_min, n_clamp, n_eq_t, n_eq_f, n_eq, n_le_t, n_le_f, n_le, n_lt_t, n_lt_f, n_lt, n_sub0, n_sublt, n_suble, n_negsub, m_up_hit, m_up_miss, m_row_hit, m_row_miss, n_eqm, n_meq, n_meqm, n_ltm, n_lem, n_mlt, n_mle, n_sub, n_div, n_and1, n_shl, n_shr, n_inc, n_mul, n_rem, z_lt, z_le, z_nlt, z_nle, Nat.not_lt_zero, Nat.le_zero_eq, Nat.zero_le, if_true, if_false, x1]
  refine k_count (d := d - 1) hl wf (by omega) _ _ _ _ _ _ _ T5 fun I6 F6 R6 n6 a6 b6 z6 T6 => ?_
  obtain rfl : n6 = n5 := by omega
  rw [v_c8]
  rcases ob_bs (q_bs st.1 st.2.1) with hb | ⟨p, hb⟩
  · have key := hQ I6 F6 R6 (z6.trans (z5.trans (z4.trans (z3.trans (z2.trans (z1)))))) T6
    rw [hb] at key ⊢
    have e1 : q_loI none = -nI 6 := rfl
    have e2 : q_hiI none = -nI 6 := rfl
    rw [e1, e2] at key ⊢
    simp (disch := omega) only [e101_41, e101_43, e101_44, e101_46, e101_49, e101_50, e101_53, e101_54, e101_55, e101_57, e101_60, e101_61, e101_64, e101_65, e101_68, e101_69, e101_71, e101_150, e101_151, e101_154, e101_155, true_or, m_psh_s, m_psh_n, m_kl_i, m_kl_f, m_kl_r, m_kl_n, m_kl_j, m_kl_l, m_kl_d, c_i, c_f, c_r, c_n, List.length_nil, List.length_cons, true_and, and_true, Nat.reduceAdd, Nat.reduceLeDiff, Nat.reduceSub, Nat.reduceEqDiff, Nat.reduceLT, ge_iff_le, gt_iff_lt, n_lit, m_in, m_nar0, m_nar1, and_self, not_false_eq_true, not_true_eq_false, ne_eq, reduceIte, ite_self, Nat.reduceMul, Nat.reduceDiv, Nat.reduceMod, Nat.reducePow, Nat.zero_add, Nat.add_zero, Nat.one_mul, Nat.mul_one, n_in, n_min, n_clamp, n_eq_t, n_eq_f, n_eq, n_le_t, n_le_f, n_le, n_lt_t, n_lt_f, n_lt, n_sub0, n_sublt, n_suble, n_negsub, m_up_hit, m_up_miss, m_row_hit, m_row_miss, n_eqm, n_meq, n_meqm, n_ltm, n_lem, n_mlt, n_mle, n_sub, n_div, n_and1, n_shl, n_shr, n_inc, n_mul, n_rem, z_lt, z_le, z_nlt, z_nle, Nat.not_lt_zero, Nat.le_zero_eq, Nat.zero_le, if_true, if_false, x1, eq_self]
    exact key
  · have hp := q_bp_spec hb
    have hlt := q_bp_lt hb
    have s30 : p / 30 < 30 := by omega
    have o30 : p % 30 < 30 := Nat.mod_lt _ (by decide)
    have hso := hp.1
    have e1 : q_loI (some p) = nI (p / 30) := rfl
    have e2 : q_hiI (some p) = nI (p % 30) := rfl
    have hcs : st.1 68 / 2 ^ (p / 30) % 2 = 0 := hp.2.1.2.1
    have hco : st.1 68 / 2 ^ (p % 30) % 2 = 0 := hp.2.1.2.2
    have fin : ∀ (I : mI) (F : mF) (R : mR), I 0 = I6 0 → TW lay st hs st' hs' I F R n6 → Ev lay d 101 125 [.ref 1, .int (nI (p / 30)), .int (nI (p % 30)), .int (nI (q_tws st.1 (st.1 69))), .int (nI (st.1 0)), .int (nI (st.1 121)), .int (nI (st.1 68)), m_j, m_j, m_j, m_j, m_j, m_j, m_j, m_j] [] I F R n6 Q := by
      intro I6' F6' R6' zz T6
      simp (disch := omega) only [e101_125, e101_125N, e101_126, e101_127, e101_128, true_or, m_psh_s, m_psh_n, m_kl_i, m_kl_f, m_kl_r, m_kl_n, m_kl_j, m_kl_l, m_kl_d, c_i, c_f, c_r, c_n, List.length_nil, List.length_cons, true_and, and_true, Nat.reduceAdd, Nat.reduceLeDiff, Nat.reduceSub, Nat.reduceEqDiff, Nat.reduceLT, ge_iff_le, gt_iff_lt, n_lit, m_in, m_nar0, m_nar1, and_self, not_false_eq_true, not_true_eq_false, ne_eq, reduceIte, ite_self, Nat.reduceMul, Nat.reduceDiv, Nat.reduceMod, Nat.reducePow, Nat.zero_add, Nat.add_zero, Nat.one_mul, Nat.mul_one, n_in, n_min, n_clamp, n_eq_t, n_eq_f, n_eq, n_le_t, n_le_f, n_le, n_lt_t, n_lt_f, n_lt, n_sub0, n_sublt, n_suble, n_negsub, m_up_hit, m_up_miss, m_row_hit, m_row_miss, n_eqm, n_meq, n_meqm, n_ltm, n_lem, n_mlt, n_mle, n_sub, n_div, n_and1, n_shl, n_shr, n_inc, n_mul, n_rem, z_lt, z_le, z_nlt, z_nle, Nat.not_lt_zero, Nat.le_zero_eq, Nat.zero_le, if_true, if_false, x1]
      refine k_ifSwapped (d := d - 1) hl wf (by omega) _ _ _ _ _ _ _ T6 fun I7 F7 R7 n7 a7 b7 z7 T7 => ?_
      obtain rfl : n7 = n6 := by omega
      rw [v_ifs s30 o30]
      have hle := hp.2.2
      simp (disch := omega) only [e101_131, e101_132, e101_135, e101_135N, e101_136, e101_137, e101_138, true_or, m_psh_s, m_psh_n, m_kl_i, m_kl_f, m_kl_r, m_kl_n, m_kl_j, m_kl_l, m_kl_d, c_i, c_f, c_r, c_n, List.length_nil, List.length_cons, true_and, and_true, Nat.reduceAdd, Nat.reduceLeDiff, Nat.reduceSub, Nat.reduceEqDiff, Nat.reduceLT, ge_iff_le, gt_iff_lt, n_lit, m_in, m_nar0, m_nar1, and_self, not_false_eq_true, not_true_eq_false, ne_eq, reduceIte, ite_self, Nat.reduceMul, Nat.reduceDiv, Nat.reduceMod, Nat.reducePow, Nat.zero_add, Nat.add_zero, Nat.one_mul, Nat.mul_one, n_in, n_min, n_clamp, n_eq_t, n_eq_f, n_eq, n_le_t, n_le_f, n_le, n_lt_t, n_lt_f, n_lt, n_sub0, n_sublt, n_suble, n_negsub, m_up_hit, m_up_miss, m_row_hit, m_row_miss, n_eqm, n_meq, n_meqm, n_ltm, n_lem, n_mlt, n_mle, n_sub, n_div, n_and1, n_shl, n_shr, n_inc, n_mul, n_rem, z_lt, z_le, z_nlt, z_nle, Nat.not_lt_zero, Nat.le_zero_eq, Nat.zero_le, if_true, if_false, x1]
      refine k_ifSwapped (d := d - 1) hl wf (by omega) _ _ _ _ _ _ _ T7 fun I8 F8 R8 n8 a8 b8 z8 T8 => ?_
      obtain rfl : n8 = n7 := by omega
      rw [v_ifs o30 s30, q_exS_sym]
      simp (disch := omega) only [e101_141, e101_141N, e101_142, e101_143, e101_144, true_or, m_psh_s, m_psh_n, m_kl_i, m_kl_f, m_kl_r, m_kl_n, m_kl_j, m_kl_l, m_kl_d, c_i, c_f, c_r, c_n, List.length_nil, List.length_cons, true_and, and_true, Nat.reduceAdd, Nat.reduceLeDiff, Nat.reduceSub, Nat.reduceEqDiff, Nat.reduceLT, ge_iff_le, gt_iff_lt, n_lit, m_in, m_nar0, m_nar1, and_self, not_false_eq_true, not_true_eq_false, ne_eq, reduceIte, ite_self, Nat.reduceMul, Nat.reduceDiv, Nat.reduceMod, Nat.reducePow, Nat.zero_add, Nat.add_zero, Nat.one_mul, Nat.mul_one, n_in, n_min, n_clamp, n_eq_t, n_eq_f, n_eq, n_le_t, n_le_f, n_le, n_lt_t, n_lt_f, n_lt, n_sub0, n_sublt, n_suble, n_negsub, m_up_hit, m_up_miss, m_row_hit, m_row_miss, n_eqm, n_meq, n_meqm, n_ltm, n_lem, n_mlt, n_mle, n_sub, n_div, n_and1, n_shl, n_shr, n_inc, n_mul, n_rem, z_lt, z_le, z_nlt, z_nle, Nat.not_lt_zero, Nat.le_zero_eq, Nat.zero_le, if_true, if_false, x1]
      refine k_ifSwapped (d := d - 1) hl wf (by omega) _ _ _ _ _ _ _ T8 fun I9 F9 R9 n9 a9 b9 z9 T9 => ?_
      obtain rfl : n9 = n8 := by omega
      rw [v_ifs s30 o30]
      have key := hQ I9 F9 R9 (z9.trans (z8.trans (z7.trans (zz.trans (z6.trans (z5.trans (z4.trans (z3.trans (z2.trans (z1)))))))))) T9
      rw [hb, e1, e2] at key
      simp (disch := omega) only [e101_147, e101_150, e101_151, e101_154, e101_155, true_or, m_psh_s, m_psh_n, m_kl_i, m_kl_f, m_kl_r, m_kl_n, m_kl_j, m_kl_l, m_kl_d, c_i, c_f, c_r, c_n, List.length_nil, List.length_cons, true_and, and_true, Nat.reduceAdd, Nat.reduceLeDiff, Nat.reduceSub, Nat.reduceEqDiff, Nat.reduceLT, ge_iff_le, gt_iff_lt, n_lit, m_in, m_nar0, m_nar1, and_self, not_false_eq_true, not_true_eq_false, ne_eq, reduceIte, ite_self, Nat.reduceMul, Nat.reduceDiv, Nat.reduceMod, Nat.reducePow, Nat.zero_add, Nat.add_zero, Nat.one_mul, Nat.mul_one, n_in, n_min, n_clamp, n_eq_t, n_eq_f, n_eq, n_le_t, n_le_f, n_le, n_lt_t, n_lt_f, n_lt, n_sub0, n_sublt, n_suble, n_negsub, m_up_hit, m_up_miss, m_row_hit, m_row_miss, n_eqm, n_meq, n_meqm, n_ltm, n_lem, n_mlt, n_mle, n_sub, n_div, n_and1, n_shl, n_shr, n_inc, n_mul, n_rem, z_lt, z_le, z_nlt, z_nle, Nat.not_lt_zero, Nat.le_zero_eq, Nat.zero_le, if_true, if_false, x1, eq_self]
      exact key
    rw [hb, e1, e2]
    simp (disch := omega) only [e101_41, e101_43, e101_44, e101_46, e101_49, e101_50, e101_53, e101_54, e101_55, e101_57, e101_60, e101_61, e101_64, e101_65, e101_68, e101_69, e101_71, e101_74, e101_75, e101_78, e101_79, e101_80, e101_83, e101_84, e101_86, e101_89, e101_91, e101_92, e101_93, e101_94, e101_95, e101_98, e101_100, e101_101, e101_102, e101_103, e101_104, e101_107, e101_107N, e101_108, e101_109, e101_110, true_or, m_psh_s, m_psh_n, m_kl_i, m_kl_f, m_kl_r, m_kl_n, m_kl_j, m_kl_l, m_kl_d, c_i, c_f, c_r, c_n, List.length_nil, List.length_cons, true_and, and_true, Nat.reduceAdd, Nat.reduceLeDiff, Nat.reduceSub, Nat.reduceEqDiff, Nat.reduceLT, ge_iff_le, gt_iff_lt, n_lit, m_in, m_nar0, m_nar1, and_self, not_false_eq_true, not_true_eq_false, ne_eq, reduceIte, ite_self, Nat.reduceMul, Nat.reduceDiv, Nat.reduceMod, Nat.reducePow, Nat.zero_add, Nat.add_zero, Nat.one_mul, Nat.mul_one, n_in, n_min, n_clamp, n_eq_t, n_eq_f, n_eq, n_le_t, n_le_f, n_le, n_lt_t, n_lt_f, n_lt, n_sub0, n_sublt, n_suble, n_negsub, m_up_hit, m_up_miss, m_row_hit, m_row_miss, n_eqm, n_meq, n_meqm, n_ltm, n_lem, n_mlt, n_mle, n_sub, n_div, n_and1, n_shl, n_shr, n_inc, n_mul, n_rem, z_lt, z_le, z_nlt, z_nle, Nat.not_lt_zero, Nat.le_zero_eq, Nat.zero_le, if_true, if_false, x1, eq_self, hcs, hco]
    refine k_ofSlot (d := d - 1) hl wf (by omega) _ _ _ _ _ _ _ T6 fun I7 F7 R7 n7 a7 b7 z7 T7 => ?_
    obtain rfl : n7 = n6 := by omega
    rw [v_ofS0 s30]
    cases hg : q_gi st.1 (p / 30) with
    | some g =>
      have eo : q_oI (some g) = nI g := rfl
      have g16 := q_gi_lt16 wf.1.1 hg
      rw [eo]
      have key := fin I7 F7 R7 z7 T7
      simp (disch := omega) only [e101_113, true_or, m_psh_s, m_psh_n, m_kl_i, m_kl_f, m_kl_r, m_kl_n, m_kl_j, m_kl_l, m_kl_d, c_i, c_f, c_r, c_n, List.length_nil, List.length_cons, true_and, and_true, Nat.reduceAdd, Nat.reduceLeDiff, Nat.reduceSub, Nat.reduceEqDiff, Nat.reduceLT, ge_iff_le, gt_iff_lt, n_lit, m_in, m_nar0, m_nar1, and_self, not_false_eq_true, not_true_eq_false, ne_eq, reduceIte, ite_self, Nat.reduceMul, Nat.reduceDiv, Nat.reduceMod, Nat.reducePow, Nat.zero_add, Nat.add_zero, Nat.one_mul, Nat.mul_one, n_in, n_min, n_clamp, n_eq_t, n_eq_f, n_eq, n_le_t, n_le_f, n_le, n_lt_t, n_lt_f, n_lt, n_sub0, n_sublt, n_suble, n_negsub, m_up_hit, m_up_miss, m_row_hit, m_row_miss, n_eqm, n_meq, n_meqm, n_ltm, n_lem, n_mlt, n_mle, n_sub, n_div, n_and1, n_shl, n_shr, n_inc, n_mul, n_rem, z_lt, z_le, z_nlt, z_nle, Nat.not_lt_zero, Nat.le_zero_eq, Nat.zero_le, if_true, if_false, x1, eq_self]
      exact key
    | none =>
      have eo : q_oI none = -nI 6 := rfl
      rw [eo]
      have hg2 : q_gi st.1 (p % 30) ≠ none := by
        rcases hp.2.1.1 with h | h
        · exact absurd hg h
        · exact h
      simp (disch := omega) only [e101_113, e101_116, e101_116N, e101_117, e101_118, e101_119, true_or, m_psh_s, m_psh_n, m_kl_i, m_kl_f, m_kl_r, m_kl_n, m_kl_j, m_kl_l, m_kl_d, c_i, c_f, c_r, c_n, List.length_nil, List.length_cons, true_and, and_true, Nat.reduceAdd, Nat.reduceLeDiff, Nat.reduceSub, Nat.reduceEqDiff, Nat.reduceLT, ge_iff_le, gt_iff_lt, n_lit, m_in, m_nar0, m_nar1, and_self, not_false_eq_true, not_true_eq_false, ne_eq, reduceIte, ite_self, Nat.reduceMul, Nat.reduceDiv, Nat.reduceMod, Nat.reducePow, Nat.zero_add, Nat.add_zero, Nat.one_mul, Nat.mul_one, n_in, n_min, n_clamp, n_eq_t, n_eq_f, n_eq, n_le_t, n_le_f, n_le, n_lt_t, n_lt_f, n_lt, n_sub0, n_sublt, n_suble, n_negsub, m_up_hit, m_up_miss, m_row_hit, m_row_miss, n_eqm, n_meq, n_meqm, n_ltm, n_lem, n_mlt, n_mle, n_sub, n_div, n_and1, n_shl, n_shr, n_inc, n_mul, n_rem, z_lt, z_le, z_nlt, z_nle, Nat.not_lt_zero, Nat.le_zero_eq, Nat.zero_le, if_true, if_false, x1, eq_self]
      refine k_ofSlot (d := d - 1) hl wf (by omega) _ _ _ _ _ _ _ T7 fun I8 F8 R8 n8 a8 b8 z8 T8 => ?_
      obtain rfl : n8 = n7 := by omega
      rw [v_ofS0 o30]
      cases hg3 : q_gi st.1 (p % 30) with
      | none => exact absurd hg3 hg2
      | some g =>
        have eo : q_oI (some g) = nI g := rfl
        have g16 := q_gi_lt16 wf.1.1 hg3
        rw [eo]
        have key := fin I8 F8 R8 (z8.trans z7) T8
        simp (disch := omega) only [e101_122, true_or, m_psh_s, m_psh_n, m_kl_i, m_kl_f, m_kl_r, m_kl_n, m_kl_j, m_kl_l, m_kl_d, c_i, c_f, c_r, c_n, List.length_nil, List.length_cons, true_and, and_true, Nat.reduceAdd, Nat.reduceLeDiff, Nat.reduceSub, Nat.reduceEqDiff, Nat.reduceLT, ge_iff_le, gt_iff_lt, n_lit, m_in, m_nar0, m_nar1, and_self, not_false_eq_true, not_true_eq_false, ne_eq, reduceIte, ite_self, Nat.reduceMul, Nat.reduceDiv, Nat.reduceMod, Nat.reducePow, Nat.zero_add, Nat.add_zero, Nat.one_mul, Nat.mul_one, n_in, n_min, n_clamp, n_eq_t, n_eq_f, n_eq, n_le_t, n_le_f, n_le, n_lt_t, n_lt_f, n_lt, n_sub0, n_sublt, n_suble, n_negsub, m_up_hit, m_up_miss, m_row_hit, m_row_miss, n_eqm, n_meq, n_meqm, n_ltm, n_lem, n_mlt, n_mle, n_sub, n_div, n_and1, n_shl, n_shr, n_inc, n_mul, n_rem, z_lt, z_le, z_nlt, z_nle, Nat.not_lt_zero, Nat.le_zero_eq, Nat.zero_le, if_true, if_false, x1, eq_self]
        exact key
end NIGHTM
