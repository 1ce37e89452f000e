section PAD
variable {lay : mL} {d a n n' : Nat} {I I' : mI} {F F' : mF} {R R' : mR} {Q : mP} {S : Nat → Nat} {sp : Nat → UInt32} {hi : List Nat} {nx pl : Nat} {hs : List St} {pc : Nat → Nat} {sv : Nat → Option St}
theorem XS_pad {pl' : Nat} {pc' : Nat → Nat} (h : XS lay I F R n S sp hi nx hs pl pc sv) (hp : PD I' pl' pc') (hf : Off 33 35 I F R I' F R) : XS lay I' F R n S sp hi nx hs pl' pc' sv := by
  obtain ⟨h1, h2, h3, h4, h5, h6, h7⟩ := h
  exact ⟨h1, h2, CSh_sm h3 (fun x hx => hf x (by omega)) (Nat.le_refl _), HG_sm h4 (fun x hx => hf x (by omega)) (Nat.le_refl _), hp, SV_sm h6 (fun x hx => hf x (by omega)) (Nat.le_refl _), h7⟩
theorem FrM_pad (hf : Off 33 35 I F R I' F R) : FrM n I F R I' F R := fun x hx => hf x (by omega)
def padOK (pl : Nat) (pc : Nat → Nat) : Prop := ∀ k, k < pl → 33 ≤ pc k ∧ pc k ≤ 126
/-- where the automaton stops: the first character that can't stand at its place, the end if the text can't end there -/
def q_ff (pl : Nat) (pc : Nat → Nat) : Nat → Nat → Gs → Option Nat
  | 0, _, g => if g.2.2 = 1 ∧ (g.1 = 2 ∨ g.1 = 3) then none else some pl
  | j + 1, i, g => if (q_tk g (pc i)).1 = 1 then q_ff pl pc j (i + 1) (q_tk g (pc i)).2 else some i
def q_flt (pl : Nat) (pc : Nat → Nat) : Option Nat := q_ff pl pc pl 0 (0, 32, 0)
theorem q_tk_le (g : Gs) (x : Nat) : (q_tk g x).1 ≤ 1 := by
  unfold q_tk
  split
  · exact q_isL_le x
  · split
    · dsimp only; split <;> omega
    · split
      · split
        · exact Nat.le_refl _
        · exact q_mark_le _ _
      · exact q_mark_le _ _
theorem q_ff_le {pl : Nat} {pc : Nat → Nat} (j : Nat) : ∀ i g m, i + j = pl → q_ff pl pc j i g = some m → m ≤ pl := by
  induction j with
  | zero =>
    intro i g m hi h
    rw [q_ff] at h
    split at h
    · cases h
    · cases h; exact Nat.le_refl _
  | succ j ih =>
    intro i g m hi h
    rw [q_ff] at h
    split at h
    · exact ih _ _ _ (by omega) h
    · cases h; omega
theorem s_ff0 (h33 : lay 33 = (9, 0)) (h34 : lay 34 = (3, 80)) (h35 : lay 35 = (6, 0)) (r0 : m_rv (R 33 0) = .ref 34) (r1 : m_rv (R 33 1) = .ref 35) (hp : padOK pl pc) (hd : 2 ≤ d) (j : Nat) : ∀ (i : Nat) (g : Gs) (I : mI), i + j = pl → PD I pl pc → GR I g → GW g → (∀ I', Off 35 35 I F R I' F R → Q (some (.int (q_oI (q_ff pl pc j i g)))) I' F R n) → Ev lay d 78 9 [.ref 33, .int (nI i)] [] I F R n Q := by
  induction j with
  | zero =>
    intro i g I hi hP hg gw hQ
    have hi2 : i = pl := by omega
    subst hi2
    obtain ⟨p1, p2, p3⟩ := hP
    have ks : ∀ (d : Nat) (Q : mP), _ := fun d Q => s_mayStop (d := d) (F := F) (R := R) (n := n) (Q := Q) h35 hg gw
    have key := hQ I Off_refl
    rw [q_ff] at key
    rw [e78_9]
    by_cases c : g.2.2 = 1 ∧ (g.1 = 2 ∨ g.1 = 3)
    · rw [if_pos c] at key ks
      simp (disch := omega) only [e78_10, e78_10N, e78_11, e78_14, e78_17, e78_17N, e78_18, e78_21, e78_21N, e78_22, e78_25, e78_26, e78_27, e78_30, e78_33, e78_34, e78_35, e78_38, e78_41, e78_41N, e78_42, e78_45, e78_48, e78_51, e78_53, e78_56, e78_56N, e78_57, e78_60, true_or, m_psh_s, m_psh_n, m_kl_i, m_kl_f, m_kl_r, m_kl_n, m_kl_j, m_kl_l, m_kl_d, c_i, c_f, c_r, c_n, List.length_nil, List.length_cons, true_and, and_true, Nat.reduceAdd, Nat.reduceLeDiff, Nat.reduceSub, Nat.reduceEqDiff, Nat.reduceLT, ge_iff_le, gt_iff_lt, n_lit, m_in, m_nar0, m_nar1, and_self, not_false_eq_true, not_true_eq_false, ne_eq, reduceIte, ite_self, Nat.reduceMul, Nat.reduceDiv, Nat.reduceMod, Nat.reducePow, Nat.zero_add, Nat.add_zero, Nat.one_mul, Nat.mul_one, n_in, n_min, n_clamp, n_eq_t, n_eq_f, n_eq, n_le_t, n_le_f, n_le, n_lt_t, n_lt_f, n_lt, n_sub0, n_sublt, n_suble, n_negsub, m_up_hit, m_up_miss, m_row_hit, m_row_miss, n_eqm, n_meq, n_meqm, n_ltm, n_lem, n_mlt, n_mle, n_sub, n_div, n_and1, n_shl, n_shr, n_inc, n_mul, n_rem, z_lt, z_le, z_nlt, z_nle, Nat.not_lt_zero, Nat.le_zero_eq, Nat.zero_le, if_true, if_false, h33, h35, r1, p1, ks]
      exact key
    · rw [if_neg c] at key ks
      simp (disch := omega) only [e78_10, e78_10N, e78_11, e78_14, e78_17, e78_17N, e78_18, e78_21, e78_21N, e78_22, e78_25, e78_26, e78_27, e78_30, e78_33, e78_34, e78_35, e78_38, e78_41, e78_41N, e78_42, e78_45, e78_48, e78_51, e78_53, e78_56, e78_56N, e78_57, e78_60, true_or, m_psh_s, m_psh_n, m_kl_i, m_kl_f, m_kl_r, m_kl_n, m_kl_j, m_kl_l, m_kl_d, c_i, c_f, c_r, c_n, List.length_nil, List.length_cons, true_and, and_true, Nat.reduceAdd, Nat.reduceLeDiff, Nat.reduceSub, Nat.reduceEqDiff, Nat.reduceLT, ge_iff_le, gt_iff_lt, n_lit, m_in, m_nar0, m_nar1, and_self, not_false_eq_true, not_true_eq_false, ne_eq, reduceIte, ite_self, Nat.reduceMul, Nat.reduceDiv, Nat.reduceMod, Nat.reducePow, Nat.zero_add, Nat.add_zero, Nat.one_mul, Nat.mul_one, n_in, n_min, n_clamp, n_eq_t, n_eq_f, n_eq, n_le_t, n_le_f, n_le, n_lt_t, n_lt_f, n_lt, n_sub0, n_sublt, n_suble, n_negsub, m_up_hit, m_up_miss, m_row_hit, m_row_miss, n_eqm, n_meq, n_meqm, n_ltm, n_lem, n_mlt, n_mle, n_sub, n_div, n_and1, n_shl, n_shr, n_inc, n_mul, n_rem, z_lt, z_le, z_nlt, z_nle, Nat.not_lt_zero, Nat.le_zero_eq, Nat.zero_le, if_true, if_false, h33, h35, r1, p1, ks]
      exact key
  | succ j ih =>
    intro i g I hi hP hg gw hQ
    have hP' := hP
    obtain ⟨p1, p2, p3⟩ := hP
    have pi := p3 i (by omega)
    have hx := hp i (by omega)
    have kt : ∀ (Q : mP), _ → _ := fun Q hQ => s_takes (d := d - 1) (I := I) (F := F) (R := R) (n := n) (Q := Q) (x := pc i) h35 (by omega) (by omega) hg gw hQ
    rw [q_ff] at hQ
    rw [e78_9]
    simp (disch := omega) only [e78_10, e78_10N, e78_11, e78_14, e78_17, e78_17N, e78_18, e78_21, e78_21N, e78_22, e78_25, e78_26, e78_27, true_or, m_psh_s, m_psh_n, m_kl_i, m_kl_f, m_kl_r, m_kl_n, m_kl_j, m_kl_l, m_kl_d, c_i, c_f, c_r, c_n, List.length_nil, List.length_cons, true_and, and_true, Nat.reduceAdd, Nat.reduceLeDiff, Nat.reduceSub, Nat.reduceEqDiff, Nat.reduceLT, ge_iff_le, gt_iff_lt, n_lit, m_in, m_nar0, m_nar1, and_self, not_false_eq_true, not_true_eq_false, ne_eq, reduceIte, ite_self, Nat.reduceMul, Nat.reduceDiv, Nat.reduceMod, Nat.reducePow, Nat.zero_add, Nat.add_zero, Nat.one_mul, Nat.mul_one, n_in, n_min, n_clamp, n_eq_t, n_eq_f, n_eq, n_le_t, n_le_f, n_le, n_lt_t, n_lt_f, n_lt, n_sub0, n_sublt, n_suble, n_negsub, m_up_hit, m_up_miss, m_row_hit, m_row_miss, n_eqm, n_meq, n_meqm, n_ltm, n_lem, n_mlt, n_mle, n_sub, n_div, n_and1, n_shl, n_shr, n_inc, n_mul, n_rem, z_lt, z_le, z_nlt, z_nle, Nat.not_lt_zero, Nat.le_zero_eq, Nat.zero_le, if_true, if_false, h33, h34, h35, r0, r1, p1, pi]
    apply kt
    intro I1 g1 o1
    have hP1 : PD I1 pl pc := PD_sm hP' (o1 33 (by omega)).1 (o1 34 (by omega)).1
    have hle := q_tk_le g (pc i)
    by_cases c : (q_tk g (pc i)).1 = 1
    · rw [if_pos c] at hQ
      have key := ih (i + 1) (q_tk g (pc i)).2 I1 (by omega) hP1 g1 (GW_tk gw) (fun I' o2 => hQ I' (Off_trans o1 o2))
      rw [c]
      simp (disch := omega) only [e78_30, e78_33, e78_34, e78_35, e78_38, true_or, m_psh_s, m_psh_n, m_kl_i, m_kl_f, m_kl_r, m_kl_n, m_kl_j, m_kl_l, m_kl_d, c_i, c_f, c_r, c_n, List.length_nil, List.length_cons, true_and, and_true, Nat.reduceAdd, Nat.reduceLeDiff, Nat.reduceSub, Nat.reduceEqDiff, Nat.reduceLT, ge_iff_le, gt_iff_lt, n_lit, m_in, m_nar0, m_nar1, and_self, not_false_eq_true, not_true_eq_false, ne_eq, reduceIte, ite_self, Nat.reduceMul, Nat.reduceDiv, Nat.reduceMod, Nat.reducePow, Nat.zero_add, Nat.add_zero, Nat.one_mul, Nat.mul_one, n_in, n_min, n_clamp, n_eq_t, n_eq_f, n_eq, n_le_t, n_le_f, n_le, n_lt_t, n_lt_f, n_lt, n_sub0, n_sublt, n_suble, n_negsub, m_up_hit, m_up_miss, m_row_hit, m_row_miss, n_eqm, n_meq, n_meqm, n_ltm, n_lem, n_mlt, n_mle, n_sub, n_div, n_and1, n_shl, n_shr, n_inc, n_mul, n_rem, z_lt, z_le, z_nlt, z_nle, Nat.not_lt_zero, Nat.le_zero_eq, Nat.zero_le, if_true, if_false]
      exact key
    · rw [if_neg c] at hQ
      have c0 : (q_tk g (pc i)).1 = 0 := by omega
      have key := hQ I1 o1
      rw [c0]
      simp (disch := omega) only [e78_30, e78_33, e78_34, e78_35, e78_38, true_or, m_psh_s, m_psh_n, m_kl_i, m_kl_f, m_kl_r, m_kl_n, m_kl_j, m_kl_l, m_kl_d, c_i, c_f, c_r, c_n, List.length_nil, List.length_cons, true_and, and_true, Nat.reduceAdd, Nat.reduceLeDiff, Nat.reduceSub, Nat.reduceEqDiff, Nat.reduceLT, ge_iff_le, gt_iff_lt, n_lit, m_in, m_nar0, m_nar1, and_self, not_false_eq_true, not_true_eq_false, ne_eq, reduceIte, ite_self, Nat.reduceMul, Nat.reduceDiv, Nat.reduceMod, Nat.reducePow, Nat.zero_add, Nat.add_zero, Nat.one_mul, Nat.mul_one, n_in, n_min, n_clamp, n_eq_t, n_eq_f, n_eq, n_le_t, n_le_f, n_le, n_lt_t, n_lt_f, n_lt, n_sub0, n_sublt, n_suble, n_negsub, m_up_hit, m_up_miss, m_row_hit, m_row_miss, n_eqm, n_meq, n_meqm, n_ltm, n_lem, n_mlt, n_mle, n_sub, n_div, n_and1, n_shl, n_shr, n_inc, n_mul, n_rem, z_lt, z_le, z_nlt, z_nle, Nat.not_lt_zero, Nat.le_zero_eq, Nat.zero_le, if_true, if_false]
      exact key
theorem s_firstFault (h33 : lay 33 = (9, 0)) (h34 : lay 34 = (3, 80)) (h35 : lay 35 = (6, 0)) (r0 : m_rv (R 33 0) = .ref 34) (r1 : m_rv (R 33 1) = .ref 35) (hp : padOK pl pc) (hP : PD I pl pc) (hd : 2 ≤ d) (hQ : ∀ I', Off 35 35 I F R I' F R → Q (some (.int (q_oI (q_flt pl pc)))) I' F R n) : Ev lay d 78 0 [.ref 33, m_j] [] I F R n Q := by
  have hP' := hP
  obtain ⟨p1, p2, p3⟩ := hP
  have o0 : Off 35 35 I F R (m_up I 35 0 (nI 0)) F R := Off_I (by omega) (by omega)
  have P0 : PD (m_up I 35 0 (nI 0)) pl pc := PD_sm hP' (o0 33 (by omega)).1 (o0 34 (by omega)).1
  have z0 : m_up I 35 0 (nI 0) 35 0 = nI 0 := m_up_at
  unfold q_flt at hQ
  simp (disch := omega) only [e78_0, e78_0N, e78_1, e78_4, e79_0, e79_0N, e79_1, e79_2, e79_5, true_or, m_psh_s, m_psh_n, m_kl_i, m_kl_f, m_kl_r, m_kl_n, m_kl_j, m_kl_l, m_kl_d, c_i, c_f, c_r, c_n, List.length_nil, List.length_cons, true_and, and_true, Nat.reduceAdd, Nat.reduceLeDiff, Nat.reduceSub, Nat.reduceEqDiff, Nat.reduceLT, ge_iff_le, gt_iff_lt, n_lit, m_in, m_nar0, m_nar1, and_self, not_false_eq_true, not_true_eq_false, ne_eq, reduceIte, ite_self, Nat.reduceMul, Nat.reduceDiv, Nat.reduceMod, Nat.reducePow, Nat.zero_add, Nat.add_zero, Nat.one_mul, Nat.mul_one, n_in, n_min, n_clamp, n_eq_t, n_eq_f, n_eq, n_le_t, n_le_f, n_le, n_lt_t, n_lt_f, n_lt, n_sub0, n_sublt, n_suble, n_negsub, m_up_hit, m_up_miss, m_row_hit, m_row_miss, n_eqm, n_meq, n_meqm, n_ltm, n_lem, n_mlt, n_mle, n_sub, n_div, n_and1, n_shl, n_shr, n_inc, n_mul, n_rem, z_lt, z_le, z_nlt, z_nle, Nat.not_lt_zero, Nat.le_zero_eq, Nat.zero_le, if_true, if_false, h33, h35, r1]
  cases hpl : pl with
  | zero =>
    subst hpl
    have key := hQ _ o0
    rw [q_ff, if_neg (by intro z; have := z.2; dsimp only at this; omega)] at key
    have q1 : m_up I 35 0 (nI 0) 33 3 = nI 0 := P0.1
    by_cases c : I 35 2 = nI 0
    · simp (disch := omega) only [e78_7, e78_8, e78_9, e78_10, e78_10N, e78_11, e78_14, e78_17, e78_17N, e78_18, e78_21, e78_21N, e78_22, e78_25, e78_26, e78_27, e78_30, e78_33, e78_34, e78_35, e78_38, e78_41, e78_41N, e78_42, e78_45, e78_48, e78_51, e78_53, e78_56, e78_56N, e78_57, e78_60, e84_0, e84_0N, e84_1, e84_4, e84_7, e84_7N, e84_8, e84_11, e84_12, e84_15, e84_15N, e84_16, e84_19, e84_20, e84_23, e84_24, e84_27, e84_28, true_or, m_psh_s, m_psh_n, m_kl_i, m_kl_f, m_kl_r, m_kl_n, m_kl_j, m_kl_l, m_kl_d, c_i, c_f, c_r, c_n, List.length_nil, List.length_cons, true_and, and_true, Nat.reduceAdd, Nat.reduceLeDiff, Nat.reduceSub, Nat.reduceEqDiff, Nat.reduceLT, ge_iff_le, gt_iff_lt, n_lit, m_in, m_nar0, m_nar1, and_self, not_false_eq_true, not_true_eq_false, ne_eq, reduceIte, ite_self, Nat.reduceMul, Nat.reduceDiv, Nat.reduceMod, Nat.reducePow, Nat.zero_add, Nat.add_zero, Nat.one_mul, Nat.mul_one, n_in, n_min, n_clamp, n_eq_t, n_eq_f, n_eq, n_le_t, n_le_f, n_le, n_lt_t, n_lt_f, n_lt, n_sub0, n_sublt, n_suble, n_negsub, m_up_hit, m_up_miss, m_row_hit, m_row_miss, n_eqm, n_meq, n_meqm, n_ltm, n_lem, n_mlt, n_mle, n_sub, n_div, n_and1, n_shl, n_shr, n_inc, n_mul, n_rem, z_lt, z_le, z_nlt, z_nle, Nat.not_lt_zero, Nat.le_zero_eq, Nat.zero_le, if_true, if_false, h33, h35, r1, p1, c]
      exact key
    · have cf : (I 35 2 = nI 0) = False := eq_false c
      simp (disch := omega) only [e78_7, e78_8, e78_9, e78_10, e78_10N, e78_11, e78_14, e78_17, e78_17N, e78_18, e78_21, e78_21N, e78_22, e78_25, e78_26, e78_27, e78_30, e78_33, e78_34, e78_35, e78_38, e78_41, e78_41N, e78_42, e78_45, e78_48, e78_51, e78_53, e78_56, e78_56N, e78_57, e78_60, e84_0, e84_0N, e84_1, e84_4, e84_7, e84_7N, e84_8, e84_11, e84_12, e84_15, e84_15N, e84_16, e84_19, e84_20, e84_23, e84_24, e84_27, e84_28, true_or, m_psh_s, m_psh_n, m_kl_i, m_kl_f, m_kl_r, m_kl_n, m_kl_j, m_kl_l, m_kl_d, c_i, c_f, c_r, c_n, List.length_nil, List.length_cons, true_and, and_true, Nat.reduceAdd, Nat.reduceLeDiff, Nat.reduceSub, Nat.reduceEqDiff, Nat.reduceLT, ge_iff_le, gt_iff_lt, n_lit, m_in, m_nar0, m_nar1, and_self, not_false_eq_true, not_true_eq_false, ne_eq, reduceIte, ite_self, Nat.reduceMul, Nat.reduceDiv, Nat.reduceMod, Nat.reducePow, Nat.zero_add, Nat.add_zero, Nat.one_mul, Nat.mul_one, n_in, n_min, n_clamp, n_eq_t, n_eq_f, n_eq, n_le_t, n_le_f, n_le, n_lt_t, n_lt_f, n_lt, n_sub0, n_sublt, n_suble, n_negsub, m_up_hit, m_up_miss, m_row_hit, m_row_miss, n_eqm, n_meq, n_meqm, n_ltm, n_lem, n_mlt, n_mle, n_sub, n_div, n_and1, n_shl, n_shr, n_inc, n_mul, n_rem, z_lt, z_le, z_nlt, z_nle, Nat.not_lt_zero, Nat.le_zero_eq, Nat.zero_le, if_true, if_false, h33, h35, r1, p1, cf]
      exact key
  | succ j =>
    subst hpl
    have hx := hp 0 (by omega)
    have pi := P0.2.2 0 (by omega)
    have pl1 := P0.1
    have kt : ∀ (Q : mP), _ → _ := fun Q hQ => s_takes0 (d := d - 1) (F := F) (R := R) (n := n) (Q := Q) (x := pc 0) h35 (by omega) (by omega) z0 hQ
    rw [q_ff] at hQ
    have e0 : q_tk (0, 32, 0) (pc 0) = (q_isL (pc 0), q_letter (pc 0)) := if_pos rfl
    rw [e0] at hQ
    simp (disch := omega) only [e78_7, e78_8, true_or, m_psh_s, m_psh_n, m_kl_i, m_kl_f, m_kl_r, m_kl_n, m_kl_j, m_kl_l, m_kl_d, c_i, c_f, c_r, c_n, List.length_nil, List.length_cons, true_and, and_true, Nat.reduceAdd, Nat.reduceLeDiff, Nat.reduceSub, Nat.reduceEqDiff, Nat.reduceLT, ge_iff_le, gt_iff_lt, n_lit, m_in, m_nar0, m_nar1, and_self, not_false_eq_true, not_true_eq_false, ne_eq, reduceIte, ite_self, Nat.reduceMul, Nat.reduceDiv, Nat.reduceMod, Nat.reducePow, Nat.zero_add, Nat.add_zero, Nat.one_mul, Nat.mul_one, n_in, n_min, n_clamp, n_eq_t, n_eq_f, n_eq, n_le_t, n_le_f, n_le, n_lt_t, n_lt_f, n_lt, n_sub0, n_sublt, n_suble, n_negsub, m_up_hit, m_up_miss, m_row_hit, m_row_miss, n_eqm, n_meq, n_meqm, n_ltm, n_lem, n_mlt, n_mle, n_sub, n_div, n_and1, n_shl, n_shr, n_inc, n_mul, n_rem, z_lt, z_le, z_nlt, z_nle, Nat.not_lt_zero, Nat.le_zero_eq, Nat.zero_le, if_true, if_false]
    rw [e78_9]
    simp (disch := omega) only [e78_10, e78_10N, e78_11, e78_14, e78_17, e78_17N, e78_18, e78_21, e78_21N, e78_22, e78_25, e78_26, e78_27, true_or, m_psh_s, m_psh_n, m_kl_i, m_kl_f, m_kl_r, m_kl_n, m_kl_j, m_kl_l, m_kl_d, c_i, c_f, c_r, c_n, List.length_nil, List.length_cons, true_and, and_true, Nat.reduceAdd, Nat.reduceLeDiff, Nat.reduceSub, Nat.reduceEqDiff, Nat.reduceLT, ge_iff_le, gt_iff_lt, n_lit, m_in, m_nar0, m_nar1, and_self, not_false_eq_true, not_true_eq_false, ne_eq, reduceIte, ite_self, Nat.reduceMul, Nat.reduceDiv, Nat.reduceMod, Nat.reducePow, Nat.zero_add, Nat.add_zero, Nat.one_mul, Nat.mul_one, n_in, n_min, n_clamp, n_eq_t, n_eq_f, n_eq, n_le_t, n_le_f, n_le, n_lt_t, n_lt_f, n_lt, n_sub0, n_sublt, n_suble, n_negsub, m_up_hit, m_up_miss, m_row_hit, m_row_miss, n_eqm, n_meq, n_meqm, n_ltm, n_lem, n_mlt, n_mle, n_sub, n_div, n_and1, n_shl, n_shr, n_inc, n_mul, n_rem, z_lt, z_le, z_nlt, z_nle, Nat.not_lt_zero, Nat.le_zero_eq, Nat.zero_le, if_true, if_false, h33, h34, h35, r0, r1, p1, p3]
    apply kt
    intro I1 g1 o1
    have hP1 : PD I1 (j + 1) pc := PD_sm P0 (o1 33 (by omega)).1 (o1 34 (by omega)).1
    have hle : q_isL (pc 0) ≤ 1 := q_isL_le _
    by_cases c : q_isL (pc 0) = 1
    · rw [if_pos c] at hQ
      have key := s_ff0 (d := d) (n := n) (F := F) (Q := Q) h33 h34 h35 r0 r1 hp hd j 1 (q_letter (pc 0)) I1 (by omega) hP1 g1 (GW_letter _) (fun I' o2 => hQ I' (Off_trans o0 (Off_trans o1 o2)))
      rw [c]
      simp (disch := omega) only [e78_30, e78_33, e78_34, e78_35, e78_38, true_or, m_psh_s, m_psh_n, m_kl_i, m_kl_f, m_kl_r, m_kl_n, m_kl_j, m_kl_l, m_kl_d, c_i, c_f, c_r, c_n, List.length_nil, List.length_cons, true_and, and_true, Nat.reduceAdd, Nat.reduceLeDiff, Nat.reduceSub, Nat.reduceEqDiff, Nat.reduceLT, ge_iff_le, gt_iff_lt, n_lit, m_in, m_nar0, m_nar1, and_self, not_false_eq_true, not_true_eq_false, ne_eq, reduceIte, ite_self, Nat.reduceMul, Nat.reduceDiv, Nat.reduceMod, Nat.reducePow, Nat.zero_add, Nat.add_zero, Nat.one_mul, Nat.mul_one, n_in, n_min, n_clamp, n_eq_t, n_eq_f, n_eq, n_le_t, n_le_f, n_le, n_lt_t, n_lt_f, n_lt, n_sub0, n_sublt, n_suble, n_negsub, m_up_hit, m_up_miss, m_row_hit, m_row_miss, n_eqm, n_meq, n_meqm, n_ltm, n_lem, n_mlt, n_mle, n_sub, n_div, n_and1, n_shl, n_shr, n_inc, n_mul, n_rem, z_lt, z_le, z_nlt, z_nle, Nat.not_lt_zero, Nat.le_zero_eq, Nat.zero_le, if_true, if_false]
      exact key
    · rw [if_neg c] at hQ
      have c0 : q_isL (pc 0) = 0 := by omega
      have key := hQ I1 (Off_trans o0 o1)
      rw [c0]
      simp (disch := omega) only [e78_30, e78_33, e78_34, e78_35, e78_38, true_or, m_psh_s, m_psh_n, m_kl_i, m_kl_f, m_kl_r, m_kl_n, m_kl_j, m_kl_l, m_kl_d, c_i, c_f, c_r, c_n, List.length_nil, List.length_cons, true_and, and_true, Nat.reduceAdd, Nat.reduceLeDiff, Nat.reduceSub, Nat.reduceEqDiff, Nat.reduceLT, ge_iff_le, gt_iff_lt, n_lit, m_in, m_nar0, m_nar1, and_self, not_false_eq_true, not_true_eq_false, ne_eq, reduceIte, ite_self, Nat.reduceMul, Nat.reduceDiv, Nat.reduceMod, Nat.reducePow, Nat.zero_add, Nat.add_zero, Nat.one_mul, Nat.mul_one, n_in, n_min, n_clamp, n_eq_t, n_eq_f, n_eq, n_le_t, n_le_f, n_le, n_lt_t, n_lt_f, n_lt, n_sub0, n_sublt, n_suble, n_negsub, m_up_hit, m_up_miss, m_row_hit, m_row_miss, n_eqm, n_meq, n_meqm, n_ltm, n_lem, n_mlt, n_mle, n_sub, n_div, n_and1, n_shl, n_shr, n_inc, n_mul, n_rem, z_lt, z_le, z_nlt, z_nle, Nat.not_lt_zero, Nat.le_zero_eq, Nat.zero_le, if_true, if_false]
      exact key
theorem f_fault (h : XS lay I F R n S sp hi nx hs pl pc sv) (hp : padOK pl pc) (hd : 3 ≤ d) (hQ : ∀ I' F' R', XS lay I' F' R' n S sp hi nx hs pl pc sv → FrM n I F R I' F' R' → Q (some (.int (q_oI (q_flt pl pc)))) I' F' R' n) : Ev lay d 77 0 [.ref 1] [] I F R n Q := by
  have hX := h
  have hP := h.2.2.2.2.1
  obtain ⟨⟨x1, x2, x3, x4, x5, x6, x7, x8, x9⟩, ⟨xw1, xw2, xw3⟩, ⟨xv1, xv2⟩, ⟨xp1, xp2, xp3, xp4, xp5⟩, ⟨xh1, xh2, xh3, xh4⟩, xs1, xs2, xs3⟩ := h.1
  have kf : ∀ (Q : mP), _ → _ := fun Q hQ => s_firstFault (d := d - 1) (F := F) (n := n) (Q := Q) xp1 xp2 xp3 xp4 xp5 hp hP (by omega) hQ
  simp (disch := omega) only [e77_0, e77_0N, e77_1, e77_4, true_or, m_psh_s, m_psh_n, m_kl_i, m_kl_f, m_kl_r, m_kl_n, m_kl_j, m_kl_l, m_kl_d, c_i, c_f, c_r, c_n, List.length_nil, List.length_cons, true_and, and_true, Nat.reduceAdd, Nat.reduceLeDiff, Nat.reduceSub, Nat.reduceEqDiff, Nat.reduceLT, ge_iff_le, gt_iff_lt, n_lit, m_in, m_nar0, m_nar1, and_self, not_false_eq_true, not_true_eq_false, ne_eq, reduceIte, ite_self, Nat.reduceMul, Nat.reduceDiv, Nat.reduceMod, Nat.reducePow, Nat.zero_add, Nat.add_zero, Nat.one_mul, Nat.mul_one, n_in, n_min, n_clamp, n_eq_t, n_eq_f, n_eq, n_le_t, n_le_f, n_le, n_lt_t, n_lt_f, n_lt, n_sub0, n_sublt, n_suble, n_negsub, m_up_hit, m_up_miss, m_row_hit, m_row_miss, n_eqm, n_meq, n_meqm, n_ltm, n_lem, n_mlt, n_mle, n_sub, n_div, n_and1, n_shl, n_shr, n_inc, n_mul, n_rem, z_lt, z_le, z_nlt, z_nle, Nat.not_lt_zero, Nat.le_zero_eq, Nat.zero_le, if_true, if_false, x1, x2, x3, x4, x5, x6, x7, x8, x9, xw1, xv1, xp1, xp2, xp3, xp4, xp5, xh1, xs1, xs2]
  apply kf
  intro I1 o1
  have key := hQ I1 F R (XS_pad hX (PD_sm hP (o1 33 (by omega)).1 (o1 34 (by omega)).1) (Off_wide o1 (by omega) (by omega))) (FrM_pad (Off_wide o1 (by omega) (by omega)))
  simp (disch := omega) only [e77_7, true_or, m_psh_s, m_psh_n, m_kl_i, m_kl_f, m_kl_r, m_kl_n, m_kl_j, m_kl_l, m_kl_d, c_i, c_f, c_r, c_n, List.length_nil, List.length_cons, true_and, and_true, Nat.reduceAdd, Nat.reduceLeDiff, Nat.reduceSub, Nat.reduceEqDiff, Nat.reduceLT, ge_iff_le, gt_iff_lt, n_lit, m_in, m_nar0, m_nar1, and_self, not_false_eq_true, not_true_eq_false, ne_eq, reduceIte, ite_self, Nat.reduceMul, Nat.reduceDiv, Nat.reduceMod, Nat.reducePow, Nat.zero_add, Nat.add_zero, Nat.one_mul, Nat.mul_one, n_in, n_min, n_clamp, n_eq_t, n_eq_f, n_eq, n_le_t, n_le_f, n_le, n_lt_t, n_lt_f, n_lt, n_sub0, n_sublt, n_suble, n_negsub, m_up_hit, m_up_miss, m_row_hit, m_row_miss, n_eqm, n_meq, n_meqm, n_ltm, n_lem, n_mlt, n_mle, n_sub, n_div, n_and1, n_shl, n_shr, n_inc, n_mul, n_rem, z_lt, z_le, z_nlt, z_nle, Nat.not_lt_zero, Nat.le_zero_eq, Nat.zero_le, if_true, if_false]
  exact key
theorem f_wipe (h : XS lay I F R n S sp hi nx hs pl pc sv) (hd : 1 ≤ d) (hQ : ∀ I' F' R', XS lay I' F' R' n S sp hi nx hs 0 pc sv → FrM n I F R I' F' R' → Q (some (.int (nI pl))) I' F' R' n) : Ev lay d 75 0 [.ref 1] [] I F R n Q := by
  have hP := h.2.2.2.2.1
  have o1 : Off 33 35 I F R (m_up I 33 3 (nI 0)) F R := Off_I (by omega) (by omega)
  have key := hQ _ F R (XS_pad h ⟨m_up_at, by omega, fun k hk => by omega⟩ o1) (FrM_pad o1)
  have p1 := hP.1
  obtain ⟨⟨x1, x2, x3, x4, x5, x6, x7, x8, x9⟩, ⟨xw1, xw2, xw3⟩, ⟨xv1, xv2⟩, ⟨xp1, xp2, xp3, xp4, xp5⟩, ⟨xh1, xh2, xh3, xh4⟩, xs1, xs2, xs3⟩ := h.1
  simp (disch := omega) only [e75_0, e75_0N, e75_1, e75_4, e75_7, e76_0, e76_0N, e76_1, e76_4, e76_5, e76_5N, e76_6, e76_7, e76_10, e76_11, true_or, m_psh_s, m_psh_n, m_kl_i, m_kl_f, m_kl_r, m_kl_n, m_kl_j, m_kl_l, m_kl_d, c_i, c_f, c_r, c_n, List.length_nil, List.length_cons, true_and, and_true, Nat.reduceAdd, Nat.reduceLeDiff, Nat.reduceSub, Nat.reduceEqDiff, Nat.reduceLT, ge_iff_le, gt_iff_lt, n_lit, m_in, m_nar0, m_nar1, and_self, not_false_eq_true, not_true_eq_false, ne_eq, reduceIte, ite_self, Nat.reduceMul, Nat.reduceDiv, Nat.reduceMod, Nat.reducePow, Nat.zero_add, Nat.add_zero, Nat.one_mul, Nat.mul_one, n_in, n_min, n_clamp, n_eq_t, n_eq_f, n_eq, n_le_t, n_le_f, n_le, n_lt_t, n_lt_f, n_lt, n_sub0, n_sublt, n_suble, n_negsub, m_up_hit, m_up_miss, m_row_hit, m_row_miss, n_eqm, n_meq, n_meqm, n_ltm, n_lem, n_mlt, n_mle, n_sub, n_div, n_and1, n_shl, n_shr, n_inc, n_mul, n_rem, z_lt, z_le, z_nlt, z_nle, Nat.not_lt_zero, Nat.le_zero_eq, Nat.zero_le, if_true, if_false, x1, x2, x3, x4, x5, x6, x7, x8, x9, xw1, xv1, xp1, xp2, xp3, xp4, xp5, xh1, xs1, xs2, p1]
  exact key
end PAD
