section INITM
variable {lay : mL} {d a n n' : Nat} {I I' : mI} {F F' : mF} {R R' : mR} {Q : mP}
/-- where the reference's parts will lie -/
def DL (lay : mL) : Prop := lay 166 = (14, 0) ∧ lay 167 = (0, 124) ∧ lay 168 = (1, 16) ∧ lay 169 = (0, 124) ∧ lay 170 = (1, 16) ∧ lay 171 = (0, 744) ∧ lay 172 = (1, 96) ∧ lay 173 = (0, 248) ∧ lay 174 = (1, 32) ∧ lay 175 = (0, 80) ∧ lay 176 = (0, 2048) ∧ lay 177 = (0, 2048) ∧ lay 178 = (0, 384) ∧ lay 179 = (0, 6)
theorem i_model (hl : DL lay) (hI : ∀ k, I 166 k = nI 0) (hd : 1 ≤ d) (hQ : ∀ I' F' R', MX lay I' F' R' q_S0 (fun _ => 0) [] 0 [] 0 (fun _ => 0) (fun _ => none) → (∀ x, x < 166 → I' x = I x ∧ F' x = F x ∧ R' x = R x) → Q none I' F' R' 180) : Ev lay d 96 0 [.ref 166] [] I F R 167 Q := by
  obtain ⟨l0, l1, l2, l3, l4, l5, l6, l7, l8, l9, l10, l11, l12, l13⟩ := hl
  simp (disch := omega) only [e96_0, e96_0N, e96_1, e96_4, e96_4N, e96_5, e96_7, e96_9, e96_9N, e96_12, e96_12N, e96_13, e96_15, e96_17, e96_17N, e96_20, e96_20N, e96_21, e96_23, e96_25, e96_25N, e96_28, e96_28N, e96_29, e96_31, e96_33, e96_33N, e96_36, e96_36N, e96_37, e96_40, e96_42, e96_42N, e96_45, e96_45N, e96_46, e96_48, e96_50, e96_50N, e96_53, e96_53N, e96_54, e96_57, e96_59, e96_59N, e96_62, e96_62N, e96_63, e96_65, e96_67, e96_67N, e96_70, e96_70N, e96_71, e96_73, e96_75, e96_75N, e96_78, e96_78N, e96_79, e96_82, e96_84, e96_84N, e96_87, e96_87N, e96_88, e96_91, e96_93, e96_93N, e96_96, e96_96N, e96_97, e96_100, e96_102, e96_102N, e96_105, e96_105N, e96_106, e96_108, e96_110, e96_110N, e96_113, e96_113N, e96_114, e96_117, e96_118, e96_119, e96_120, e96_120N, e96_121, e96_124, e96_125, e96_127, e96_128, e96_128N, e96_129, e96_132, e96_133, e96_134, e96_135, e96_135N, e96_136, e96_139, e96_141, e96_143, e96_144, true_or, m_psh_s, m_psh_n, m_kl_i, m_kl_f, m_kl_r, m_kl_n, m_kl_j, m_kl_l, m_kl_d, c_i, c_f, c_r, c_n, List.length_nil, List.length_cons, true_and, and_true, Nat.reduceAdd, Nat.reduceLeDiff, Nat.reduceSub, Nat.reduceEqDiff, Nat.reduceLT, ge_iff_le, gt_iff_lt, n_lit, m_in, m_nar0, m_nar1, and_self, not_false_eq_true, not_true_eq_false, ne_eq, reduceIte, ite_self, Nat.reduceMul, Nat.reduceDiv, Nat.reduceMod, Nat.reducePow, Nat.zero_add, Nat.add_zero, Nat.one_mul, Nat.mul_one, n_in, n_min, n_clamp, n_eq_t, n_eq_f, n_eq, n_le_t, n_le_f, n_le, n_lt_t, n_lt_f, n_lt, n_sub0, n_sublt, n_suble, n_negsub, m_up_hit, m_up_miss, m_row_hit, m_row_miss, n_eqm, n_meq, n_meqm, n_ltm, n_lem, n_mlt, n_mle, n_sub, n_div, n_and1, n_shl, n_shr, n_inc, n_mul, n_rem, z_lt, z_le, z_nlt, z_nle, Nat.not_lt_zero, Nat.le_zero_eq, Nat.zero_le, if_true, if_false, l0, l1, l2, l3, l4, l5, l6, l7, l8, l9, l10, l11, l12, l13, m_rv_p]
  refine hQ _ _ _ ⟨⟨l0, l1, l2, l3, l4, l5, l6, l7, l8, l9, l10, l11, l12, l13, ?r0, ?r1, ?r2, ?r3, ?r4, ?r5, ?r6, ?r7, ?r8, ?r9, ?r10, ?r11, ?r12⟩, ⟨?ms, ?sp⟩, ?mch, ?pm, ⟨?h6, Nat.zero_le _, fun j st h => by cases h⟩, ⟨0, by omega, ?v9, fun k hk => ⟨by rw [Nat.zero_div]; rfl, fun st h => by cases h⟩⟩, ⟨?p11, fun k hk => by omega⟩⟩ ?fr
  case r0 => simp (disch := omega) only [m_up_miss, m_up_hit, m_row_miss, m_row_hit, m_rv_p]
  case r1 => simp (disch := omega) only [m_up_miss, m_up_hit, m_row_miss, m_row_hit, m_rv_p]
  case r2 => simp (disch := omega) only [m_up_miss, m_up_hit, m_row_miss, m_row_hit, m_rv_p]
  case r3 => simp (disch := omega) only [m_up_miss, m_up_hit, m_row_miss, m_row_hit, m_rv_p]
  case r4 => simp (disch := omega) only [m_up_miss, m_up_hit, m_row_miss, m_row_hit, m_rv_p]
  case r5 => simp (disch := omega) only [m_up_miss, m_up_hit, m_row_miss, m_row_hit, m_rv_p]
  case r6 => simp (disch := omega) only [m_up_miss, m_up_hit, m_row_miss, m_row_hit, m_rv_p]
  case r7 => simp (disch := omega) only [m_up_miss, m_up_hit, m_row_miss, m_row_hit, m_rv_p]
  case r8 => simp (disch := omega) only [m_up_miss, m_up_hit, m_row_miss, m_row_hit, m_rv_p]
  case r9 => simp (disch := omega) only [m_up_miss, m_up_hit, m_row_miss, m_row_hit, m_rv_p]
  case r10 => simp (disch := omega) only [m_up_miss, m_up_hit, m_row_miss, m_row_hit, m_rv_p]
  case r11 => simp (disch := omega) only [m_up_miss, m_up_hit, m_row_miss, m_row_hit, m_rv_p]
  case r12 => simp (disch := omega) only [m_up_miss, m_up_hit, m_row_miss, m_row_hit, m_rv_p]
  case ms =>
    intro k hk
    by_cases e0 : k = 0
    · subst e0; simp (disch := omega) only [m_up_miss, m_up_hit, m_row_miss, m_row_hit]; rfl
    · by_cases e1 : k = 1
      · subst e1; simp (disch := omega) only [m_up_miss, m_up_hit, m_row_miss, m_row_hit]; rfl
      · by_cases e2 : k = 2
        · subst e2; simp (disch := omega) only [m_up_miss, m_up_hit, m_row_miss, m_row_hit]; rfl
        · have z : q_S0 k = 0 := by unfold q_S0; rw [if_neg e0, if_neg e1, if_neg e2]
          rw [z]
          simp (disch := omega) only [m_up_miss, m_up_hit, m_row_miss, m_row_hit]
  case sp =>
    intro g hg
    simp (disch := omega) only [m_row_miss, m_row_hit]
  case mch => exact m_up_at
  case pm =>
    simp (disch := omega) only [m_up_miss, m_row_miss]
    exact hI 14
  case h6 =>
    simp (disch := omega) only [m_up_miss, m_row_miss]
    exact hI 6
  case v9 =>
    simp (disch := omega) only [m_up_miss, m_row_miss]
    exact hI 9
  case p11 =>
    simp (disch := omega) only [m_up_miss, m_row_miss]
    exact hI 11
  case fr =>
    intro x hx
    refine ⟨?_, ?_, ?_⟩
    · simp (disch := omega) only [m_up_off, m_row_off]
    · simp (disch := omega) only [m_row_off]
    · simp (disch := omega) only [m_up_off, m_row_off]
end INITM
