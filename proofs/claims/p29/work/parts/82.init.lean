section INIT
variable {lay : mL} {d a n n' : Nat} {I I' : mI} {F F' : mF} {R R' : mR} {Q : mP}
/-- a new object's row -/
def q_S0 : Nat → Nat := fun i => if i = 0 then 2 else if i = 1 then 75 else if i = 2 then 3 else 0
/-- where a shed will lie -/
def SL (lay : mL) (a : Nat) : Prop := lay a = (11, 0) ∧ lay (a + 1) = (0, 3) ∧ lay (a + 2) = (0, 16) ∧ lay (a + 3) = (0, 30) ∧ lay (a + 4) = (1, 16) ∧ lay (a + 5) = (0, 16) ∧ lay (a + 6) = (0, 16) ∧ lay (a + 7) = (0, 16) ∧ lay (a + 8) = (5, 0) ∧ lay (a + 9) = (0, 12) ∧ lay (a + 10) = (0, 12) ∧ lay (a + 11) = (5, 0) ∧ lay (a + 12) = (0, 12) ∧ lay (a + 13) = (0, 12)
theorem i_day {p : Nat} (hn : n = p + 1) (h0 : lay p = (5, 0)) (h1 : lay (p + 1) = (0, 12)) (h2 : lay (p + 2) = (0, 12)) (hd : 1 ≤ d) : Ev lay d 2 0 [.ref p] [] I F R n Q ↔ Q none (m_row (m_row I (p + 1) (fun _ => nI 0)) (p + 2) (fun _ => nI 0)) F (m_up (m_up R p 0 (p + 1)) p 1 (p + 2)) (p + 3) := by
  subst hn
  have e1 : ¬ p + 1 = 0 := by omega
  have e2 : ¬ p + 2 = 0 := by omega
  simp (disch := omega) only [e2_0, e2_0N, e2_1, e2_4, e2_4N, e2_5, e2_7, e2_9, e2_9N, e2_12, e2_12N, e2_13, e2_15, e2_17, e2_17N, e2_20, true_or, m_psh_s, m_psh_n, m_kl_i, m_kl_f, m_kl_r, m_kl_n, m_kl_j, m_kl_l, m_kl_d, c_i, c_f, c_r, c_n, List.length_nil, List.length_cons, true_and, and_true, Nat.reduceAdd, Nat.reduceLeDiff, Nat.reduceSub, Nat.reduceEqDiff, Nat.reduceLT, ge_iff_le, gt_iff_lt, n_lit, m_in, m_nar0, m_nar1, and_self, not_false_eq_true, not_true_eq_false, ne_eq, reduceIte, ite_self, Nat.reduceMul, Nat.reduceDiv, Nat.reduceMod, Nat.reducePow, Nat.zero_add, Nat.add_zero, Nat.one_mul, Nat.mul_one, n_in, n_min, n_clamp, n_eq_t, n_eq_f, n_eq, n_le_t, n_le_f, n_le, n_lt_t, n_lt_f, n_lt, n_sub0, n_sublt, n_suble, n_negsub, m_up_hit, m_up_miss, m_row_hit, m_row_miss, n_eqm, n_meq, n_meqm, n_ltm, n_lem, n_mlt, n_mle, n_sub, n_div, n_and1, n_shl, n_shr, n_inc, n_mul, n_rem, z_lt, z_le, z_nlt, z_nle, Nat.not_lt_zero, Nat.le_zero_eq, Nat.zero_le, if_true, if_false, h0, h1, h2, Nat.add_assoc]
theorem i_shl (h3 : lay (a + 3) = (0, 30)) (h0 : lay a = (11, 0)) (r2 : m_rv (R a 2) = .ref (a + 3)) (j : Nat) : ∀ (k : Nat) (I : mI), k + j = 30 → (∀ I', (∀ s, k ≤ s → s < 30 → I' (a + 3) s = -nI 6) → (∀ x, x ≠ a + 3 → I' x = I x) → (∀ s, s < k → I' (a + 3) s = I (a + 3) s) → Q none I' F R n) → Ev lay d 1 105 [.ref a, .int (nI k)] [] I F R n Q := by
  have e3 : ¬ a + 3 = 0 := by omega
  induction j with
  | zero =>
    intro k I hk hQ
    have hk2 : k = 30 := by omega
    subst hk2
    have key := hQ I (fun s h1 h2 => by omega) (fun _ _ => rfl) (fun _ _ => rfl)
    rw [e1_105]
    simp (disch := omega) only [e1_106, e1_108, e1_111, e1_111N, e1_112, e1_115, e1_116, e1_118, e1_119, e1_122, e1_125, true_or, m_psh_s, m_psh_n, m_kl_i, m_kl_f, m_kl_r, m_kl_n, m_kl_j, m_kl_l, m_kl_d, c_i, c_f, c_r, c_n, List.length_nil, List.length_cons, true_and, and_true, Nat.reduceAdd, Nat.reduceLeDiff, Nat.reduceSub, Nat.reduceEqDiff, Nat.reduceLT, ge_iff_le, gt_iff_lt, n_lit, m_in, m_nar0, m_nar1, and_self, not_false_eq_true, not_true_eq_false, ne_eq, reduceIte, ite_self, Nat.reduceMul, Nat.reduceDiv, Nat.reduceMod, Nat.reducePow, Nat.zero_add, Nat.add_zero, Nat.one_mul, Nat.mul_one, n_in, n_min, n_clamp, n_eq_t, n_eq_f, n_eq, n_le_t, n_le_f, n_le, n_lt_t, n_lt_f, n_lt, n_sub0, n_sublt, n_suble, n_negsub, m_up_hit, m_up_miss, m_row_hit, m_row_miss, n_eqm, n_meq, n_meqm, n_ltm, n_lem, n_mlt, n_mle, n_sub, n_div, n_and1, n_shl, n_shr, n_inc, n_mul, n_rem, z_lt, z_le, z_nlt, z_nle, Nat.not_lt_zero, Nat.le_zero_eq, Nat.zero_le, if_true, if_false]
    exact key
  | succ j ih =>
    intro k I hk hQ
    have key := ih (k + 1) (m_up I (a + 3) k (-nI 6)) (by omega) (fun I' h1 h2 h4 => hQ I' (fun s b1 b2 => by
      by_cases e : s = k
      · subst e; rw [h4 s (by omega), m_up_at]
      · exact h1 s (by omega) b2) (fun x hx => by rw [h2 x hx, m_up_off hx]) (fun s hs => by rw [h4 s (by omega), m_up_miss (by omega)]))
    rw [e1_105]
    simp (disch := omega) only [e1_106, e1_108, e1_111, e1_111N, e1_112, e1_115, e1_116, e1_118, e1_119, e1_122, e1_125, true_or, m_psh_s, m_psh_n, m_kl_i, m_kl_f, m_kl_r, m_kl_n, m_kl_j, m_kl_l, m_kl_d, c_i, c_f, c_r, c_n, List.length_nil, List.length_cons, true_and, and_true, Nat.reduceAdd, Nat.reduceLeDiff, Nat.reduceSub, Nat.reduceEqDiff, Nat.reduceLT, ge_iff_le, gt_iff_lt, n_lit, m_in, m_nar0, m_nar1, and_self, not_false_eq_true, not_true_eq_false, ne_eq, reduceIte, ite_self, Nat.reduceMul, Nat.reduceDiv, Nat.reduceMod, Nat.reducePow, Nat.zero_add, Nat.add_zero, Nat.one_mul, Nat.mul_one, n_in, n_min, n_clamp, n_eq_t, n_eq_f, n_eq, n_le_t, n_le_f, n_le, n_lt_t, n_lt_f, n_lt, n_sub0, n_sublt, n_suble, n_negsub, m_up_hit, m_up_miss, m_row_hit, m_row_miss, n_eqm, n_meq, n_meqm, n_ltm, n_lem, n_mlt, n_mle, n_sub, n_div, n_and1, n_shl, n_shr, n_inc, n_mul, n_rem, z_lt, z_le, z_nlt, z_nle, Nat.not_lt_zero, Nat.le_zero_eq, Nat.zero_le, if_true, if_false, h0, h3, r2]
    exact key
theorem i_shed (hn : n = a + 1) (hl : SL lay a) (hI : ∀ k, I a k = nI 0) (hR : ∀ k, R a k = 0) (hd : 2 ≤ d) (hQ : ∀ I' F' R', CSh lay I' F' R' (a + 14) a q_S0 (fun _ => 0) [] → (∀ x, x < a → I' x = I x ∧ F' x = F x ∧ R' x = R x) → Q none I' F' R' (a + 14)) : Ev lay d 1 0 [.ref a, m_j] [] I F R n Q := by
  subst hn
  obtain ⟨l0, l1, l2, l3, l4, l5, l6, l7, l8, l9, l10, l11, l12, l13⟩ := hl
  have kd8 : ∀ (I : mI) (F : mF) (R : mR) (Q : mP), _ := fun I F R Q => i_day (lay := lay) (d := d - 1) (I := I) (F := F) (R := R) (Q := Q) (p := a + 8) (n := a + 9) rfl l8 l9 l10 (by omega)
  have kd11 : ∀ (I : mI) (F : mF) (R : mR) (Q : mP), _ := fun I F R Q => i_day (lay := lay) (d := d - 1) (I := I) (F := F) (R := R) (Q := Q) (p := a + 11) (n := a + 12) rfl l11 l12 l13 (by omega)
  simp only [Nat.add_assoc, Nat.reduceAdd] at kd8 kd11
  simp (disch := omega) only [e1_0, e1_0N, e1_1, e1_4, e1_4N, e1_5, e1_6, e1_8, e1_8N, e1_11, e1_11N, e1_12, e1_14, e1_16, e1_16N, e1_19, e1_19N, e1_20, e1_22, e1_24, e1_24N, e1_27, e1_27N, e1_28, e1_30, e1_32, e1_32N, e1_35, e1_35N, e1_36, e1_38, e1_40, e1_40N, e1_43, e1_43N, e1_44, e1_46, e1_48, e1_48N, e1_51, e1_51N, e1_52, e1_54, e1_56, e1_56N, e1_59, e1_59N, e1_60, e1_63, e1_64, e1_67, e1_67N, e1_70, e1_70N, e1_71, e1_74, e1_75, e1_78, e1_78N, e1_81, e1_81N, e1_82, e1_85, e1_86, e1_87, e1_88, e1_88N, e1_89, e1_92, e1_93, e1_95, e1_96, e1_96N, e1_97, e1_100, e1_101, e1_102, e1_103, e1_104, true_or, m_psh_s, m_psh_n, m_kl_i, m_kl_f, m_kl_r, m_kl_n, m_kl_j, m_kl_l, m_kl_d, c_i, c_f, c_r, c_n, List.length_nil, List.length_cons, true_and, and_true, Nat.reduceAdd, Nat.reduceLeDiff, Nat.reduceSub, Nat.reduceEqDiff, Nat.reduceLT, ge_iff_le, gt_iff_lt, n_lit, m_in, m_nar0, m_nar1, and_self, not_false_eq_true, not_true_eq_false, ne_eq, reduceIte, ite_self, Nat.reduceMul, Nat.reduceDiv, Nat.reduceMod, Nat.reducePow, Nat.zero_add, Nat.add_zero, Nat.one_mul, Nat.mul_one, n_in, n_min, n_clamp, n_eq_t, n_eq_f, n_eq, n_le_t, n_le_f, n_le, n_lt_t, n_lt_f, n_lt, n_sub0, n_sublt, n_suble, n_negsub, m_up_hit, m_up_miss, m_row_hit, m_row_miss, n_eqm, n_meq, n_meqm, n_ltm, n_lem, n_mlt, n_mle, n_sub, n_div, n_and1, n_shl, n_shr, n_inc, n_mul, n_rem, z_lt, z_le, z_nlt, z_nle, Nat.not_lt_zero, Nat.le_zero_eq, Nat.zero_le, if_true, if_false, l0, l1, l2, l3, l4, l5, l6, l7, l8, l9, l10, l11, l12, l13, Nat.add_assoc, kd8, kd11, m_rv_p]
  apply i_shl l3 l0 (by simp (disch := omega) only [m_up_miss, m_up_hit, m_row_miss, m_row_hit, m_rv_p]) 30 0 _ rfl
  intro I' g1 g2 g3
  refine hQ I' _ _ ⟨⟨l0, l1, l2, l3, l4, l5, l6, l7, l8, l9, l10, l11, l12, l13, ?r0, ?r1, ?r2, ?r3, ?r4, ?r5, ?r6, ?r7, ?r8, ?r9, ?r10, ?r11, ?r12⟩, ?cc, ?gi, ?sp, ?ch, ?pk⟩ ?fr
  case r0 => simp (disch := omega) only [m_up_miss, m_up_hit, m_row_miss, m_row_hit, m_rv_p]
  case r1 => simp (disch := omega) only [m_up_miss, m_up_hit, m_row_miss, m_row_hit, m_rv_p]
  case r2 => simp (disch := omega) only [m_up_miss, m_up_hit, m_row_miss, m_row_hit, m_rv_p]
  case r3 => simp (disch := omega) only [m_up_miss, m_up_hit, m_row_miss, m_row_hit, m_rv_p]
  case r4 => simp (disch := omega) only [m_up_miss, m_up_hit, m_row_miss, m_row_hit, m_rv_p]
  case r5 => simp (disch := omega) only [m_up_miss, m_up_hit, m_row_miss, m_row_hit, m_rv_p]
  case r6 => simp (disch := omega) only [m_up_miss, m_up_hit, m_row_miss, m_row_hit, m_rv_p]
  case r7 => simp (disch := omega) only [m_up_miss, m_up_hit, m_row_miss, m_row_hit, m_rv_p]
  case r8 => simp (disch := omega) only [m_up_miss, m_up_hit, m_row_miss, m_row_hit, m_rv_p]
  case r9 => simp (disch := omega) only [m_up_miss, m_up_hit, m_row_miss, m_row_hit, m_rv_p]
  case r10 => simp (disch := omega) only [m_up_miss, m_up_hit, m_row_miss, m_row_hit, m_rv_p]
  case r11 => simp (disch := omega) only [m_up_miss, m_up_hit, m_row_miss, m_row_hit, m_rv_p]
  case r12 => simp (disch := omega) only [m_up_miss, m_up_hit, m_row_miss, m_row_hit, m_rv_p]
  case cc =>
    have z : ∀ i, 3 ≤ i → q_S0 i = 0 := fun i hi => by
      unfold q_S0
      rw [if_neg (by omega), if_neg (by omega), if_neg (by omega)]
    intro x k i hx
    have hx3 : a + x ≠ a + 3 := by unfold cS at hx; omega
    rw [g2 _ hx3]
    rcases hx with ⟨rfl, h2, rfl⟩ | ⟨rfl, h2, rfl⟩ | ⟨rfl, h2, rfl⟩ | ⟨rfl, h2, rfl⟩ | ⟨rfl, h2, rfl⟩ | ⟨rfl, h2, rfl⟩ | ⟨rfl, h2, rfl⟩ | ⟨rfl, rfl, rfl⟩ | ⟨rfl, h2, rfl⟩ | ⟨rfl, h2, rfl⟩ | ⟨rfl, rfl, rfl⟩ | ⟨rfl, rfl, rfl⟩ | ⟨rfl, rfl, rfl⟩ | ⟨rfl, rfl, rfl⟩ | ⟨rfl, rfl, rfl⟩ | ⟨rfl, rfl, rfl⟩
    · have : i = 0 ∨ i = 1 ∨ i = 2 := by omega
      rcases this with rfl | rfl | rfl
      · simp (disch := omega) only [m_up_miss, m_up_hit, m_row_miss, m_row_hit]; rfl
      · simp (disch := omega) only [m_up_miss, m_up_hit, m_row_miss, m_row_hit]; rfl
      · simp (disch := omega) only [m_up_miss, m_up_hit, m_row_miss, m_row_hit]; rfl
    · rw [z _ (by omega)]; simp (disch := omega) only [m_up_miss, m_up_hit, m_row_miss, m_row_hit]
    · rw [z _ (by omega)]; simp (disch := omega) only [m_up_miss, m_up_hit, m_row_miss, m_row_hit]
    · rw [z _ (by omega)]; simp (disch := omega) only [m_up_miss, m_up_hit, m_row_miss, m_row_hit]
    · rw [z _ (by omega)]; simp (disch := omega) only [m_up_miss, m_up_hit, m_row_miss, m_row_hit]
    · rw [z _ (by omega)]; simp (disch := omega) only [m_up_miss, m_up_hit, m_row_miss, m_row_hit]
    · rw [z _ (by omega)]; simp (disch := omega) only [m_up_miss, m_up_hit, m_row_miss, m_row_hit]
    · rw [z _ (by omega)]; simp (disch := omega) only [m_up_miss, m_up_hit, m_row_miss, m_row_hit]
    · rw [z _ (by omega)]; simp (disch := omega) only [m_up_miss, m_up_hit, m_row_miss, m_row_hit]
    · rw [z _ (by omega)]; simp (disch := omega) only [m_up_miss, m_up_hit, m_row_miss, m_row_hit]
    · rw [z _ (by omega)]; simp (disch := omega) only [m_up_miss, m_up_hit, m_row_miss, m_row_hit]
    · rw [z _ (by omega)]; simp (disch := omega) only [m_up_miss, m_up_hit, m_row_miss, m_row_hit, Nat.add_zero]; exact hI _
    · rw [z _ (by omega)]; simp (disch := omega) only [m_up_miss, m_up_hit, m_row_miss, m_row_hit, Nat.add_zero]; exact hI _
    · rw [z _ (by omega)]; simp (disch := omega) only [m_up_miss, m_up_hit, m_row_miss, m_row_hit, Nat.add_zero]; exact hI _
    · rw [z _ (by omega)]; simp (disch := omega) only [m_up_miss, m_up_hit, m_row_miss, m_row_hit, Nat.add_zero]; exact hI _
    · rw [z _ (by omega)]; simp (disch := omega) only [m_up_miss, m_up_hit, m_row_miss, m_row_hit, Nat.add_zero]; exact hI _
  case gi =>
    intro s hs
    rw [g1 s (by omega) hs]
    rfl
  case sp =>
    intro g hg
    exact m_row_hit rfl
  case ch =>
    show m_up _ _ _ _ _ _ = 0
    simp (disch := omega) only [m_up_miss, m_row_miss]
    exact hR 9
  case pk =>
    rw [g2 a (by omega)]
    simp (disch := omega) only [m_up_miss, m_row_miss]
    exact hI 10
  case fr =>
    intro x hx
    rw [g2 x (by omega)]
    refine ⟨?_, ?_, ?_⟩
    · simp (disch := omega) only [m_up_off, m_row_off]
    · simp (disch := omega) only [m_row_off]
    · simp (disch := omega) only [m_up_off, m_row_off]
end INIT
