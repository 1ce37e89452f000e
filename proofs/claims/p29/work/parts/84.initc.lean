section INITC
variable {lay : mL} {d a n n' : Nat} {I I' : mI} {F F' : mF} {R R' : mR} {Q : mP}
/-- where the class's parts will lie -/
def CL (lay : mL) : Prop := lay 1 = (13, 0) ∧ lay 30 = (12, 0) ∧ lay 31 = (0, 6) ∧ lay 32 = (8, 0) ∧ lay 33 = (9, 0) ∧ lay 34 = (3, 80) ∧ lay 35 = (6, 0) ∧ lay 36 = (7, 0) ∧ lay 37 = (4, 7) ∧ lay 136 = (4, 2) ∧ lay 165 = (2, 2) ∧ ∀ a, isSd a → SL lay a
/-- the class's object as it is made -/
def IX (lay : mL) (I : mI) (F : mF) (R : mR) : Prop := XL lay R ∧ (∀ a, isSd a → NSh lay I F R a) ∧ I 36 2 = nI 0 ∧ I 36 1 = nI 0 ∧ I 33 3 = nI 0 ∧ ∀ k, I 165 k = nI 0
theorem i_sav0 (hc : CL lay) (hd : 3 ≤ d) (j : Nat) : ∀ (k : Nat) (I : mI) (F : mF) (R : mR), k + j = 2 → m_rv (R 1 6) = .ref 136 → (∀ I' F' R', (∀ i, k ≤ i → i < 2 → NSh lay I' F' R' (137 + 14 * i) ∧ R' 136 i = 137 + 14 * i) → (∀ x, x < 137 + 14 * k → x ≠ 136 → I' x = I x ∧ F' x = F x ∧ R' x = R x) → (∀ i, i < k → R' 136 i = R 136 i) → Ev lay d 0 108 [.ref 1, .int (nI 2)] [] I' F' R' 165 Q) → Ev lay d 0 84 [.ref 1, .int (nI k)] [] I F R (137 + 14 * k) Q := by
  obtain ⟨c1, c2, c3, c4, c5, c6, c7, c8, c9, c10, c11, c12⟩ := hc
  induction j with
  | zero =>
    intro k I F R hk hr hQ
    have hk2 : k = 2 := by omega
    subst hk2
    have key := hQ I F R (fun i h1 h2 => by omega) (fun _ _ _ => ⟨rfl, rfl, rfl⟩) (fun _ _ => rfl)
    rw [e0_84]
    simp (disch := omega) only [e0_85, e0_86, e0_89, e0_89N, e0_90, e0_93, e0_94, e0_97, e0_98, e0_101, e0_102, e0_105, true_or, m_psh_s, m_psh_n, m_kl_i, m_kl_f, m_kl_r, m_kl_n, m_kl_j, m_kl_l, m_kl_d, c_i, c_f, c_r, c_n, List.length_nil, List.length_cons, true_and, and_true, Nat.reduceAdd, Nat.reduceLeDiff, Nat.reduceSub, Nat.reduceEqDiff, Nat.reduceLT, ge_iff_le, gt_iff_lt, n_lit, m_in, m_nar0, m_nar1, and_self, not_false_eq_true, not_true_eq_false, ne_eq, reduceIte, ite_self, Nat.reduceMul, Nat.reduceDiv, Nat.reduceMod, Nat.reducePow, Nat.zero_add, Nat.add_zero, Nat.one_mul, Nat.mul_one, n_in, n_min, n_clamp, n_eq_t, n_eq_f, n_eq, n_le_t, n_le_f, n_le, n_lt_t, n_lt_f, n_lt, n_sub0, n_sublt, n_suble, n_negsub, m_up_hit, m_up_miss, m_row_hit, m_row_miss, n_eqm, n_meq, n_meqm, n_ltm, n_lem, n_mlt, n_mle, n_sub, n_div, n_and1, n_shl, n_shr, n_inc, n_mul, n_rem, z_lt, z_le, z_nlt, z_nle, Nat.not_lt_zero, Nat.le_zero_eq, Nat.zero_le, if_true, if_false]
    exact key
  | succ j ih =>
    intro k I F R hk hr hQ
    have hl' := c12 (137 + 14 * k) (by unfold isSd; omega)
    have l0 := hl'.1
    have ks : ∀ (Q : mP), _ → _ := fun Q hQ => i_shed (lay := lay) (d := d - 1) (a := 137 + 14 * k) (n := 137 + 14 * k + 1) (I := m_row I (137 + 14 * k) (fun _ => nI 0)) (F := F) (R := m_row R (137 + 14 * k) (fun _ => 0)) (Q := Q) rfl hl' (fun i => m_row_hit rfl) (fun i => m_row_hit rfl) (by omega) hQ
    have n0 : ¬ 137 + 14 * k = 0 := by omega
    rw [e0_84]
    simp (disch := omega) only [e0_85, e0_86, e0_89, e0_89N, e0_90, e0_93, e0_94, e0_97, e0_98, true_or, m_psh_s, m_psh_n, m_kl_i, m_kl_f, m_kl_r, m_kl_n, m_kl_j, m_kl_l, m_kl_d, c_i, c_f, c_r, c_n, List.length_nil, List.length_cons, true_and, and_true, Nat.reduceAdd, Nat.reduceLeDiff, Nat.reduceSub, Nat.reduceEqDiff, Nat.reduceLT, ge_iff_le, gt_iff_lt, n_lit, m_in, m_nar0, m_nar1, and_self, not_false_eq_true, not_true_eq_false, ne_eq, reduceIte, ite_self, Nat.reduceMul, Nat.reduceDiv, Nat.reduceMod, Nat.reducePow, Nat.zero_add, Nat.add_zero, Nat.one_mul, Nat.mul_one, n_in, n_min, n_clamp, n_eq_t, n_eq_f, n_eq, n_le_t, n_le_f, n_le, n_lt_t, n_lt_f, n_lt, n_sub0, n_sublt, n_suble, n_negsub, m_up_hit, m_up_miss, m_row_hit, m_row_miss, n_eqm, n_meq, n_meqm, n_ltm, n_lem, n_mlt, n_mle, n_sub, n_div, n_and1, n_shl, n_shr, n_inc, n_mul, n_rem, z_lt, z_le, z_nlt, z_nle, Nat.not_lt_zero, Nat.le_zero_eq, Nat.zero_le, if_true, if_false, c1, c10, hr, l0]
    apply ks
    intro I1 F1 R1 s1 o1
    have r1 : R1 1 = R 1 := by rw [(o1 1 (by omega)).2.2, m_row_off (by omega)]
    have key := ih (k + 1) I1 F1 (m_up R1 136 k (137 + 14 * k)) (by omega) (by rw [m_up_miss (by omega), r1]; exact hr) (fun I' F' R' g1 g2 g3 => hQ I' F' R' (fun i b1 b2 => by
      by_cases e : i = k
      · subst e
        refine ⟨NSh_sm (NSh_of s1) (fun x c1 c2 => ?_), by rw [g3 i (by omega), m_up_at]⟩
        obtain ⟨u1, u2, u3⟩ := g2 x (by omega) (by omega)
        exact ⟨u1, u2, u3.trans (m_up_off (by omega))⟩
      · exact g1 i (by omega) b2) (fun x hx hx2 => by
      obtain ⟨u1, u2, u3⟩ := g2 x (by omega) hx2
      obtain ⟨w1, w2, w3⟩ := o1 x hx
      refine ⟨u1.trans (w1.trans (m_row_off (by omega))), u2.trans w2, u3.trans ((m_up_off hx2).trans (w3.trans (m_row_off (by omega))))⟩) (fun i hi => by
      rw [g3 i (by omega), m_up_miss (by omega), (o1 136 (by omega)).2.2, m_row_off (by omega)]))
    rw [show 137 + 14 * (k + 1) = 137 + 14 * k + 14 by omega] at key
    simp (disch := omega) only [e0_101, e0_102, e0_105, true_or, m_psh_s, m_psh_n, m_kl_i, m_kl_f, m_kl_r, m_kl_n, m_kl_j, m_kl_l, m_kl_d, c_i, c_f, c_r, c_n, List.length_nil, List.length_cons, true_and, and_true, Nat.reduceAdd, Nat.reduceLeDiff, Nat.reduceSub, Nat.reduceEqDiff, Nat.reduceLT, ge_iff_le, gt_iff_lt, n_lit, m_in, m_nar0, m_nar1, and_self, not_false_eq_true, not_true_eq_false, ne_eq, reduceIte, ite_self, Nat.reduceMul, Nat.reduceDiv, Nat.reduceMod, Nat.reducePow, Nat.zero_add, Nat.add_zero, Nat.one_mul, Nat.mul_one, n_in, n_min, n_clamp, n_eq_t, n_eq_f, n_eq, n_le_t, n_le_f, n_le, n_lt_t, n_lt_f, n_lt, n_sub0, n_sublt, n_suble, n_negsub, m_up_hit, m_up_miss, m_row_hit, m_row_miss, n_eqm, n_meq, n_meqm, n_ltm, n_lem, n_mlt, n_mle, n_sub, n_div, n_and1, n_shl, n_shr, n_inc, n_mul, n_rem, z_lt, z_le, z_nlt, z_nle, Nat.not_lt_zero, Nat.le_zero_eq, Nat.zero_le, if_true, if_false, c10, l0]
    exact ⟨n0, key⟩
theorem i_new (hc : CL lay) (hI : ∀ k, I 1 k = nI 0) (hd : 4 ≤ d) (hQ : ∀ I' F' R', IX lay I' F' R' → (∀ x, x < 1 → I' x = I x ∧ F' x = F x ∧ R' x = R x) → Q none I' F' R' 166) : Ev lay d 0 0 [.ref 1, m_j] [] I F R 2 Q := by
  have hc' := hc
  obtain ⟨c1, c2, c3, c4, c5, c6, c7, c8, c9, c10, c11, c12⟩ := hc
  have s2 := c12 2 (Or.inl rfl)
  have s16 := c12 16 (Or.inr (Or.inl rfl))
  have l2 := s2.1
  have l16 := s16.1
  have k2 : ∀ (I : mI) (F : mF) (R : mR) (Q : mP), _ → _ := fun I F R Q hQ => i_shed (lay := lay) (d := d - 1) (a := 2) (n := 3) (I := m_row I 2 (fun _ => nI 0)) (F := F) (R := m_row R 2 (fun _ => 0)) (Q := Q) rfl s2 (fun i => m_row_hit rfl) (fun i => m_row_hit rfl) (by omega) hQ
  have k16 : ∀ (I : mI) (F : mF) (R : mR) (Q : mP), _ → _ := fun I F R Q hQ => i_shed (lay := lay) (d := d - 1) (a := 16) (n := 17) (I := m_row I 16 (fun _ => nI 0)) (F := F) (R := m_row R 16 (fun _ => 0)) (Q := Q) rfl s16 (fun i => m_row_hit rfl) (fun i => m_row_hit rfl) (by omega) hQ
  simp (disch := omega) only [e0_0, e0_0N, e0_1, e0_4, e0_4N, e0_5, e0_8, e0_9, true_or, m_psh_s, m_psh_n, m_kl_i, m_kl_f, m_kl_r, m_kl_n, m_kl_j, m_kl_l, m_kl_d, c_i, c_f, c_r, c_n, List.length_nil, List.length_cons, true_and, and_true, Nat.reduceAdd, Nat.reduceLeDiff, Nat.reduceSub, Nat.reduceEqDiff, Nat.reduceLT, ge_iff_le, gt_iff_lt, n_lit, m_in, m_nar0, m_nar1, and_self, not_false_eq_true, not_true_eq_false, ne_eq, reduceIte, ite_self, Nat.reduceMul, Nat.reduceDiv, Nat.reduceMod, Nat.reducePow, Nat.zero_add, Nat.add_zero, Nat.one_mul, Nat.mul_one, n_in, n_min, n_clamp, n_eq_t, n_eq_f, n_eq, n_le_t, n_le_f, n_le, n_lt_t, n_lt_f, n_lt, n_sub0, n_sublt, n_suble, n_negsub, m_up_hit, m_up_miss, m_row_hit, m_row_miss, n_eqm, n_meq, n_meqm, n_ltm, n_lem, n_mlt, n_mle, n_sub, n_div, n_and1, n_shl, n_shr, n_inc, n_mul, n_rem, z_lt, z_le, z_nlt, z_nle, Nat.not_lt_zero, Nat.le_zero_eq, Nat.zero_le, if_true, if_false, c1, l2]
  apply k2
  intro I1 F1 R1 h1 o1
  simp (disch := omega) only [e0_12, e0_12N, e0_15, e0_15N, e0_16, e0_19, e0_20, true_or, m_psh_s, m_psh_n, m_kl_i, m_kl_f, m_kl_r, m_kl_n, m_kl_j, m_kl_l, m_kl_d, c_i, c_f, c_r, c_n, List.length_nil, List.length_cons, true_and, and_true, Nat.reduceAdd, Nat.reduceLeDiff, Nat.reduceSub, Nat.reduceEqDiff, Nat.reduceLT, ge_iff_le, gt_iff_lt, n_lit, m_in, m_nar0, m_nar1, and_self, not_false_eq_true, not_true_eq_false, ne_eq, reduceIte, ite_self, Nat.reduceMul, Nat.reduceDiv, Nat.reduceMod, Nat.reducePow, Nat.zero_add, Nat.add_zero, Nat.one_mul, Nat.mul_one, n_in, n_min, n_clamp, n_eq_t, n_eq_f, n_eq, n_le_t, n_le_f, n_le, n_lt_t, n_lt_f, n_lt, n_sub0, n_sublt, n_suble, n_negsub, m_up_hit, m_up_miss, m_row_hit, m_row_miss, n_eqm, n_meq, n_meqm, n_ltm, n_lem, n_mlt, n_mle, n_sub, n_div, n_and1, n_shl, n_shr, n_inc, n_mul, n_rem, z_lt, z_le, z_nlt, z_nle, Nat.not_lt_zero, Nat.le_zero_eq, Nat.zero_le, if_true, if_false, c1, l16]
  apply k16
  intro I2 F2 R2 h2 o2
  simp (disch := omega) only [e0_23, e0_23N, e0_26, e0_26N, e0_27, e0_30, e0_31, e0_34, e0_34N, e0_37, e0_37N, e0_38, e0_41, e0_42, e0_42N, e0_43, e0_46, e0_49, e0_49N, e0_52, e0_52N, e0_53, e0_56, e0_57, e0_60, e0_60N, e0_63, e0_63N, e0_64, e0_67, e0_68, e3_0, e3_0N, e3_1, e3_4, e3_4N, e3_5, e3_7, e3_9, e3_9N, e3_12, e4_0, e4_0N, e4_1, e4_4, e4_4N, e4_5, e4_5N, e4_6, e4_6N, e4_9, e5_0, e5_0N, e5_1, e5_4, e5_4N, e5_5, e5_7, e5_9, e5_9N, e5_12, e5_12N, e5_13, e5_16, e5_17, e5_20, e5_20N, e5_23, e6_0, e6_0N, e6_1, e6_4, true_or, m_psh_s, m_psh_n, m_kl_i, m_kl_f, m_kl_r, m_kl_n, m_kl_j, m_kl_l, m_kl_d, c_i, c_f, c_r, c_n, List.length_nil, List.length_cons, true_and, and_true, Nat.reduceAdd, Nat.reduceLeDiff, Nat.reduceSub, Nat.reduceEqDiff, Nat.reduceLT, ge_iff_le, gt_iff_lt, n_lit, m_in, m_nar0, m_nar1, and_self, not_false_eq_true, not_true_eq_false, ne_eq, reduceIte, ite_self, Nat.reduceMul, Nat.reduceDiv, Nat.reduceMod, Nat.reducePow, Nat.zero_add, Nat.add_zero, Nat.one_mul, Nat.mul_one, n_in, n_min, n_clamp, n_eq_t, n_eq_f, n_eq, n_le_t, n_le_f, n_le, n_lt_t, n_lt_f, n_lt, n_sub0, n_sublt, n_suble, n_negsub, m_up_hit, m_up_miss, m_row_hit, m_row_miss, n_eqm, n_meq, n_meqm, n_ltm, n_lem, n_mlt, n_mle, n_sub, n_div, n_and1, n_shl, n_shr, n_inc, n_mul, n_rem, z_lt, z_le, z_nlt, z_nle, Nat.not_lt_zero, Nat.le_zero_eq, Nat.zero_le, if_true, if_false, c1, c2, c3, c4, c5, c6, c7, c8, m_rv_p]
  -- from here the references that were made are one table
  have kh : ∀ (I : mI) (F : mF) (R : mR) (Q : mP), (∀ k, I 36 k = nI 0) → _ → _ := fun I F R Q hz hQ => i_hist (lay := lay) (d := d - 1) (I := I) (F := F) (R := R) (Q := Q) (fun i hi => c12 _ (Or.inr (Or.inr (Or.inl (by omega))))) c8 c9 hz (by omega) hQ
  apply kh _ _ _ _ (fun k => m_row_hit rfl)
  intro I3 F3 R3 h3 r36 i36 o3
  have q1 := (o3 1 (by omega)).2.2
  have q30 := (o3 30 (by omega)).2.2
  have q32 := (o3 32 (by omega)).2.2
  have q33 := (o3 33 (by omega)).2.2
  have e10 : R3 1 0 = 2 := by
    rw [q1]
    simp (disch := omega) only [m_up_miss, m_up_hit, m_row_miss, m_row_hit]
    rw [(o2 1 (by omega)).2.2]
    simp (disch := omega) only [m_up_miss, m_up_hit, m_row_miss, m_row_hit]
  have e11 : R3 1 1 = 16 := by rw [q1]; simp (disch := omega) only [m_up_miss, m_up_hit, m_row_miss, m_row_hit]
  have e12 : R3 1 2 = 30 := by rw [q1]; simp (disch := omega) only [m_up_miss, m_up_hit, m_row_miss, m_row_hit]
  have e13 : R3 1 3 = 32 := by rw [q1]; simp (disch := omega) only [m_up_miss, m_up_hit, m_row_miss, m_row_hit]
  have e14 : R3 1 4 = 33 := by rw [q1]; simp (disch := omega) only [m_up_miss, m_up_hit, m_row_miss, m_row_hit]
  have e30 : R3 30 0 = 31 := by rw [q30]; simp (disch := omega) only [m_up_miss, m_up_hit, m_row_miss, m_row_hit]
  have e32 : R3 32 0 = 30 := by rw [q32]; simp (disch := omega) only [m_up_miss, m_up_hit, m_row_miss, m_row_hit]
  have e330 : R3 33 0 = 34 := by rw [q33]; simp (disch := omega) only [m_up_miss, m_up_hit, m_row_miss, m_row_hit]
  have e331 : R3 33 1 = 35 := by rw [q33]; simp (disch := omega) only [m_up_miss, m_up_hit, m_row_miss, m_row_hit]
  have z33 : I3 33 3 = nI 0 := by rw [(o3 33 (by omega)).1]; simp (disch := omega) only [m_row_miss, m_row_hit]
  have z36 : ∀ k, I3 36 k = nI 0 := fun k => by rw [i36]; exact m_row_hit rfl
  have n16 : NSh lay I3 F3 R3 16 := NSh_sm (NSh_of h2) (fun x a1 a2 => by
    obtain ⟨u1, u2, u3⟩ := o3 x (by omega)
    refine ⟨u1.trans (by simp (disch := omega) only [m_row_off]), u2, u3.trans (by simp (disch := omega) only [m_up_off, m_row_off])⟩)
  have n2 : NSh lay I3 F3 R3 2 := NSh_sm (NSh_of h1) (fun x a1 a2 => by
    obtain ⟨u1, u2, u3⟩ := o3 x (by omega)
    obtain ⟨w1, w2, w3⟩ := o2 x (by omega)
    refine ⟨u1.trans ?_, u2.trans w2, u3.trans ?_⟩
    · simp (disch := omega) only [m_row_off]
      rw [w1, m_row_off (by omega)]
    · simp (disch := omega) only [m_up_off, m_row_off]
      rw [w3]
      simp (disch := omega) only [m_up_off, m_row_off])
  have row0 : I3 0 = I 0 ∧ F3 0 = F 0 ∧ R3 0 = R 0 := by
    obtain ⟨u1, u2, u3⟩ := o3 0 (by omega)
    obtain ⟨w1, w2, w3⟩ := o2 0 (by omega)
    obtain ⟨v1, v2, v3⟩ := o1 0 (by omega)
    refine ⟨u1.trans ?_, u2.trans (w2.trans v2), u3.trans ?_⟩
    · simp (disch := omega) only [m_row_off]
      rw [w1, m_row_off (by omega), v1, m_row_off (by omega)]
    · simp (disch := omega) only [m_up_off, m_row_off]
      rw [w3]
      simp (disch := omega) only [m_up_off, m_row_off]
      rw [v3, m_row_off (by omega)]
  clear o1 o2 o3 q1 q30 q32 q33 h1 h2 i36 k2 k16 kh
  have key := i_sav0 (lay := lay) (d := d) (Q := Q) hc' (by omega) 2 0 I3 F3 (m_up (m_row (m_up R3 1 5 36) 136 (fun _ => 0)) 1 6 136) rfl (by rw [m_up_at]; rfl) (fun I4 F4 R4 h4 o4 _ => by
    have f1 := (o4 1 (by omega) (by omega)).2.2
    have fx : ∀ x, 2 ≤ x → x < 136 → R4 x = R3 x ∧ I4 x = I3 x ∧ F4 x = F3 x := fun x a1 a2 => by
      obtain ⟨u1, u2, u3⟩ := o4 x (by omega) (by omega)
      exact ⟨u3.trans (by simp (disch := omega) only [m_up_off, m_row_off]), u1, u2⟩
    have r1 : ∀ k, k < 7 → m_up R4 1 7 165 1 k = m_up (m_row (m_up R3 1 5 36) 136 (fun _ => 0)) 1 6 136 1 k := fun k hk => by rw [m_up_ne (by omega), f1]
    have key := hQ (m_row I4 165 (fun _ => nI 0)) F4 (m_up R4 1 7 165) ⟨⟨⟨c1, ?p0, ?p1, ?p2, ?p3, ?p4, ?p5, ?p6, ?p7⟩, ⟨c2, c3, ?p8⟩, ⟨c4, ?p9⟩, ⟨c5, c6, c7, ?p10, ?p11⟩, ⟨c8, c9, ?p12, ?p13⟩, ⟨c10, c11, ?p14⟩⟩, ?ns, ?i362, ?i361, ?i333, fun k => m_row_hit rfl⟩ ?fr
    · simp (disch := omega) only [e0_108, e0_108N, e0_109, e0_110, e0_112, e0_112N, e0_115, true_or, m_psh_s, m_psh_n, m_kl_i, m_kl_f, m_kl_r, m_kl_n, m_kl_j, m_kl_l, m_kl_d, c_i, c_f, c_r, c_n, List.length_nil, List.length_cons, true_and, and_true, Nat.reduceAdd, Nat.reduceLeDiff, Nat.reduceSub, Nat.reduceEqDiff, Nat.reduceLT, ge_iff_le, gt_iff_lt, n_lit, m_in, m_nar0, m_nar1, and_self, not_false_eq_true, not_true_eq_false, ne_eq, reduceIte, ite_self, Nat.reduceMul, Nat.reduceDiv, Nat.reduceMod, Nat.reducePow, Nat.zero_add, Nat.add_zero, Nat.one_mul, Nat.mul_one, n_in, n_min, n_clamp, n_eq_t, n_eq_f, n_eq, n_le_t, n_le_f, n_le, n_lt_t, n_lt_f, n_lt, n_sub0, n_sublt, n_suble, n_negsub, m_up_hit, m_up_miss, m_row_hit, m_row_miss, n_eqm, n_meq, n_meqm, n_ltm, n_lem, n_mlt, n_mle, n_sub, n_div, n_and1, n_shl, n_shr, n_inc, n_mul, n_rem, z_lt, z_le, z_nlt, z_nle, Nat.not_lt_zero, Nat.le_zero_eq, Nat.zero_le, if_true, if_false, c1, c11]
      exact key
    case p0 => rw [r1 0 (by omega), m_up_miss (by omega), m_row_miss (by omega), m_up_miss (by omega), e10]; rfl
    case p1 => rw [r1 1 (by omega), m_up_miss (by omega), m_row_miss (by omega), m_up_miss (by omega), e11]; rfl
    case p2 => rw [r1 2 (by omega), m_up_miss (by omega), m_row_miss (by omega), m_up_miss (by omega), e12]; rfl
    case p3 => rw [r1 3 (by omega), m_up_miss (by omega), m_row_miss (by omega), m_up_miss (by omega), e13]; rfl
    case p4 => rw [r1 4 (by omega), m_up_miss (by omega), m_row_miss (by omega), m_up_miss (by omega), e14]; rfl
    case p5 => rw [r1 5 (by omega), m_up_miss (by omega), m_row_miss (by omega), m_up_at]; rfl
    case p6 => rw [r1 6 (by omega), m_up_at]; rfl
    case p7 => rw [m_up_at]; rfl
    case p8 => rw [m_up_off (by omega), (fx 30 (by omega) (by omega)).1, e30]; rfl
    case p9 => rw [m_up_off (by omega), (fx 32 (by omega) (by omega)).1, e32]; rfl
    case p10 => rw [m_up_off (by omega), (fx 33 (by omega) (by omega)).1, e330]; rfl
    case p11 => rw [m_up_off (by omega), (fx 33 (by omega) (by omega)).1, e331]; rfl
    case p12 => rw [m_up_off (by omega), (fx 36 (by omega) (by omega)).1, r36]; rfl
    case p13 =>
      intro j hj
      rw [m_up_off (by omega), (fx 37 (by omega) (by omega)).1, (h3 j hj).2]
      exact m_rv_p (by omega)
    case p14 =>
      intro j hj
      rw [m_up_off (by omega), (h4 j (by omega) hj).2]
      exact m_rv_p (by omega)
    case ns =>
      have up : ∀ a, 2 ≤ a → a + 13 < 136 → NSh lay I3 F3 R3 a → NSh lay (m_row I4 165 (fun _ => nI 0)) F4 (m_up R4 1 7 165) a := fun a b1 b2 hn => NSh_sm hn (fun x b3 b4 => by
        obtain ⟨u1, u2, u3⟩ := fx x (by omega) (by omega)
        exact ⟨by rw [m_row_off (by omega), u2], u3, by rw [m_up_off (by omega), u1]⟩)
      intro a ha
      rcases ha with rfl | rfl | ha | rfl | rfl
      · exact up 2 (by omega) (by omega) n2
      · exact up 16 (by omega) (by omega) n16
      · obtain ⟨i, hi, rfl⟩ : ∃ i, i < 7 ∧ a = 38 + 14 * i := ⟨(a - 38) / 14, by omega, by omega⟩
        exact up _ (by omega) (by omega) (h3 i hi).1
      · exact NSh_sm (h4 0 (by omega) (by omega)).1 (fun x b3 b4 => ⟨m_row_off (by omega), rfl, m_up_off (by omega)⟩)
      · exact NSh_sm (h4 1 (by omega) (by omega)).1 (fun x b3 b4 => ⟨m_row_off (by omega), rfl, m_up_off (by omega)⟩)
    case i362 => rw [m_row_off (by omega), (fx 36 (by omega) (by omega)).2.1]; exact z36 2
    case i361 => rw [m_row_off (by omega), (fx 36 (by omega) (by omega)).2.1]; exact z36 1
    case i333 => rw [m_row_off (by omega), (fx 33 (by omega) (by omega)).2.1]; exact z33
    case fr =>
      intro x hx
      have hx0 : x = 0 := by omega
      subst hx0
      obtain ⟨u1, u2, u3⟩ := o4 0 (by omega) (by omega)
      refine ⟨?_, u2.trans row0.2.1, ?_⟩
      · rw [m_row_off (by omega), u1, row0.1]
      · rw [m_up_off (by omega), u3]
        simp (disch := omega) only [m_up_off, m_row_off]
        exact row0.2.2)
  simp (disch := omega) only [e0_71, e0_71N, e0_74, e0_74N, e0_75, e0_76, e0_79, e0_79N, e0_82, e0_83, true_or, m_psh_s, m_psh_n, m_kl_i, m_kl_f, m_kl_r, m_kl_n, m_kl_j, m_kl_l, m_kl_d, c_i, c_f, c_r, c_n, List.length_nil, List.length_cons, true_and, and_true, Nat.reduceAdd, Nat.reduceLeDiff, Nat.reduceSub, Nat.reduceEqDiff, Nat.reduceLT, ge_iff_le, gt_iff_lt, n_lit, m_in, m_nar0, m_nar1, and_self, not_false_eq_true, not_true_eq_false, ne_eq, reduceIte, ite_self, Nat.reduceMul, Nat.reduceDiv, Nat.reduceMod, Nat.reducePow, Nat.zero_add, Nat.add_zero, Nat.one_mul, Nat.mul_one, n_in, n_min, n_clamp, n_eq_t, n_eq_f, n_eq, n_le_t, n_le_f, n_le, n_lt_t, n_lt_f, n_lt, n_sub0, n_sublt, n_suble, n_negsub, m_up_hit, m_up_miss, m_row_hit, m_row_miss, n_eqm, n_meq, n_meqm, n_ltm, n_lem, n_mlt, n_mle, n_sub, n_div, n_and1, n_shl, n_shr, n_inc, n_mul, n_rem, z_lt, z_le, z_nlt, z_nle, Nat.not_lt_zero, Nat.le_zero_eq, Nat.zero_le, if_true, if_false, c1, c10]
  exact key
end INITC
