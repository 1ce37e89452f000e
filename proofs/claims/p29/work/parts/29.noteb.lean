section NOTEB
variable {lay : mL} {d a n : Nat} {I : mI} {F : mF} {R : mR} {Q : mP} {S : Nat → Nat} {sp : Nat → UInt32} {hi : List Nat}
theorem q_cnt_le (b : Nat) (hi : List Nat) : q_cnt b hi ≤ hi.length := by
  induction hi with
  | nil => exact Nat.le_refl _
  | cons x r ih =>
    unfold q_cnt
    rw [List.length_cons]
    split <;> omega
theorem s_note1 {b len : Nat} {v3 v4 : Value} (h : CSh lay I F R n a S sp hi) (hb : b < 65536) (hhi : ∀ x, x ∈ hi → x < 65536) (hl : hi.length < 2000) (hn : 180 ≤ n) (hnl : lay n = (10, 0)) (ha : a + 13 < 180) (hd : 2 ≤ d) (hQ : ∀ I' R', CSh lay I' F R' (n + 1) a S sp (b :: hi) → Of2 a (a + 13) n I F R I' F R' → Ev lay d 36 47 [.ref a, .int (nI b), .int (nI len), v3, v4] [] I' F R' (n + 1) Q) : Ev lay d 36 0 [.ref a, .int (nI b), .int (nI len), v3, v4] [] I F R n Q := by
  have h10 := h.2.2.2.2.2
  have hc := h.2.2.2.2.1
  have hN : CSh lay (m_row I n (fun _ => nI 0)) F (m_row R n (fun _ => 0)) (n + 1) a S sp hi := by
    refine CSh_of2 (lo := a + 14) (hi' := a + 13) (n' := n + 1) h (fun x hx _ => ⟨m_row_off (by omega), rfl, m_row_off (by omega)⟩) (by omega) (by omega) (by omega) (by omega)
  have kt : ∀ (d : Nat) (Q : mP), _ := fun d Q => s_times (d := d) (Q := Q) hN hb hhi
  have ku : ∀ (d : Nat) (Q : mP), _ := fun d Q => s_unl (d := d) (Q := Q) hN
  have ra : R a 9 < n := by
    cases hi with
    | nil => rw [show R a 9 = 0 from hc]; omega
    | cons x r => exact hc.2.1
  have hcl := q_cnt_le b hi
  have fin : ∀ I2 R2, (∀ x, x < n → x ≠ a → I2 x = I x) → (∀ x, x < n → x ≠ a → R2 x = R x) → (∀ k, k ≠ 10 → I2 a k = I a k) → (∀ k, k ≠ 9 → R2 a k = R a k) → I2 a 10 = nI (hi.length + 1) → R2 a 9 = n → I2 n 0 = nI b → I2 n 1 = nI (q_cnt b hi + 1) → I2 n 2 = nI (if q_cnt b hi + 1 = 1 then q_unl hi + 1 else q_unl hi) → R2 n 3 = R a 9 → CSh lay I2 F R2 (n + 1) a S sp (b :: hi) ∧ Of2 a (a + 13) n I F R I2 F R2 := by
    intro I2 R2 f1 f2 f3 f4 f5 f6 f7 f8 f9 f10
    refine ⟨⟨ISh_off h.1 (fun x k h1 h2 h3 => ?_), CC_off h.2.1 (fun x k i hx => ?_), fun s hs => ?_, h.2.2.2.1, ?_, ?_⟩, fun x hx hx2 => ⟨f1 x hx (by omega), rfl, f2 x hx (by omega)⟩⟩
    · by_cases e : x = a
      · subst e; exact f4 k (by omega)
      · rw [f2 x (by omega) e]
    · by_cases e : x = 0
      · subst e
        rw [Nat.add_zero, f3 k (by unfold cS at hx; omega)]
      · have := (cS_lt hx).1
        rw [f1 (a + x) (by omega) (by omega)]
    · rw [f1 (a + 3) (by omega) (by omega)]; exact h.2.2.1 s hs
    · rw [f6]
      refine ⟨hn, by omega, hnl, f7, ?_, ?_, ?_⟩
      · rw [f8]; simp [q_cnt]
      · have e : q_unl (b :: hi) = q_unl hi + (if q_cnt b hi = 0 then 1 else 0) := rfl
        rw [f9, e]
        by_cases c : q_cnt b hi = 0
        · rw [if_pos c, if_pos (by omega)]
        · rw [if_neg c, if_neg (by omega), Nat.add_zero]
      · rw [f10]
        exact Cch_off hc (by omega) fun p h1 h2 => ⟨f1 p h2 (by omega), f2 p h2 (by omega)⟩
    · rw [f5, List.length_cons]
  have key := fun (I2 : mI) (R2 : mR) (hf : CSh lay I2 F R2 (n + 1) a S sp (b :: hi) ∧ Of2 a (a + 13) n I F R I2 F R2) => hQ I2 R2 hf.1 hf.2
  have ifs : (if q_cnt b hi = 0 then q_unl hi + 1 else q_unl hi) = if q_cnt b hi + 1 = 1 then q_unl hi + 1 else q_unl hi := by
    by_cases c : q_cnt b hi = 0
    · rw [if_pos c, if_pos (by omega)]
    · rw [if_neg c, if_neg (by omega)]
  have n0 : ¬ n = 0 := by omega
  have hlN : lay n = (10, 0) := hnl
  obtain ⟨hs0, hs1, hs2, hs3, hs4, hs5, hs6, hs7, hs8, hs9, hs10, hs11, hs12, hs13, hs14, hs15, hs16, hs17, hs18, hs19, hs20, hs21, hs22, hs23, hs24, hs25, hs26⟩ := h.1
  rcases Nat.eq_zero_or_pos (R a 9) with r9 | r9
  · have r9' : m_rv (R a 9) = .null := by rw [r9]; rfl
    have kp : ∀ (I : mI) (R : mR) (d : Nat) (Q : mP), 1 ≤ d → (Ev lay d 39 0 [.ref n, .int (nI b), .int (nI (q_cnt b hi + 1)), .int (nI (q_unl hi)), .null] [] I F R (n + 1) Q ↔ _) := fun I R d Q hd => s_picked (q := 0) (n := n + 1) hnl hd (by omega)
    simp (disch := omega) only [e36_0, e36_0N, e36_1, e36_4, e36_7, e36_10, e36_10N, e36_11, e36_14, e36_15, e36_16, e36_16N, e36_17, e36_18, e36_21, e36_22, e36_23, e36_23N, e36_24, e36_27, e36_27N, e36_28, e36_31, e36_31N, e36_34, e36_34N, e36_37, e36_37N, e36_38, e36_39, e36_42, e36_43, e36_44, true_or, m_psh_s, m_psh_n, m_kl_i, m_kl_f, m_kl_r, m_kl_n, m_kl_j, m_kl_l, m_kl_d, c_i, c_f, c_r, c_n, List.length_nil, List.length_cons, true_and, and_true, Nat.reduceAdd, Nat.reduceLeDiff, Nat.reduceSub, Nat.reduceEqDiff, Nat.reduceLT, ge_iff_le, gt_iff_lt, n_lit, m_in, m_nar0, m_nar1, and_self, not_false_eq_true, not_true_eq_false, ne_eq, reduceIte, ite_self, Nat.reduceMul, Nat.reduceDiv, Nat.reduceMod, Nat.reducePow, Nat.zero_add, Nat.add_zero, Nat.one_mul, Nat.mul_one, n_in, n_min, n_clamp, n_eq_t, n_eq_f, n_eq, n_le_t, n_le_f, n_le, n_lt_t, n_lt_f, n_lt, n_sub0, n_sublt, n_suble, n_negsub, m_up_hit, m_up_miss, m_row_hit, m_row_miss, n_eqm, n_meq, n_meqm, n_ltm, n_lem, n_mlt, n_mle, n_sub, n_div, n_and1, n_shl, n_shr, n_inc, n_mul, n_rem, z_lt, z_le, z_nlt, z_nle, Nat.not_lt_zero, Nat.le_zero_eq, Nat.zero_le, if_true, if_false, hs0, hs1, hs2, hs3, hs4, hs5, hs6, hs7, hs8, hs9, hs10, hs11, hs12, hs13, hs14, hs15, hs16, hs17, hs18, hs19, hs20, hs21, hs22, hs23, hs24, hs25, hs26, h10, hnl, kt, ku, r9', kp, m_row_off, false_or, List.map_cons, List.map_nil, List.sum_cons, List.sum_nil]
    refine ⟨n0, ?_⟩
    rw [ifs]
    apply key
    apply fin
    · intro x h1 h2; simp (disch := omega) only [m_up_off, m_row_off]
    · intro x h1 h2; simp (disch := omega) only [m_up_off, m_row_off]
    · intro k h1; simp (disch := omega) only [m_up_miss, m_row_miss]
    · intro k h1; simp (disch := omega) only [m_up_miss, m_row_miss]
    · rw [m_up_at]
    · rw [m_up_at]
    · simp (disch := omega) only [m_up_miss, m_up_hit]
    · simp (disch := omega) only [m_up_miss, m_up_hit]
    · simp (disch := omega) only [m_up_miss, m_up_hit]
    · rw [r9]; simp (disch := omega) only [m_up_miss, m_up_hit]
  · have r9' := m_rv_p r9
    have kp := fun (I' : mI) (R' : mR) (d : Nat) (Q : mP) (hd : 1 ≤ d) => s_picked (q := R a 9) (lay := lay) (p := n) (b := b) (t := q_cnt b hi + 1) (u := q_unl hi) (n := n + 1) (d := d) (I := I') (R := R') (F := F) (Q := Q) hnl hd (by omega)
    simp only [r9'] at kp
    simp (disch := omega) only [e36_0, e36_0N, e36_1, e36_4, e36_7, e36_10, e36_10N, e36_11, e36_14, e36_15, e36_16, e36_16N, e36_17, e36_18, e36_21, e36_22, e36_23, e36_23N, e36_24, e36_27, e36_27N, e36_28, e36_31, e36_31N, e36_34, e36_34N, e36_37, e36_37N, e36_38, e36_39, e36_42, e36_43, e36_44, true_or, m_psh_s, m_psh_n, m_kl_i, m_kl_f, m_kl_r, m_kl_n, m_kl_j, m_kl_l, m_kl_d, c_i, c_f, c_r, c_n, List.length_nil, List.length_cons, true_and, and_true, Nat.reduceAdd, Nat.reduceLeDiff, Nat.reduceSub, Nat.reduceEqDiff, Nat.reduceLT, ge_iff_le, gt_iff_lt, n_lit, m_in, m_nar0, m_nar1, and_self, not_false_eq_true, not_true_eq_false, ne_eq, reduceIte, ite_self, Nat.reduceMul, Nat.reduceDiv, Nat.reduceMod, Nat.reducePow, Nat.zero_add, Nat.add_zero, Nat.one_mul, Nat.mul_one, n_in, n_min, n_clamp, n_eq_t, n_eq_f, n_eq, n_le_t, n_le_f, n_le, n_lt_t, n_lt_f, n_lt, n_sub0, n_sublt, n_suble, n_negsub, m_up_hit, m_up_miss, m_row_hit, m_row_miss, n_eqm, n_meq, n_meqm, n_ltm, n_lem, n_mlt, n_mle, n_sub, n_div, n_and1, n_shl, n_shr, n_inc, n_mul, n_rem, z_lt, z_le, z_nlt, z_nle, Nat.not_lt_zero, Nat.le_zero_eq, Nat.zero_le, if_true, if_false, hs0, hs1, hs2, hs3, hs4, hs5, hs6, hs7, hs8, hs9, hs10, hs11, hs12, hs13, hs14, hs15, hs16, hs17, hs18, hs19, hs20, hs21, hs22, hs23, hs24, hs25, hs26, h10, hnl, kt, ku, r9', kp, m_row_off, false_or, List.map_cons, List.map_nil, List.sum_cons, List.sum_nil]
    refine ⟨n0, ?_⟩
    rw [ifs]
    apply key
    apply fin
    · intro x h1 h2; simp (disch := omega) only [m_up_off, m_row_off]
    · intro x h1 h2; simp (disch := omega) only [m_up_off, m_row_off]
    · intro k h1; simp (disch := omega) only [m_up_miss, m_row_miss]
    · intro k h1; simp (disch := omega) only [m_up_miss, m_row_miss]
    · rw [m_up_at]
    · rw [m_up_at]
    · simp (disch := omega) only [m_up_miss, m_up_hit]
    · simp (disch := omega) only [m_up_miss, m_up_hit]
    · simp (disch := omega) only [m_up_miss, m_up_hit]
    · simp (disch := omega) only [m_up_miss, m_up_hit]
/-- a pick as numbers -/
def q_pk (S : Nat → Nat) (b len u : Nat) : Nat → Nat := q_bits (up1 (up1 (q_day S b len) 120 (S 120 + len)) 122 u) b (S 3)
theorem CSh_122 {u : Nat} (h : CSh lay I F R n a S sp hi) (c : S 3 ≤ 16) : CSh lay I F R n a (up1 S 122 u) sp hi := ⟨h.1, CC_eq h.2.1 (fun i hi => up1_miss (by omega)), fun s hs => by
    rw [h.2.2.1 s hs, show up1 S 122 u 3 = S 3 from up1_miss (by omega)]
    congr 1
    exact q_gin_eq fun g hg => by rw [up1_miss (by omega)], h.2.2.2⟩
theorem s_notePicked {b len : Nat} (h : CSh lay I F R n a S sp hi) (w1 : S 3 ≤ 16) (hm : S 69 < 12) (hb : b < 65536) (hhi : ∀ x, x ∈ hi → x < 65536) (hl : hi.length < 2000) (hn : 180 ≤ n) (hnl : lay n = (10, 0)) (ha : a + 13 < 180) (hd : 2 ≤ d) (hQ : ∀ I' R', CSh lay I' F R' (n + 1) a (q_pk S b len (q_unl (b :: hi))) sp (b :: hi) → Of2 a (a + 13) n I F R I' F R' → Q none I' F R' (n + 1)) : Ev lay d 36 0 [.ref a, .int (nI b), .int (nI len), m_j, m_j] [] I F R n Q := by
  refine s_note1 h hb hhi hl hn hnl ha hd fun I1 R1 h1 o1 => ?_
  have kadd : ∀ (Q : mP), _ → _ := fun Q hQ => s_add (d := d - 1) (len := len) (b := b) (Q := Q) h1 w1 hm ha hQ
  have l1 : lay a = (11, 0) := h.1.1
  have r7 : m_rv (R1 a 7) = .ref (a + 8) := by
    obtain ⟨hs0, hs1, hs2, hs3, hs4, hs5, hs6, hs7, hs8, hs9, hs10, hs11, hs12, hs13, hs14, hs15, hs16, hs17, hs18, hs19, hs20, hs21, hs22, hs23, hs24, hs25, hs26⟩ := h1.1
    assumption
  have l8 : lay (a + 8) = (5, 0) := by
    obtain ⟨hs0, hs1, hs2, hs3, hs4, hs5, hs6, hs7, hs8, hs9, hs10, hs11, hs12, hs13, hs14, hs15, hs16, hs17, hs18, hs19, hs20, hs21, hs22, hs23, hs24, hs25, hs26⟩ := h1.1
    assumption
  simp (disch := omega) only [e36_47, e36_47N, e36_48, e36_51, e36_52, e36_53, true_or, m_psh_s, m_psh_n, m_kl_i, m_kl_f, m_kl_r, m_kl_n, m_kl_j, m_kl_l, m_kl_d, c_i, c_f, c_r, c_n, List.length_nil, List.length_cons, true_and, and_true, Nat.reduceAdd, Nat.reduceLeDiff, Nat.reduceSub, Nat.reduceEqDiff, Nat.reduceLT, ge_iff_le, gt_iff_lt, n_lit, m_in, m_nar0, m_nar1, and_self, not_false_eq_true, not_true_eq_false, ne_eq, reduceIte, ite_self, Nat.reduceMul, Nat.reduceDiv, Nat.reduceMod, Nat.reducePow, Nat.zero_add, Nat.add_zero, Nat.one_mul, Nat.mul_one, n_in, n_min, n_clamp, n_eq_t, n_eq_f, n_eq, n_le_t, n_le_f, n_le, n_lt_t, n_lt_f, n_lt, n_sub0, n_sublt, n_suble, n_negsub, m_up_hit, m_up_miss, m_row_hit, m_row_miss, n_eqm, n_meq, n_meqm, n_ltm, n_lem, n_mlt, n_mle, n_sub, n_div, n_and1, n_shl, n_shr, n_inc, n_mul, n_rem, z_lt, z_le, z_nlt, z_nle, Nat.not_lt_zero, Nat.le_zero_eq, Nat.zero_le, if_true, if_false, l1, r7, l8]
  apply kadd
  intro I2 h2 o2
  have d3 : q_day S b len 3 = S 3 := by
    unfold q_day
    rw [up1_miss (by omega), up1_miss (by omega), up1_miss (by omega)]
  have d120 : q_day S b len 120 = S 120 := by
    unfold q_day
    rw [up1_miss (by omega), up1_miss (by omega), up1_miss (by omega)]
  have e120 := CSh_0 h2 cS_0_14
  rw [d120] at e120
  have h3 := CSh_1 (v := S 120 + len) h2 cS_0_14 (by omega) (by omega) (by rw [d3]; exact w1) ha
  rw [Nat.add_zero] at h3
  have h4 := CSh_122 (u := q_unl (b :: hi)) h3 (by rw [up1_miss (by omega), d3]; exact w1)
  have k3 : up1 (up1 (q_day S b len) 120 (S 120 + len)) 122 (q_unl (b :: hi)) 3 = S 3 := by rw [up1_miss (by omega), up1_miss (by omega), d3]
  have q0 : q_bits (up1 (up1 (q_day S b len) 120 (S 120 + len)) 122 (q_unl (b :: hi))) b 0 = up1 (up1 (q_day S b len) 120 (S 120 + len)) 122 (q_unl (b :: hi)) := by
    funext i
    exact if_neg (by omega)
  have key := s_bits0 (d := d) (Q := Q) (b := b) (v2 := .int (nI len)) (v4 := m_j) (S := up1 (up1 (q_day S b len) 120 (S 120 + len)) 122 (q_unl (b :: hi))) (I := m_up I2 a 14 (nI (S 120 + len))) (F := F) (R := R1) (n := n + 1) (sp := sp) (hi := b :: hi) (by rw [k3]; exact w1) hb ha ⟨rfl, fun _ => rfl⟩ (S 3) 0 (by rw [k3, Nat.zero_add]) (by rw [q0]; exact h4) rfl (fun I' t1 t2 => hQ I' R1 (by rw [k3] at t1; exact t1) (Of2_trans o1 (Off_2 (Off_trans o2 (Off_trans (Off_I (by omega) (by omega)) t2))) (Nat.le_succ n)))
  simp (disch := omega) only [e36_56, e36_56N, e36_57, e36_58, e36_61, e36_62, e36_63, e36_66, e36_67, true_or, m_psh_s, m_psh_n, m_kl_i, m_kl_f, m_kl_r, m_kl_n, m_kl_j, m_kl_l, m_kl_d, c_i, c_f, c_r, c_n, List.length_nil, List.length_cons, true_and, and_true, Nat.reduceAdd, Nat.reduceLeDiff, Nat.reduceSub, Nat.reduceEqDiff, Nat.reduceLT, ge_iff_le, gt_iff_lt, n_lit, m_in, m_nar0, m_nar1, and_self, not_false_eq_true, not_true_eq_false, ne_eq, reduceIte, ite_self, Nat.reduceMul, Nat.reduceDiv, Nat.reduceMod, Nat.reducePow, Nat.zero_add, Nat.add_zero, Nat.one_mul, Nat.mul_one, n_in, n_min, n_clamp, n_eq_t, n_eq_f, n_eq, n_le_t, n_le_f, n_le, n_lt_t, n_lt_f, n_lt, n_sub0, n_sublt, n_suble, n_negsub, m_up_hit, m_up_miss, m_row_hit, m_row_miss, n_eqm, n_meq, n_meqm, n_ltm, n_lem, n_mlt, n_mle, n_sub, n_div, n_and1, n_shl, n_shr, n_inc, n_mul, n_rem, z_lt, z_le, z_nlt, z_nle, Nat.not_lt_zero, Nat.le_zero_eq, Nat.zero_le, if_true, if_false, l1, e120]
  exact key
end NOTEB
