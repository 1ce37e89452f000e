section TRIAL
variable {lay : mL} {d a n n' : Nat} {I I' : mI} {F F' : mF} {R R' : mR} {Q : mP} {S : Nat → Nat} {sp : Nat → UInt32} {hi : List Nat} {nx pl : Nat} {hs : List St} {pc : Nat → Nat} {sv : Nat → Option St}
/-- what a trial leaves alone -/
def FrT (n : Nat) (I : mI) (F : mF) (R : mR) (I' : mI) (F' : mF) (R' : mR) : Prop := ∀ x, x < n → (x < 16 ∨ 29 < x) → R' x = R x ∧ ((x < 30 ∨ 32 < x) → I' x = I x ∧ F' x = F x)
theorem FrT_M (h : FrT n I F R I' F' R') : FrM n I F R I' F' R' := fun x hx => by
  obtain ⟨h1, h2⟩ := h x (by omega) (by omega)
  exact ⟨(h2 (by omega)).1, (h2 (by omega)).2, h1⟩
theorem FrT_s (h : Off 16 (16 + 13) I F R I' F' R') : FrT n I F R I' F' R' := fun x _ hx => by
  obtain ⟨h1, h2, h3⟩ := h x (by omega)
  exact ⟨h3, fun _ => ⟨h1, h2⟩⟩
theorem FrT_w (h : Ofw 16 I F R I' F' R) : FrT n I F R I' F' R := fun x _ hx => by
  refine ⟨rfl, fun hy => ?_⟩
  obtain ⟨h1, h2, h3⟩ := h x (by omega) (by omega)
  exact ⟨h1, h2⟩
theorem FrT_k (h : Off 30 31 I F R I' F R) : FrT n I F R I' F R := fun x _ hx => by
  refine ⟨rfl, fun hy => ?_⟩
  exact ⟨(h x (by omega)).1, rfl⟩
theorem FrT_trans {I'' : mI} {F'' : mF} {R'' : mR} (h : FrT n I F R I' F' R') (h' : FrT n I' F' R' I'' F'' R'') : FrT n I F R I'' F'' R'' := fun x hx hx2 => by
  obtain ⟨h1, h2⟩ := h x hx hx2
  obtain ⟨k1, k2⟩ := h' x (by omega) hx2
  exact ⟨k1.trans h1, fun hy => ⟨(k2 hy).1.trans (h2 hy).1, (k2 hy).2.trans (h2 hy).2⟩⟩
theorem FrT_x {x : Nat} (h : FrT n I F R I' F' R') (h1 : x < n) (h2 : x < 16 ∨ 29 < x) (h3 : x < 30 ∨ 32 < x) : I' x = I x ∧ F' x = F x ∧ R' x = R x := by
  obtain ⟨k1, k2⟩ := h x h1 h2
  exact ⟨(k2 h3).1, (k2 h3).2, k1⟩
theorem XS_tr (h : XS lay I F R n S sp hi nx hs pl pc sv) (hi16 : ISh lay R' 16) (hf : FrT n I F R I' F' R') : XS lay I' F' R' n S sp hi nx hs pl pc sv := by
  obtain ⟨h1, h2, h3, h4, h5, h6, h7⟩ := h
  exact ⟨XL_sm h1 (fun x hx => (hf x (by omega) (by omega)).1), AS_sm h2 (Or.inr (Or.inl rfl)) hi16 (fun x hx1 hx2 hx3 hx4 => (hf x (by omega) (by omega)).1), CSh_sm h3 (fun x hx => FrT_x hf (by omega) (by omega) (by omega)) (Nat.le_refl _), HG_sm h4 (fun x hx => FrT_x hf (by omega) (by omega) (by omega)) (Nat.le_refl _), PD_sm h5 (FrT_x hf (by omega) (by omega) (by omega)).1 (FrT_x hf (by omega) (by omega) (by omega)).1, SV_sm h6 (fun x hx => FrT_x hf (by omega) (by omega) (by omega)) (Nat.le_refl _), by omega⟩
def q_bsw (S : Nat → Nat) (sp : Nat → UInt32) (y : Int32) : Int32 := if y = nI 0 then q_loI (q_bp S (q_age S sp (S 3)) 900).1 else if y = nI 1 then q_hiI (q_bp S (q_age S sp (S 3)) 900).1 else -nI 2
theorem f_bestSwap {y : Int32} (h : XS lay I F R n S sp hi nx hs pl pc sv) (w : Wsh S) (hc : S 1 ≤ 100) (hc9 : S 2 ≤ 9) (hc2 : S 68 < 1073741824) (hD : dOK S) (ao : q_aok S sp) (wo : allW S (q_age S sp (S 3))) (hd : 4 ≤ d) (hQ : ∀ I' F' R', XS lay I' F' R' n S sp hi nx hs pl pc sv → FrM n I F R I' F' R' → Q (some (.int (q_bsw S sp y))) I' F' R' n) : Ev lay d 69 0 [.ref 1, .int y] [] I F R n Q := by
  have hX := h
  have l2 := XS_sh h
  have l16 := (h.2.1 16 (Or.inr (Or.inl rfl))).1
  obtain ⟨⟨x1, x2, x3, x4, x5, x6, x7, x8, x9⟩, ⟨xw1, xw2, xw3⟩, ⟨xv1, xv2⟩, ⟨xp1, xp2, xp3, xp4, xp5⟩, ⟨xh1, xh2, xh3, xh4⟩, xs1, xs2, xs3⟩ := h.1
  unfold q_bsw at hQ
  by_cases c : y = nI 0 ∨ y = nI 1
  · have go : Ev lay d 69 12 [.ref 1, .int y] [] I F R n Q := by
      have kc : ∀ (Q : mP), _ → _ := fun Q hQ => s_copyFrom (d := d - 1) (Q := Q) (a := 16) h.2.2.1 (h.2.1 16 (Or.inr (Or.inl rfl))) (by omega) (by omega) (by omega) (by omega) hQ
      simp (disch := omega) only [e69_12, e69_12N, e69_13, e69_16, e69_16N, e69_17, e69_20, true_or, m_psh_s, m_psh_n, m_kl_i, m_kl_f, m_kl_r, m_kl_n, m_kl_j, m_kl_l, m_kl_d, c_i, c_f, c_r, c_n, List.length_nil, List.length_cons, true_and, and_true, Nat.reduceAdd, Nat.reduceLeDiff, Nat.reduceSub, Nat.reduceEqDiff, Nat.reduceLT, ge_iff_le, gt_iff_lt, n_lit, m_in, m_nar0, m_nar1, and_self, not_false_eq_true, not_true_eq_false, ne_eq, reduceIte, ite_self, Nat.reduceMul, Nat.reduceDiv, Nat.reduceMod, Nat.reducePow, Nat.zero_add, Nat.add_zero, Nat.one_mul, Nat.mul_one, n_in, n_min, n_clamp, n_eq_t, n_eq_f, n_eq, n_le_t, n_le_f, n_le, n_lt_t, n_lt_f, n_lt, n_sub0, n_sublt, n_suble, n_negsub, m_up_hit, m_up_miss, m_row_hit, m_row_miss, n_eqm, n_meq, n_meqm, n_ltm, n_lem, n_mlt, n_mle, n_sub, n_div, n_and1, n_shl, n_shr, n_inc, n_mul, n_rem, z_lt, z_le, z_nlt, z_nle, Nat.not_lt_zero, Nat.le_zero_eq, Nat.zero_le, if_true, if_false, x1, x2, x3, x4, x5, x6, x7, x8, x9, xw1, xv1, xp1, xp2, xp3, xp4, xp5, xh1, xs1, xs2, l2, l16]
      apply kc
      intro I1 F1 R1 h1 o1
      have X1 := XS_tr hX h1.1 (FrT_s o1)
      obtain ⟨⟨x1, x2, x3, x4, x5, x6, x7, x8, x9⟩, ⟨xw1, xw2, xw3⟩, ⟨xv1, xv2⟩, ⟨xp1, xp2, xp3, xp4, xp5⟩, ⟨xh1, xh2, xh3, xh4⟩, xs1, xs2, xs3⟩ := X1.1
      simp (disch := omega) only [e69_23, e69_23N, e69_24, e69_27, true_or, m_psh_s, m_psh_n, m_kl_i, m_kl_f, m_kl_r, m_kl_n, m_kl_j, m_kl_l, m_kl_d, c_i, c_f, c_r, c_n, List.length_nil, List.length_cons, true_and, and_true, Nat.reduceAdd, Nat.reduceLeDiff, Nat.reduceSub, Nat.reduceEqDiff, Nat.reduceLT, ge_iff_le, gt_iff_lt, n_lit, m_in, m_nar0, m_nar1, and_self, not_false_eq_true, not_true_eq_false, ne_eq, reduceIte, ite_self, Nat.reduceMul, Nat.reduceDiv, Nat.reduceMod, Nat.reducePow, Nat.zero_add, Nat.add_zero, Nat.one_mul, Nat.mul_one, n_in, n_min, n_clamp, n_eq_t, n_eq_f, n_eq, n_le_t, n_le_f, n_le, n_lt_t, n_lt_f, n_lt, n_sub0, n_sublt, n_suble, n_negsub, m_up_hit, m_up_miss, m_row_hit, m_row_miss, n_eqm, n_meq, n_meqm, n_ltm, n_lem, n_mlt, n_mle, n_sub, n_div, n_and1, n_shl, n_shr, n_inc, n_mul, n_rem, z_lt, z_le, z_nlt, z_nle, Nat.not_lt_zero, Nat.le_zero_eq, Nat.zero_le, if_true, if_false, x1, x2, x3, x4, x5, x6, x7, x8, x9, xw1, xv1, xp1, xp2, xp3, xp4, xp5, xh1, xs1, xs2, l16]
      apply s_age h1 w hc ao (by omega)
      intro F2 h2 o2
      have X2 := XS_tr X1 h2.1 (FrT_s o2)
      simp (disch := omega) only [e69_30, e69_30N, e69_31, e69_34, e69_34N, e69_35, e69_38, true_or, m_psh_s, m_psh_n, m_kl_i, m_kl_f, m_kl_r, m_kl_n, m_kl_j, m_kl_l, m_kl_d, c_i, c_f, c_r, c_n, List.length_nil, List.length_cons, true_and, and_true, Nat.reduceAdd, Nat.reduceLeDiff, Nat.reduceSub, Nat.reduceEqDiff, Nat.reduceLT, ge_iff_le, gt_iff_lt, n_lit, m_in, m_nar0, m_nar1, and_self, not_false_eq_true, not_true_eq_false, ne_eq, reduceIte, ite_self, Nat.reduceMul, Nat.reduceDiv, Nat.reduceMod, Nat.reducePow, Nat.zero_add, Nat.add_zero, Nat.one_mul, Nat.mul_one, n_in, n_min, n_clamp, n_eq_t, n_eq_f, n_eq, n_le_t, n_le_f, n_le, n_lt_t, n_lt_f, n_lt, n_sub0, n_sublt, n_suble, n_negsub, m_up_hit, m_up_miss, m_row_hit, m_row_miss, n_eqm, n_meq, n_meqm, n_ltm, n_lem, n_mlt, n_mle, n_sub, n_div, n_and1, n_shl, n_shr, n_inc, n_mul, n_rem, z_lt, z_le, z_nlt, z_nle, Nat.not_lt_zero, Nat.le_zero_eq, Nat.zero_le, if_true, if_false, x1, x2, x3, x4, x5, x6, x7, x8, x9, xw1, xv1, xp1, xp2, xp3, xp4, xp5, xh1, xs1, xs2, l16]
      apply s_find h2 w hc9 hc2 hD wo X2.1.2.1 X2.1.2.2.1 (by omega) (by omega)
      intro I3 h3 o3 i1 i2
      have X3 := XS_tr X2 h3.1 (FrT_w o3)
      have key := hQ I3 F2 R1 X3 (FrT_M (FrT_trans (FrT_trans (FrT_s o1) (FrT_s o2)) (FrT_w o3)))
      rcases c with rfl | rfl
      · simp (disch := omega) only [n_eq_t, n_eq_f, if_true, if_false] at key
        simp (disch := omega) only [e69_41, e69_42, e69_43, e69_46, e69_46N, e69_47, e69_50, e69_53, e69_56, e69_56N, e69_57, e69_60, e69_63, true_or, m_psh_s, m_psh_n, m_kl_i, m_kl_f, m_kl_r, m_kl_n, m_kl_j, m_kl_l, m_kl_d, c_i, c_f, c_r, c_n, List.length_nil, List.length_cons, true_and, and_true, Nat.reduceAdd, Nat.reduceLeDiff, Nat.reduceSub, Nat.reduceEqDiff, Nat.reduceLT, ge_iff_le, gt_iff_lt, n_lit, m_in, m_nar0, m_nar1, and_self, not_false_eq_true, not_true_eq_false, ne_eq, reduceIte, ite_self, Nat.reduceMul, Nat.reduceDiv, Nat.reduceMod, Nat.reducePow, Nat.zero_add, Nat.add_zero, Nat.one_mul, Nat.mul_one, n_in, n_min, n_clamp, n_eq_t, n_eq_f, n_eq, n_le_t, n_le_f, n_le, n_lt_t, n_lt_f, n_lt, n_sub0, n_sublt, n_suble, n_negsub, m_up_hit, m_up_miss, m_row_hit, m_row_miss, n_eqm, n_meq, n_meqm, n_ltm, n_lem, n_mlt, n_mle, n_sub, n_div, n_and1, n_shl, n_shr, n_inc, n_mul, n_rem, z_lt, z_le, z_nlt, z_nle, Nat.not_lt_zero, Nat.le_zero_eq, Nat.zero_le, if_true, if_false, x1, x2, x3, x4, x5, x6, x7, x8, x9, xw1, xv1, xp1, xp2, xp3, xp4, xp5, xh1, xs1, xs2, i1, i2]
        exact key
      · simp (disch := omega) only [n_eq_t, n_eq_f, if_true, if_false] at key
        simp (disch := omega) only [e69_41, e69_42, e69_43, e69_46, e69_46N, e69_47, e69_50, e69_53, e69_56, e69_56N, e69_57, e69_60, e69_63, true_or, m_psh_s, m_psh_n, m_kl_i, m_kl_f, m_kl_r, m_kl_n, m_kl_j, m_kl_l, m_kl_d, c_i, c_f, c_r, c_n, List.length_nil, List.length_cons, true_and, and_true, Nat.reduceAdd, Nat.reduceLeDiff, Nat.reduceSub, Nat.reduceEqDiff, Nat.reduceLT, ge_iff_le, gt_iff_lt, n_lit, m_in, m_nar0, m_nar1, and_self, not_false_eq_true, not_true_eq_false, ne_eq, reduceIte, ite_self, Nat.reduceMul, Nat.reduceDiv, Nat.reduceMod, Nat.reducePow, Nat.zero_add, Nat.add_zero, Nat.one_mul, Nat.mul_one, n_in, n_min, n_clamp, n_eq_t, n_eq_f, n_eq, n_le_t, n_le_f, n_le, n_lt_t, n_lt_f, n_lt, n_sub0, n_sublt, n_suble, n_negsub, m_up_hit, m_up_miss, m_row_hit, m_row_miss, n_eqm, n_meq, n_meqm, n_ltm, n_lem, n_mlt, n_mle, n_sub, n_div, n_and1, n_shl, n_shr, n_inc, n_mul, n_rem, z_lt, z_le, z_nlt, z_nle, Nat.not_lt_zero, Nat.le_zero_eq, Nat.zero_le, if_true, if_false, x1, x2, x3, x4, x5, x6, x7, x8, x9, xw1, xv1, xp1, xp2, xp3, xp4, xp5, xh1, xs1, xs2, i1, i2]
        exact key
    rcases c with rfl | rfl
    · simp (disch := omega) only [e69_0, e69_1, e69_4, e69_5, e69_6, e69_9, true_or, m_psh_s, m_psh_n, m_kl_i, m_kl_f, m_kl_r, m_kl_n, m_kl_j, m_kl_l, m_kl_d, c_i, c_f, c_r, c_n, List.length_nil, List.length_cons, true_and, and_true, Nat.reduceAdd, Nat.reduceLeDiff, Nat.reduceSub, Nat.reduceEqDiff, Nat.reduceLT, ge_iff_le, gt_iff_lt, n_lit, m_in, m_nar0, m_nar1, and_self, not_false_eq_true, not_true_eq_false, ne_eq, reduceIte, ite_self, Nat.reduceMul, Nat.reduceDiv, Nat.reduceMod, Nat.reducePow, Nat.zero_add, Nat.add_zero, Nat.one_mul, Nat.mul_one, n_in, n_min, n_clamp, n_eq_t, n_eq_f, n_eq, n_le_t, n_le_f, n_le, n_lt_t, n_lt_f, n_lt, n_sub0, n_sublt, n_suble, n_negsub, m_up_hit, m_up_miss, m_row_hit, m_row_miss, n_eqm, n_meq, n_meqm, n_ltm, n_lem, n_mlt, n_mle, n_sub, n_div, n_and1, n_shl, n_shr, n_inc, n_mul, n_rem, z_lt, z_le, z_nlt, z_nle, Nat.not_lt_zero, Nat.le_zero_eq, Nat.zero_le, if_true, if_false]
      exact go
    · simp (disch := omega) only [e69_0, e69_1, e69_4, e69_5, e69_6, e69_9, true_or, m_psh_s, m_psh_n, m_kl_i, m_kl_f, m_kl_r, m_kl_n, m_kl_j, m_kl_l, m_kl_d, c_i, c_f, c_r, c_n, List.length_nil, List.length_cons, true_and, and_true, Nat.reduceAdd, Nat.reduceLeDiff, Nat.reduceSub, Nat.reduceEqDiff, Nat.reduceLT, ge_iff_le, gt_iff_lt, n_lit, m_in, m_nar0, m_nar1, and_self, not_false_eq_true, not_true_eq_false, ne_eq, reduceIte, ite_self, Nat.reduceMul, Nat.reduceDiv, Nat.reduceMod, Nat.reducePow, Nat.zero_add, Nat.add_zero, Nat.one_mul, Nat.mul_one, n_in, n_min, n_clamp, n_eq_t, n_eq_f, n_eq, n_le_t, n_le_f, n_le, n_lt_t, n_lt_f, n_lt, n_sub0, n_sublt, n_suble, n_negsub, m_up_hit, m_up_miss, m_row_hit, m_row_miss, n_eqm, n_meq, n_meqm, n_ltm, n_lem, n_mlt, n_mle, n_sub, n_div, n_and1, n_shl, n_shr, n_inc, n_mul, n_rem, z_lt, z_le, z_nlt, z_nle, Nat.not_lt_zero, Nat.le_zero_eq, Nat.zero_le, if_true, if_false]
      exact go
  · have e0 : (y = nI 0) = False := eq_false fun z => c (Or.inl z)
    have e1 : (y = nI 1) = False := eq_false fun z => c (Or.inr z)
    have key := hQ I F R hX FrM_refl
    simp only [e0, e1, if_false] at key
    simp (disch := omega) only [e69_0, e69_1, e69_4, e69_5, e69_6, e69_9, e69_11, true_or, m_psh_s, m_psh_n, m_kl_i, m_kl_f, m_kl_r, m_kl_n, m_kl_j, m_kl_l, m_kl_d, c_i, c_f, c_r, c_n, List.length_nil, List.length_cons, true_and, and_true, Nat.reduceAdd, Nat.reduceLeDiff, Nat.reduceSub, Nat.reduceEqDiff, Nat.reduceLT, ge_iff_le, gt_iff_lt, n_lit, m_in, m_nar0, m_nar1, and_self, not_false_eq_true, not_true_eq_false, ne_eq, reduceIte, ite_self, Nat.reduceMul, Nat.reduceDiv, Nat.reduceMod, Nat.reducePow, Nat.zero_add, Nat.add_zero, Nat.one_mul, Nat.mul_one, n_in, n_min, n_clamp, n_eq_t, n_eq_f, n_eq, n_le_t, n_le_f, n_le, n_lt_t, n_lt_f, n_lt, n_sub0, n_sublt, n_suble, n_negsub, m_up_hit, m_up_miss, m_row_hit, m_row_miss, n_eqm, n_meq, n_meqm, n_ltm, n_lem, n_mlt, n_mle, n_sub, n_div, n_and1, n_shl, n_shr, n_inc, n_mul, n_rem, z_lt, z_le, z_nlt, z_nle, Nat.not_lt_zero, Nat.le_zero_eq, Nat.zero_le, if_true, if_false, e0, e1]
    exact key
def q_ifs (S : Nat → Nat) (x y : Int32) : Int32 := if isS x ∧ isS y then nI (q_tws (q_exS S (q_N x) (q_N y)) (S 69)) else -nI 1
theorem f_ifSwapped {x y : Int32} (h : XS lay I F R n S sp hi nx hs pl pc sv) (w : Wsh S) (hc9 : S 2 ≤ 9) (hD : dOK S) (hd : 4 ≤ d) (hQ : ∀ I' F' R', XS lay I' F' R' n S sp hi nx hs pl pc sv → FrM n I F R I' F' R' → Q (some (.int (q_ifs S x y))) I' F' R' n) : Ev lay d 70 0 [.ref 1, .int x, .int y] [] I F R n Q := by
  have hX := h
  have l2 := XS_sh h
  have l16 := (h.2.1 16 (Or.inr (Or.inl rfl))).1
  obtain ⟨⟨x1, x2, x3, x4, x5, x6, x7, x8, x9⟩, ⟨xw1, xw2, xw3⟩, ⟨xv1, xv2⟩, ⟨xp1, xp2, xp3, xp4, xp5⟩, ⟨xh1, xh2, xh3, xh4⟩, xs1, xs2, xs3⟩ := h.1
  unfold q_ifs at hQ
  have ki : ∀ (x : Int32) (d : Nat) (Q : mP), _ := fun x d Q => s_isS (lay := lay) (x := x) (d := d) (I := I) (F := F) (R := R) (n := n) (Q := Q)
  by_cases c : isS x
  · by_cases c2 : isS y
    · rw [if_pos ⟨c, c2⟩] at hQ
      obtain ⟨k, k1, k2, k3⟩ := isS_to c
      obtain ⟨j, j1, j2, j3⟩ := isS_to c2
      rw [k3, j3] at hQ
      simp (disch := omega) only [e70_0, e70_1, e70_4, e70_7, e70_8, e70_11, true_or, m_psh_s, m_psh_n, m_kl_i, m_kl_f, m_kl_r, m_kl_n, m_kl_j, m_kl_l, m_kl_d, c_i, c_f, c_r, c_n, List.length_nil, List.length_cons, true_and, and_true, Nat.reduceAdd, Nat.reduceLeDiff, Nat.reduceSub, Nat.reduceEqDiff, Nat.reduceLT, ge_iff_le, gt_iff_lt, n_lit, m_in, m_nar0, m_nar1, and_self, not_false_eq_true, not_true_eq_false, ne_eq, reduceIte, ite_self, Nat.reduceMul, Nat.reduceDiv, Nat.reduceMod, Nat.reducePow, Nat.zero_add, Nat.add_zero, Nat.one_mul, Nat.mul_one, n_in, n_min, n_clamp, n_eq_t, n_eq_f, n_eq, n_le_t, n_le_f, n_le, n_lt_t, n_lt_f, n_lt, n_sub0, n_sublt, n_suble, n_negsub, m_up_hit, m_up_miss, m_row_hit, m_row_miss, n_eqm, n_meq, n_meqm, n_ltm, n_lem, n_mlt, n_mle, n_sub, n_div, n_and1, n_shl, n_shr, n_inc, n_mul, n_rem, z_lt, z_le, z_nlt, z_nle, Nat.not_lt_zero, Nat.le_zero_eq, Nat.zero_le, if_true, if_false, ki, if_pos c, if_pos c2]
      subst k2
      subst j2
      have kc : ∀ (Q : mP), _ → _ := fun Q hQ => s_copyFrom (d := d - 1) (Q := Q) (a := 16) h.2.2.1 (h.2.1 16 (Or.inr (Or.inl rfl))) (by omega) (by omega) (by omega) (by omega) hQ
      simp (disch := omega) only [e70_16, e70_16N, e70_17, e70_20, e70_20N, e70_21, e70_24, true_or, m_psh_s, m_psh_n, m_kl_i, m_kl_f, m_kl_r, m_kl_n, m_kl_j, m_kl_l, m_kl_d, c_i, c_f, c_r, c_n, List.length_nil, List.length_cons, true_and, and_true, Nat.reduceAdd, Nat.reduceLeDiff, Nat.reduceSub, Nat.reduceEqDiff, Nat.reduceLT, ge_iff_le, gt_iff_lt, n_lit, m_in, m_nar0, m_nar1, and_self, not_false_eq_true, not_true_eq_false, ne_eq, reduceIte, ite_self, Nat.reduceMul, Nat.reduceDiv, Nat.reduceMod, Nat.reducePow, Nat.zero_add, Nat.add_zero, Nat.one_mul, Nat.mul_one, n_in, n_min, n_clamp, n_eq_t, n_eq_f, n_eq, n_le_t, n_le_f, n_le, n_lt_t, n_lt_f, n_lt, n_sub0, n_sublt, n_suble, n_negsub, m_up_hit, m_up_miss, m_row_hit, m_row_miss, n_eqm, n_meq, n_meqm, n_ltm, n_lem, n_mlt, n_mle, n_sub, n_div, n_and1, n_shl, n_shr, n_inc, n_mul, n_rem, z_lt, z_le, z_nlt, z_nle, Nat.not_lt_zero, Nat.le_zero_eq, Nat.zero_le, if_true, if_false, x1, x2, x3, x4, x5, x6, x7, x8, x9, xw1, xv1, xp1, xp2, xp3, xp4, xp5, xh1, xs1, xs2, l2, l16]
      apply kc
      intro I1 F1 R1 h1 o1
      have X1 := XS_tr hX h1.1 (FrT_s o1)
      obtain ⟨⟨x1, x2, x3, x4, x5, x6, x7, x8, x9⟩, ⟨xw1, xw2, xw3⟩, ⟨xv1, xv2⟩, ⟨xp1, xp2, xp3, xp4, xp5⟩, ⟨xh1, xh2, xh3, xh4⟩, xs1, xs2, xs3⟩ := X1.1
      simp (disch := omega) only [e70_27, e70_27N, e70_28, e70_31, e70_32, e70_33, true_or, m_psh_s, m_psh_n, m_kl_i, m_kl_f, m_kl_r, m_kl_n, m_kl_j, m_kl_l, m_kl_d, c_i, c_f, c_r, c_n, List.length_nil, List.length_cons, true_and, and_true, Nat.reduceAdd, Nat.reduceLeDiff, Nat.reduceSub, Nat.reduceEqDiff, Nat.reduceLT, ge_iff_le, gt_iff_lt, n_lit, m_in, m_nar0, m_nar1, and_self, not_false_eq_true, not_true_eq_false, ne_eq, reduceIte, ite_self, Nat.reduceMul, Nat.reduceDiv, Nat.reduceMod, Nat.reducePow, Nat.zero_add, Nat.add_zero, Nat.one_mul, Nat.mul_one, n_in, n_min, n_clamp, n_eq_t, n_eq_f, n_eq, n_le_t, n_le_f, n_le, n_lt_t, n_lt_f, n_lt, n_sub0, n_sublt, n_suble, n_negsub, m_up_hit, m_up_miss, m_row_hit, m_row_miss, n_eqm, n_meq, n_meqm, n_ltm, n_lem, n_mlt, n_mle, n_sub, n_div, n_and1, n_shl, n_shr, n_inc, n_mul, n_rem, z_lt, z_le, z_nlt, z_nle, Nat.not_lt_zero, Nat.le_zero_eq, Nat.zero_le, if_true, if_false, x1, x2, x3, x4, x5, x6, x7, x8, x9, xw1, xv1, xp1, xp2, xp3, xp4, xp5, xh1, xs1, xs2, l16]
      apply s_exchange h1 w (by omega) k1 j1 (by omega)
      intro I2 h2 o2
      have X2 := XS_tr X1 h2.1 (FrT_s o2)
      have e69 : q_exS S k j 69 = S 69 := q_exS_hi w.1 (by omega)
      have e2 : q_exS S k j 2 = S 2 := q_exS_k (by omega)
      simp (disch := omega) only [e70_36, e70_36N, e70_37, e70_40, e70_40N, e70_41, e70_44, true_or, m_psh_s, m_psh_n, m_kl_i, m_kl_f, m_kl_r, m_kl_n, m_kl_j, m_kl_l, m_kl_d, c_i, c_f, c_r, c_n, List.length_nil, List.length_cons, true_and, and_true, Nat.reduceAdd, Nat.reduceLeDiff, Nat.reduceSub, Nat.reduceEqDiff, Nat.reduceLT, ge_iff_le, gt_iff_lt, n_lit, m_in, m_nar0, m_nar1, and_self, not_false_eq_true, not_true_eq_false, ne_eq, reduceIte, ite_self, Nat.reduceMul, Nat.reduceDiv, Nat.reduceMod, Nat.reducePow, Nat.zero_add, Nat.add_zero, Nat.one_mul, Nat.mul_one, n_in, n_min, n_clamp, n_eq_t, n_eq_f, n_eq, n_le_t, n_le_f, n_le, n_lt_t, n_lt_f, n_lt, n_sub0, n_sublt, n_suble, n_negsub, m_up_hit, m_up_miss, m_row_hit, m_row_miss, n_eqm, n_meq, n_meqm, n_ltm, n_lem, n_mlt, n_mle, n_sub, n_div, n_and1, n_shl, n_shr, n_inc, n_mul, n_rem, z_lt, z_le, z_nlt, z_nle, Nat.not_lt_zero, Nat.le_zero_eq, Nat.zero_le, if_true, if_false, x1, x2, x3, x4, x5, x6, x7, x8, x9, xw1, xv1, xp1, xp2, xp3, xp4, xp5, xh1, xs1, xs2, l16]
      apply s_tgo h2 (Wsh_ex w k1 j1) (by rw [e2]; exact hc9) (dOK_ex w hD) X2.1.2.1 (by omega) (by omega)
      intro I3 o3
      have X3 := XS_tr X2 h2.1 (FrT_k o3)
      have key := hQ I3 F1 R1 X3 (FrT_M (FrT_trans (FrT_trans (FrT_s o1) (FrT_s o2)) (FrT_k o3)))
      rw [e69]
      simp (disch := omega) only [e70_47, true_or, m_psh_s, m_psh_n, m_kl_i, m_kl_f, m_kl_r, m_kl_n, m_kl_j, m_kl_l, m_kl_d, c_i, c_f, c_r, c_n, List.length_nil, List.length_cons, true_and, and_true, Nat.reduceAdd, Nat.reduceLeDiff, Nat.reduceSub, Nat.reduceEqDiff, Nat.reduceLT, ge_iff_le, gt_iff_lt, n_lit, m_in, m_nar0, m_nar1, and_self, not_false_eq_true, not_true_eq_false, ne_eq, reduceIte, ite_self, Nat.reduceMul, Nat.reduceDiv, Nat.reduceMod, Nat.reducePow, Nat.zero_add, Nat.add_zero, Nat.one_mul, Nat.mul_one, n_in, n_min, n_clamp, n_eq_t, n_eq_f, n_eq, n_le_t, n_le_f, n_le, n_lt_t, n_lt_f, n_lt, n_sub0, n_sublt, n_suble, n_negsub, m_up_hit, m_up_miss, m_row_hit, m_row_miss, n_eqm, n_meq, n_meqm, n_ltm, n_lem, n_mlt, n_mle, n_sub, n_div, n_and1, n_shl, n_shr, n_inc, n_mul, n_rem, z_lt, z_le, z_nlt, z_nle, Nat.not_lt_zero, Nat.le_zero_eq, Nat.zero_le, if_true, if_false]
      exact key
    · rw [if_neg (fun z => c2 z.2)] at hQ
      have key := hQ I F R hX FrM_refl
      simp (disch := omega) only [e70_0, e70_1, e70_4, e70_7, e70_8, e70_11, e70_14, e70_15, true_or, m_psh_s, m_psh_n, m_kl_i, m_kl_f, m_kl_r, m_kl_n, m_kl_j, m_kl_l, m_kl_d, c_i, c_f, c_r, c_n, List.length_nil, List.length_cons, true_and, and_true, Nat.reduceAdd, Nat.reduceLeDiff, Nat.reduceSub, Nat.reduceEqDiff, Nat.reduceLT, ge_iff_le, gt_iff_lt, n_lit, m_in, m_nar0, m_nar1, and_self, not_false_eq_true, not_true_eq_false, ne_eq, reduceIte, ite_self, Nat.reduceMul, Nat.reduceDiv, Nat.reduceMod, Nat.reducePow, Nat.zero_add, Nat.add_zero, Nat.one_mul, Nat.mul_one, n_in, n_min, n_clamp, n_eq_t, n_eq_f, n_eq, n_le_t, n_le_f, n_le, n_lt_t, n_lt_f, n_lt, n_sub0, n_sublt, n_suble, n_negsub, m_up_hit, m_up_miss, m_row_hit, m_row_miss, n_eqm, n_meq, n_meqm, n_ltm, n_lem, n_mlt, n_mle, n_sub, n_div, n_and1, n_shl, n_shr, n_inc, n_mul, n_rem, z_lt, z_le, z_nlt, z_nle, Nat.not_lt_zero, Nat.le_zero_eq, Nat.zero_le, if_true, if_false, ki, if_pos c, if_neg c2]
      exact key
  · rw [if_neg (fun z => c z.1)] at hQ
    have key := hQ I F R hX FrM_refl
    simp (disch := omega) only [e70_0, e70_1, e70_4, e70_7, e70_8, e70_11, e70_14, e70_15, true_or, m_psh_s, m_psh_n, m_kl_i, m_kl_f, m_kl_r, m_kl_n, m_kl_j, m_kl_l, m_kl_d, c_i, c_f, c_r, c_n, List.length_nil, List.length_cons, true_and, and_true, Nat.reduceAdd, Nat.reduceLeDiff, Nat.reduceSub, Nat.reduceEqDiff, Nat.reduceLT, ge_iff_le, gt_iff_lt, n_lit, m_in, m_nar0, m_nar1, and_self, not_false_eq_true, not_true_eq_false, ne_eq, reduceIte, ite_self, Nat.reduceMul, Nat.reduceDiv, Nat.reduceMod, Nat.reducePow, Nat.zero_add, Nat.add_zero, Nat.one_mul, Nat.mul_one, n_in, n_min, n_clamp, n_eq_t, n_eq_f, n_eq, n_le_t, n_le_f, n_le, n_lt_t, n_lt_f, n_lt, n_sub0, n_sublt, n_suble, n_negsub, m_up_hit, m_up_miss, m_row_hit, m_row_miss, n_eqm, n_meq, n_meqm, n_ltm, n_lem, n_mlt, n_mle, n_sub, n_div, n_and1, n_shl, n_shr, n_inc, n_mul, n_rem, z_lt, z_le, z_nlt, z_nle, Nat.not_lt_zero, Nat.le_zero_eq, Nat.zero_le, if_true, if_false, ki, if_neg c]
    exact key
end TRIAL
