section FACEB
variable {lay : mL} {d a n n' : Nat} {I I' : mI} {F F' : mF} {R R' : mR} {Q : mP} {S : Nat → Nat} {sp : Nat → UInt32} {hi : List Nat} {nx pl : Nat} {hs : List St} {pc : Nat → Nat} {sv : Nat → Option St}
theorem vp_nar1 : vp_nar .boolean (nI 1) = nI 1 := rfl
theorem f_undo0 (h : XS lay I F R n S sp hi nx [] pl pc sv) (hQ : Q (some (.int (-nI 5))) I F R n) : Ev lay d 92 0 [.ref 1] [] I F R n Q := by
  have g1 : I 36 2 = nI 0 := h.2.2.2.1.1
  obtain ⟨⟨x1, x2, x3, x4, x5, x6, x7, x8, x9⟩, ⟨xw1, xw2, xw3⟩, ⟨xv1, xv2⟩, ⟨xp1, xp2, xp3, xp4, xp5⟩, ⟨xh1, xh2, xh3, xh4⟩, xs1, xs2, xs3⟩ := h.1
  simp (disch := omega) only [e92_0, e92_0N, e92_1, e92_4, e92_7, e92_10, e92_12, e92_15, e92_15N, e92_16, e92_19, e92_19N, e92_20, e92_23, e92_26, true_or, m_psh_s, m_psh_n, m_kl_i, m_kl_f, m_kl_r, m_kl_n, m_kl_j, m_kl_l, m_kl_d, c_i, c_f, c_r, c_n, List.length_nil, List.length_cons, true_and, and_true, Nat.reduceAdd, Nat.reduceLeDiff, Nat.reduceSub, Nat.reduceEqDiff, Nat.reduceLT, ge_iff_le, gt_iff_lt, n_lit, m_in, m_nar0, m_nar1, and_self, not_false_eq_true, not_true_eq_false, ne_eq, reduceIte, ite_self, Nat.reduceMul, Nat.reduceDiv, Nat.reduceMod, Nat.reducePow, Nat.zero_add, Nat.add_zero, Nat.one_mul, Nat.mul_one, n_in, n_min, n_clamp, n_eq_t, n_eq_f, n_eq, n_le_t, n_le_f, n_le, n_lt_t, n_lt_f, n_lt, n_sub0, n_sublt, n_suble, n_negsub, m_up_hit, m_up_miss, m_row_hit, m_row_miss, n_eqm, n_meq, n_meqm, n_ltm, n_lem, n_mlt, n_mle, n_sub, n_div, n_and1, n_shl, n_shr, n_inc, n_mul, n_rem, z_lt, z_le, z_nlt, z_nle, Nat.not_lt_zero, Nat.le_zero_eq, Nat.zero_le, if_true, if_false, x1, x2, x3, x4, x5, x6, x7, x8, x9, xw1, xv1, xp1, xp2, xp3, xp4, xp5, xh1, xs1, xs2, g1]
  exact hQ
theorem f_undo1 {st : St} (h : XS lay I F R n S sp hi nx (hs ++ [st]) pl pc sv) (hd : 4 ≤ d) (hQ : ∀ I' F' R' nx', XS lay I' F' R' n st.1 st.2.1 st.2.2 nx' hs pl pc sv → FrM n I F R I' F' R' → Q (some (.int (nI hs.length))) I' F' R' n) : Ev lay d 92 0 [.ref 1] [] I F R n Q := by
  have hX := h
  have l2 := XS_sh h
  obtain ⟨h1, h2, h3, h4, h5, h6, h7⟩ := h
  obtain ⟨g1, g2, g3, g4, g5⟩ := h4
  have hl : (hs ++ [st]).length = hs.length + 1 := by rw [List.length_append]; rfl
  rw [hl] at g1 g4
  obtain ⟨⟨x1, x2, x3, x4, x5, x6, x7, x8, x9⟩, ⟨xw1, xw2, xw3⟩, ⟨xv1, xv2⟩, ⟨xp1, xp2, xp3, xp4, xp5⟩, ⟨xh1, xh2, xh3, xh4⟩, xs1, xs2, xs3⟩ := h1
  have x5' := xh4 ((nx + 6) % 7) (by omega)
  have er : nx + 6 - (nx + 6) / 7 * 7 = (nx + 6) % 7 := n_rem _ _
  have o36 : Same (fun x => x ≠ 36) I F R (m_up (m_up I 36 1 (nI ((nx + 6) % 7))) 36 2 (nI hs.length)) F R := fun x hx => ⟨by rw [m_up_off hx, m_up_off hx], rfl, rfl⟩
  have hlast : CSh lay I F R n (38 + 14 * ((nx + 6) % 7)) st.1 st.2.1 st.2.2 := by
    have := g5 hs.length st (by rw [List.getElem?_append_right (Nat.le_refl _), Nat.sub_self]; rfl)
    rw [hl, show nx + 7 - (hs.length + 1) + hs.length = nx + 6 by omega] at this
    exact this
  have kc : ∀ (Q : mP), _ → _ := fun Q hQ => s_copyFrom (d := d - 1 - 1) (Q := Q) (a := 2) (b := 38 + 14 * ((nx + 6) % 7)) (CSh_sm (n' := n) hlast (fun x hx => o36 x (by omega)) (Nat.le_refl _)) (h2 _ (Or.inl rfl)) (by omega) (by omega) (by omega) (by omega) hQ
  have e76 : nx + 7 - 1 = nx + 6 := by omega
  simp (disch := omega) only [e92_0, e92_0N, e92_1, e92_4, e92_7, e92_10, e92_12, e92_15, e92_15N, e92_16, e92_19, e92_19N, e92_20, e92_23, true_or, m_psh_s, m_psh_n, m_kl_i, m_kl_f, m_kl_r, m_kl_n, m_kl_j, m_kl_l, m_kl_d, c_i, c_f, c_r, c_n, List.length_nil, List.length_cons, true_and, and_true, Nat.reduceAdd, Nat.reduceLeDiff, Nat.reduceSub, Nat.reduceEqDiff, Nat.reduceLT, ge_iff_le, gt_iff_lt, n_lit, m_in, m_nar0, m_nar1, and_self, not_false_eq_true, not_true_eq_false, ne_eq, reduceIte, ite_self, Nat.reduceMul, Nat.reduceDiv, Nat.reduceMod, Nat.reducePow, Nat.zero_add, Nat.add_zero, Nat.one_mul, Nat.mul_one, n_in, n_min, n_clamp, n_eq_t, n_eq_f, n_eq, n_le_t, n_le_f, n_le, n_lt_t, n_lt_f, n_lt, n_sub0, n_sublt, n_suble, n_negsub, m_up_hit, m_up_miss, m_row_hit, m_row_miss, n_eqm, n_meq, n_meqm, n_ltm, n_lem, n_mlt, n_mle, n_sub, n_div, n_and1, n_shl, n_shr, n_inc, n_mul, n_rem, z_lt, z_le, z_nlt, z_nle, Nat.not_lt_zero, Nat.le_zero_eq, Nat.zero_le, if_true, if_false, x1, x2, x3, x4, x5, x6, x7, x8, x9, xw1, xv1, xp1, xp2, xp3, xp4, xp5, xh1, xs1, xs2, g1, l2]
  simp (disch := omega) only [e93_0, e93_0N, e93_1, e93_4, e93_7, e93_7N, e93_8, e93_8N, e93_9, e93_12, e93_14, e93_15, e93_16, e93_17, e93_19, e93_20, e93_23, e93_23N, e93_24, e93_25, e93_28, e93_29, e93_30, e93_33, e93_33N, e93_34, e93_34N, e93_35, e93_38, e93_38N, e93_39, e93_42, e93_43, true_or, m_psh_s, m_psh_n, m_kl_i, m_kl_f, m_kl_r, m_kl_n, m_kl_j, m_kl_l, m_kl_d, c_i, c_f, c_r, c_n, List.length_nil, List.length_cons, true_and, and_true, Nat.reduceAdd, Nat.reduceLeDiff, Nat.reduceSub, Nat.reduceEqDiff, Nat.reduceLT, ge_iff_le, gt_iff_lt, n_lit, m_in, m_nar0, m_nar1, and_self, not_false_eq_true, not_true_eq_false, ne_eq, reduceIte, ite_self, Nat.reduceMul, Nat.reduceDiv, Nat.reduceMod, Nat.reducePow, Nat.zero_add, Nat.add_zero, Nat.one_mul, Nat.mul_one, n_in, n_min, n_clamp, n_eq_t, n_eq_f, n_eq, n_le_t, n_le_f, n_le, n_lt_t, n_lt_f, n_lt, n_sub0, n_sublt, n_suble, n_negsub, m_up_hit, m_up_miss, m_row_hit, m_row_miss, n_eqm, n_meq, n_meqm, n_ltm, n_lem, n_mlt, n_mle, n_sub, n_div, n_and1, n_shl, n_shr, n_inc, n_mul, n_rem, z_lt, z_le, z_nlt, z_nle, Nat.not_lt_zero, Nat.le_zero_eq, Nat.zero_le, if_true, if_false, x1, x2, x3, x4, x5, x6, x7, x8, x9, xw1, xv1, xp1, xp2, xp3, xp4, xp5, xh1, xs1, xs2, xh2, xh3, g1, g2, e76, x5', l2, Nat.add_sub_cancel]
  apply kc
  intro I1 F1 R1 k1 k2
  have m1 := (k2 36 (by omega)).1
  have m2 : I1 36 2 = nI hs.length := by rw [m1, m_up_at]
  have key := hQ I1 F1 R1 ((nx + 6) % 7) (by
    refine ⟨XL_sm hX.1 (fun x hx => (k2 x (by omega)).2.2), AS_sm h2 (Or.inl rfl) k1.1 (fun x hx1 hx2 hx3 hx4 => (k2 x hx1).2.2), k1, ?_, ?_, ?_, h7⟩
    · refine ⟨m2, by rw [m1, m_up_miss (by omega), m_up_at], Nat.mod_lt _ (by decide), by omega, fun j su hj => ?_⟩
      have hj2 : j < hs.length := by
        rcases Nat.lt_or_ge j hs.length with c2 | c2
        · exact c2
        · rw [List.getElem?_eq_none c2] at hj; cases hj
      have := g5 j su (by rw [List.getElem?_append_left hj2]; exact hj)
      rw [hl, show (nx + 7 - (hs.length + 1) + j) % 7 = ((nx + 6) % 7 + 7 - hs.length + j) % 7 by omega] at this
      exact CSh_sm (CSh_sm (n' := n) this (fun x hx => o36 x (by omega)) (Nat.le_refl _)) (fun x hx => k2 x (by omega)) (Nat.le_refl _)
    · exact PD_sm (PD_sm h5 (o36 33 (by omega)).1 (o36 34 (by omega)).1) (k2 33 (by omega)).1 (k2 34 (by omega)).1
    · exact SV_sm (SV_sm (n' := n) h6 (fun x hx => o36 x (by omega)) (Nat.le_refl _)) (fun x hx => k2 x (by omega)) (Nat.le_refl _)) (fun x hx => by
      obtain ⟨t1, t2, t3⟩ := k2 x (by omega)
      obtain ⟨u1, u2, u3⟩ := o36 x (by omega)
      exact ⟨t1.trans u1, t2.trans u2, t3.trans u3⟩)
  simp (disch := omega) only [e93_46, e93_46N, e93_47, e93_50, e92_26, true_or, m_psh_s, m_psh_n, m_kl_i, m_kl_f, m_kl_r, m_kl_n, m_kl_j, m_kl_l, m_kl_d, c_i, c_f, c_r, c_n, List.length_nil, List.length_cons, true_and, and_true, Nat.reduceAdd, Nat.reduceLeDiff, Nat.reduceSub, Nat.reduceEqDiff, Nat.reduceLT, ge_iff_le, gt_iff_lt, n_lit, m_in, m_nar0, m_nar1, and_self, not_false_eq_true, not_true_eq_false, ne_eq, reduceIte, ite_self, Nat.reduceMul, Nat.reduceDiv, Nat.reduceMod, Nat.reducePow, Nat.zero_add, Nat.add_zero, Nat.one_mul, Nat.mul_one, n_in, n_min, n_clamp, n_eq_t, n_eq_f, n_eq, n_le_t, n_le_f, n_le, n_lt_t, n_lt_f, n_lt, n_sub0, n_sublt, n_suble, n_negsub, m_up_hit, m_up_miss, m_row_hit, m_row_miss, n_eqm, n_meq, n_meqm, n_ltm, n_lem, n_mlt, n_mle, n_sub, n_div, n_and1, n_shl, n_shr, n_inc, n_mul, n_rem, z_lt, z_le, z_nlt, z_nle, Nat.not_lt_zero, Nat.le_zero_eq, Nat.zero_le, if_true, if_false, x1, x2, x3, x4, x5, x6, x7, x8, x9, xw1, xv1, xp1, xp2, xp3, xp4, xp5, xh1, xs1, xs2, m2]
  exact key
def q_sv (sv : Nat → Option St) (k : Nat) (st : St) : Nat → Option St := fun j => if j = k then some st else sv j
end FACEB
