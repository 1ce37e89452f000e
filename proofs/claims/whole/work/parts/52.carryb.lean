section CARRYB
variable {lay : mL} {d a n n' : Nat} {I I' : mI} {F F' : mF} {R R' : mR} {Q : mP} {S : Nat → Nat} {sp : Nat → UInt32} {hi : List Nat} {nx pl : Nat} {hs : List St} {pc : Nat → Nat} {sv : Nat → Option St}
theorem PA_pd {t : Nat} (h : PD I pl pc) : PA (m_up I 33 2 (nI t)) pl pc t := by
  obtain ⟨h1, h2, h3⟩ := h
  exact ⟨⟨by rw [m_up_miss (by omega)]; exact h1, h2, fun k hk => by rw [m_up_miss (by omega)]; exact h3 k hk⟩, m_up_at⟩
theorem s_go (hp : padOK pl pc) (hlay : ∀ n, 180 ≤ n → n < 2200 → lay n = (10, 0)) (hd : 6 ≤ d) (f : Nat) : ∀ (s k n : Nat) (S : Nat → Nat) (sp : Nat → UInt32) (hi : List Nat) (I : mI) (F : mF) (R : mR) (st0 : St), XS lay I F R n S sp hi nx hs pl pc sv → I 33 2 = nI s → s ≤ pl → pl < s + f → 2 * k ≤ s → ff pl pc s (0, 32, 1) = none → Wf S sp hi → hi.length + 180 ≤ n → 3 * n + (pl + 1 - s) ≤ 6500 → NT lay I F R n nx st0 →
    (∀ I' F' R' n' v2, n ≤ n' → 3 * n' ≤ 3 * n + (pl + 1 - s) → (q_go pl pc f s k (S, sp, hi)).2.2.2.length + n ≤ hi.length + n' → (q_go pl pc f s k (S, sp, hi)).1 ≤ 80 → Wf (q_go pl pc f s k (S, sp, hi)).2.1 (q_go pl pc f s k (S, sp, hi)).2.2.1 (q_go pl pc f s k (S, sp, hi)).2.2.2 → XS lay I' F' R' n' (q_go pl pc f s k (S, sp, hi)).2.1 (q_go pl pc f s k (S, sp, hi)).2.2.1 (q_go pl pc f s k (S, sp, hi)).2.2.2 nx hs pl pc sv → NT lay I' F' R' n' nx st0 → FrM n I F R I' F' R' → Ev lay d 85 70 [.ref 1, .int (nI (q_go pl pc f s k (S, sp, hi)).1), .int v2] [] I' F' R' n' Q) →
    Ev lay d 85 37 [.ref 1, .int (nI k), .int (nI 1)] [] I F R n Q := by
  induction f with
  | zero => intro s k n S sp hi I F R st0 _ _ h1 h2; omega
  | succ f ih =>
    intro s k n S sp hi I F R st0 h h2 hs hf hk hv wf hl hb nt hQ
    have hpl := h.2.2.2.2.1.2.1
    have hn := XS_n h
    have hsl : s < pl := by
      by_cases c : s < pl
      · exact c
      · have : s = pl := by omega
        subst this
        rw [ff_end, if_neg (by intro z; have := z.2; dsimp only at this; omega)] at hv
        cases hv
    have hv' := hv
    rw [ff_od hp hpl hs] at hv'
    rw [q_go] at hQ
    cases ho : q_od pl pc s with
    | inl p => rw [ho] at hv'; cases hv'
    | inr x =>
      obtain ⟨l, f1, g1, t, w, s1⟩ := x
      rw [ho] at hv' hQ
      dsimp only at hv' hQ
      have e1 := q_od_lt ho
      have ko : ∀ (Q : mP), _ → _ := fun Q hQ => s_order (d := d - 1) (Q := Q) h h2 hsl hp hv wf (by omega) (hlay n hn (by omega)) (by omega) ho hQ
      obtain ⟨⟨x1, x2, x3, x4, x5, x6, x7, x8, x9⟩, ⟨xw1, xw2, xw3⟩, ⟨xv1, xv2⟩, ⟨xp1, xp2, xp3, xp4, xp5⟩, ⟨xh1, xh2, xh3, xh4⟩, xs1, xs2, xs3⟩ := h.1
      rw [e85_37]
      simp (disch := omega) only [e85_38, e85_41, e85_42, e85_44, e85_47, e85_47N, e85_48, true_or, m_psh_s, m_psh_n, m_kl_i, m_kl_f, m_kl_r, m_kl_n, m_kl_j, m_kl_l, m_kl_d, c_i, c_f, c_r, c_n, List.length_nil, List.length_cons, true_and, and_true, Nat.reduceAdd, Nat.reduceLeDiff, Nat.reduceSub, Nat.reduceEqDiff, Nat.reduceLT, ge_iff_le, gt_iff_lt, n_lit, m_in, m_nar0, m_nar1, and_self, not_false_eq_true, not_true_eq_false, ne_eq, reduceIte, ite_self, Nat.reduceMul, Nat.reduceDiv, Nat.reduceMod, Nat.reducePow, Nat.zero_add, Nat.add_zero, Nat.one_mul, Nat.mul_one, n_in, n_min, n_clamp, n_eq_t, n_eq_f, n_eq, n_le_t, n_le_f, n_le, n_lt_t, n_lt_f, n_lt, n_sub0, n_sublt, n_suble, n_negsub, m_up_hit, m_up_miss, m_row_hit, m_row_miss, n_eqm, n_meq, n_meqm, n_ltm, n_lem, n_mlt, n_mle, n_sub, n_div, n_and1, n_shl, n_shr, n_inc, n_mul, n_rem, z_lt, z_le, z_nlt, z_nle, Nat.not_lt_zero, Nat.le_zero_eq, Nat.zero_le, if_true, if_false, x1, x2, x3, x4, x5, x6, x7, x8, x9, xw1, xv1, xp1, xp2, xp3, xp4, xp5, xh1, xs1, xs2]
      apply ko
      intro I1 F1 R1 n1 a1 a2 a3 a4 X1 i1 o1
      have N1 := NT_c nt (XS_nx h) o1 a1 hn
      have W1 := Wf_ex (l := l) (f := f1) (g := g1) (t := t) (w := w) wf
      have b1 : 3 * n1 + (pl + 1 - (s1 + 1)) ≤ 3 * n + (pl + 1 - s) ∧ 3 * n1 ≤ 3 * n + (pl + 1 - s) := by
        by_cases c : l = 98
        · have := e1.2.2 c
          omega
        · have := a3 c
          omega
      by_cases c : (q_exO S sp hi l f1 g1 t w).1 < nI 0
      · rw [if_pos c] at hQ
        have key := hQ I1 F1 R1 n1 (nI 1) a1 b1.2 (by dsimp only; omega) (by dsimp only; omega) W1 X1 N1 (FrC_M o1)
        simp (disch := omega) only [e85_51, e85_54, e85_57, e85_57N, e85_58, e85_61, e85_63, e85_66, e85_67, true_or, m_psh_s, m_psh_n, m_kl_i, m_kl_f, m_kl_r, m_kl_n, m_kl_j, m_kl_l, m_kl_d, c_i, c_f, c_r, c_n, List.length_nil, List.length_cons, true_and, and_true, Nat.reduceAdd, Nat.reduceLeDiff, Nat.reduceSub, Nat.reduceEqDiff, Nat.reduceLT, ge_iff_le, gt_iff_lt, n_lit, m_in, m_nar0, m_nar1, and_self, not_false_eq_true, not_true_eq_false, ne_eq, reduceIte, ite_self, Nat.reduceMul, Nat.reduceDiv, Nat.reduceMod, Nat.reducePow, Nat.zero_add, Nat.add_zero, Nat.one_mul, Nat.mul_one, n_in, n_min, n_clamp, n_eq_t, n_eq_f, n_eq, n_le_t, n_le_f, n_le, n_lt_t, n_lt_f, n_lt, n_sub0, n_sublt, n_suble, n_negsub, m_up_hit, m_up_miss, m_row_hit, m_row_miss, n_eqm, n_meq, n_meqm, n_ltm, n_lem, n_mlt, n_mle, n_sub, n_div, n_and1, n_shl, n_shr, n_inc, n_mul, n_rem, z_lt, z_le, z_nlt, z_nle, Nat.not_lt_zero, Nat.le_zero_eq, Nat.zero_le, if_true, if_false, c, if_pos c]
        exact key
      · rw [if_neg c] at hQ
        obtain ⟨q, hq, eq⟩ : ∃ q : Nat, q < 2147483648 ∧ (q_exO S sp hi l f1 g1 t w).1 = nI q := by
          rcases n_g (q_exO S sp hi l f1 g1 t w).1 with ⟨q, h1, h2⟩ | hx
          · exact ⟨q, h1, h2⟩
          · exact absurd hx c
        have kp : ∀ (Q : mP), _ → _ := fun Q hQ => s_passes (d := d - 1) (x := 59) (F := F1) (R := R1) (n := n1) (Q := Q) (XS_ly X1) ⟨X1.2.2.2.2.1, i1⟩ e1.2.1 hp (by omega) hQ
        rw [eq]
        obtain ⟨⟨x1, x2, x3, x4, x5, x6, x7, x8, x9⟩, ⟨xw1, xw2, xw3⟩, ⟨xv1, xv2⟩, ⟨xp1, xp2, xp3, xp4, xp5⟩, ⟨xh1, xh2, xh3, xh4⟩, xs1, xs2, xs3⟩ := X1.1
        simp (disch := omega) only [e85_51, e85_54, e85_57, e85_57N, e85_58, e85_61, e85_63, true_or, m_psh_s, m_psh_n, m_kl_i, m_kl_f, m_kl_r, m_kl_n, m_kl_j, m_kl_l, m_kl_d, c_i, c_f, c_r, c_n, List.length_nil, List.length_cons, true_and, and_true, Nat.reduceAdd, Nat.reduceLeDiff, Nat.reduceSub, Nat.reduceEqDiff, Nat.reduceLT, ge_iff_le, gt_iff_lt, n_lit, m_in, m_nar0, m_nar1, and_self, not_false_eq_true, not_true_eq_false, ne_eq, reduceIte, ite_self, Nat.reduceMul, Nat.reduceDiv, Nat.reduceMod, Nat.reducePow, Nat.zero_add, Nat.add_zero, Nat.one_mul, Nat.mul_one, n_in, n_min, n_clamp, n_eq_t, n_eq_f, n_eq, n_le_t, n_le_f, n_le, n_lt_t, n_lt_f, n_lt, n_sub0, n_sublt, n_suble, n_negsub, m_up_hit, m_up_miss, m_row_hit, m_row_miss, n_eqm, n_meq, n_meqm, n_ltm, n_lem, n_mlt, n_mle, n_sub, n_div, n_and1, n_shl, n_shr, n_inc, n_mul, n_rem, z_lt, z_le, z_nlt, z_nle, Nat.not_lt_zero, Nat.le_zero_eq, Nat.zero_le, if_true, if_false, x1, x2, x3, x4, x5, x6, x7, x8, x9, xw1, xv1, xp1, xp2, xp3, xp4, xp5, xh1, xs1, xs2]
        apply kp
        intro I2 P2 o2
        have X2 := XS_PA X1 P2 o2
        have N2 := NT_c N1 (XS_nx h) (FrC_p o2) (Nat.le_refl _) (XS_n X1)
        by_cases c1 : s1 < pl
        · rw [if_pos c1] at hQ
          rw [ff_32 hp e1.2.1, if_pos c1] at hv'
          have c2 : pc s1 = 59 := by
            by_cases c2 : pc s1 = 59
            · exact c2
            · rw [if_neg c2] at hv'; cases hv'
          rw [if_pos c2] at hv'
          rw [if_pos ⟨c1, c2⟩] at P2 ⊢
          have key := ih (s1 + 1) (k + 1) n1 _ _ _ I2 F1 R1 st0 X2 P2.2 (by omega) (by omega) (by omega) hv' W1 (by omega) (by omega) N2 (fun I' F' R' n' v2 k1 k2 k3 k4 k5 k6 k7 k8 => hQ I' F' R' n' v2 (by omega) (by omega) (by
            have k3' : (q_go pl pc f (s1 + 1) (k + 1) (q_exO S sp hi l f1 g1 t w).2).2.2.2.length + n1 ≤ (q_exO S sp hi l f1 g1 t w).2.2.2.length + n' := k3
            omega) k4 k5 k6 k7 (FrM_trans (FrC_M o1) (FrM_trans (FrC_M (FrC_p o2)) k8 (Nat.le_refl _)) a1))
          simp (disch := omega) only [e85_66, e85_67, true_or, m_psh_s, m_psh_n, m_kl_i, m_kl_f, m_kl_r, m_kl_n, m_kl_j, m_kl_l, m_kl_d, c_i, c_f, c_r, c_n, List.length_nil, List.length_cons, true_and, and_true, Nat.reduceAdd, Nat.reduceLeDiff, Nat.reduceSub, Nat.reduceEqDiff, Nat.reduceLT, ge_iff_le, gt_iff_lt, n_lit, m_in, m_nar0, m_nar1, and_self, not_false_eq_true, not_true_eq_false, ne_eq, reduceIte, ite_self, Nat.reduceMul, Nat.reduceDiv, Nat.reduceMod, Nat.reducePow, Nat.zero_add, Nat.add_zero, Nat.one_mul, Nat.mul_one, n_in, n_min, n_clamp, n_eq_t, n_eq_f, n_eq, n_le_t, n_le_f, n_le, n_lt_t, n_lt_f, n_lt, n_sub0, n_sublt, n_suble, n_negsub, m_up_hit, m_up_miss, m_row_hit, m_row_miss, n_eqm, n_meq, n_meqm, n_ltm, n_lem, n_mlt, n_mle, n_sub, n_div, n_and1, n_shl, n_shr, n_inc, n_mul, n_rem, z_lt, z_le, z_nlt, z_nle, Nat.not_lt_zero, Nat.le_zero_eq, Nat.zero_le, if_true, if_false]
          exact key
        · rw [if_neg c1] at hQ
          rw [if_neg (show ¬ (s1 < pl ∧ pc s1 = 59) from fun z => c1 z.1)] at P2 ⊢
          have key := hQ I2 F1 R1 n1 (nI 0) a1 b1.2 (by dsimp only; omega) (by dsimp only; omega) W1 X2 N2 (FrM_trans (FrC_M o1) (FrC_M (FrC_p o2)) a1)
          simp (disch := omega) only [e85_66, e85_67, true_or, m_psh_s, m_psh_n, m_kl_i, m_kl_f, m_kl_r, m_kl_n, m_kl_j, m_kl_l, m_kl_d, c_i, c_f, c_r, c_n, List.length_nil, List.length_cons, true_and, and_true, Nat.reduceAdd, Nat.reduceLeDiff, Nat.reduceSub, Nat.reduceEqDiff, Nat.reduceLT, ge_iff_le, gt_iff_lt, n_lit, m_in, m_nar0, m_nar1, and_self, not_false_eq_true, not_true_eq_false, ne_eq, reduceIte, ite_self, Nat.reduceMul, Nat.reduceDiv, Nat.reduceMod, Nat.reducePow, Nat.zero_add, Nat.add_zero, Nat.one_mul, Nat.mul_one, n_in, n_min, n_clamp, n_eq_t, n_eq_f, n_eq, n_le_t, n_le_f, n_le, n_lt_t, n_lt_f, n_lt, n_sub0, n_sublt, n_suble, n_negsub, m_up_hit, m_up_miss, m_row_hit, m_row_miss, n_eqm, n_meq, n_meqm, n_ltm, n_lem, n_mlt, n_mle, n_sub, n_div, n_and1, n_shl, n_shr, n_inc, n_mul, n_rem, z_lt, z_le, z_nlt, z_nle, Nat.not_lt_zero, Nat.le_zero_eq, Nat.zero_le, if_true, if_false]
          rw [e85_37]
          simp (disch := omega) only [e85_38, true_or, m_psh_s, m_psh_n, m_kl_i, m_kl_f, m_kl_r, m_kl_n, m_kl_j, m_kl_l, m_kl_d, c_i, c_f, c_r, c_n, List.length_nil, List.length_cons, true_and, and_true, Nat.reduceAdd, Nat.reduceLeDiff, Nat.reduceSub, Nat.reduceEqDiff, Nat.reduceLT, ge_iff_le, gt_iff_lt, n_lit, m_in, m_nar0, m_nar1, and_self, not_false_eq_true, not_true_eq_false, ne_eq, reduceIte, ite_self, Nat.reduceMul, Nat.reduceDiv, Nat.reduceMod, Nat.reducePow, Nat.zero_add, Nat.add_zero, Nat.one_mul, Nat.mul_one, n_in, n_min, n_clamp, n_eq_t, n_eq_f, n_eq, n_le_t, n_le_f, n_le, n_lt_t, n_lt_f, n_lt, n_sub0, n_sublt, n_suble, n_negsub, m_up_hit, m_up_miss, m_row_hit, m_row_miss, n_eqm, n_meq, n_meqm, n_ltm, n_lem, n_mlt, n_mle, n_sub, n_div, n_and1, n_shl, n_shr, n_inc, n_mul, n_rem, z_lt, z_le, z_nlt, z_nle, Nat.not_lt_zero, Nat.le_zero_eq, Nat.zero_le, if_true, if_false]
          exact key
theorem f_carry0 (h : XS lay I F R n S sp hi nx hs pl pc sv) (hp : padOK pl pc) (hd : 3 ≤ d) {p : Nat} (hf : q_flt pl pc = some p) (hQ : ∀ I' F' R', XS lay I' F' R' n S sp hi nx hs pl pc sv → FrM n I F R I' F' R' → Q (some (.int (-nI 3))) I' F' R' n) : Ev lay d 85 0 [.ref 1, m_j, m_j] [] I F R n Q := by
  have hX := h
  have hP := h.2.2.2.2.1
  have hple := hP.2.1
  have hpp : p ≤ pl := q_ff_le pl 0 (0, 32, 0) p (by omega) hf
  obtain ⟨⟨x1, x2, x3, x4, x5, x6, x7, x8, x9⟩, ⟨xw1, xw2, xw3⟩, ⟨xv1, xv2⟩, ⟨xp1, xp2, xp3, xp4, xp5⟩, ⟨xh1, xh2, xh3, xh4⟩, xs1, xs2, xs3⟩ := h.1
  have kf : ∀ (Q : mP), _ → _ := fun Q hQ => s_firstFault (d := d - 1) (F := F) (n := n) (Q := Q) xp1 xp2 xp3 xp4 xp5 hp hP (by omega) hQ
  simp (disch := omega) only [e85_0, e85_0N, e85_1, e85_4, true_or, m_psh_s, m_psh_n, m_kl_i, m_kl_f, m_kl_r, m_kl_n, m_kl_j, m_kl_l, m_kl_d, c_i, c_f, c_r, c_n, List.length_nil, List.length_cons, true_and, and_true, Nat.reduceAdd, Nat.reduceLeDiff, Nat.reduceSub, Nat.reduceEqDiff, Nat.reduceLT, ge_iff_le, gt_iff_lt, n_lit, m_in, m_nar0, m_nar1, and_self, not_false_eq_true, not_true_eq_false, ne_eq, reduceIte, ite_self, Nat.reduceMul, Nat.reduceDiv, Nat.reduceMod, Nat.reducePow, Nat.zero_add, Nat.add_zero, Nat.one_mul, Nat.mul_one, n_in, n_min, n_clamp, n_eq_t, n_eq_f, n_eq, n_le_t, n_le_f, n_le, n_lt_t, n_lt_f, n_lt, n_sub0, n_sublt, n_suble, n_negsub, m_up_hit, m_up_miss, m_row_hit, m_row_miss, n_eqm, n_meq, n_meqm, n_ltm, n_lem, n_mlt, n_mle, n_sub, n_div, n_and1, n_shl, n_shr, n_inc, n_mul, n_rem, z_lt, z_le, z_nlt, z_nle, Nat.not_lt_zero, Nat.le_zero_eq, Nat.zero_le, if_true, if_false, x1, x2, x3, x4, x5, x6, x7, x8, x9, xw1, xv1, xp1, xp2, xp3, xp4, xp5, xh1, xs1, xs2]
  apply kf
  intro I1 o1
  have key := hQ I1 F R (XS_pad hX (PD_sm hP (o1 33 (by omega)).1 (o1 34 (by omega)).1) (Off_wide o1 (by omega) (by omega))) (FrM_pad (Off_wide o1 (by omega) (by omega)))
  rw [hf]
  simp (disch := omega) only [e85_7, e85_9, e85_12, e85_14, true_or, m_psh_s, m_psh_n, m_kl_i, m_kl_f, m_kl_r, m_kl_n, m_kl_j, m_kl_l, m_kl_d, c_i, c_f, c_r, c_n, List.length_nil, List.length_cons, true_and, and_true, Nat.reduceAdd, Nat.reduceLeDiff, Nat.reduceSub, Nat.reduceEqDiff, Nat.reduceLT, ge_iff_le, gt_iff_lt, n_lit, m_in, m_nar0, m_nar1, and_self, not_false_eq_true, not_true_eq_false, ne_eq, reduceIte, ite_self, Nat.reduceMul, Nat.reduceDiv, Nat.reduceMod, Nat.reducePow, Nat.zero_add, Nat.add_zero, Nat.one_mul, Nat.mul_one, n_in, n_min, n_clamp, n_eq_t, n_eq_f, n_eq, n_le_t, n_le_f, n_le, n_lt_t, n_lt_f, n_lt, n_sub0, n_sublt, n_suble, n_negsub, m_up_hit, m_up_miss, m_row_hit, m_row_miss, n_eqm, n_meq, n_meqm, n_ltm, n_lem, n_mlt, n_mle, n_sub, n_div, n_and1, n_shl, n_shr, n_inc, n_mul, n_rem, z_lt, z_le, z_nlt, z_nle, Nat.not_lt_zero, Nat.le_zero_eq, Nat.zero_le, if_true, if_false, q_oI]
  exact key
theorem f_carry1 (h : XS lay I F R n S sp hi nx hs pl pc sv) (hp : padOK pl pc) (hlay : ∀ n, 180 ≤ n → n < 2200 → lay n = (10, 0)) (hd : 6 ≤ d) (hf : q_flt pl pc = none) (wf : Wf S sp hi) (hl : hi.length + 180 ≤ n) (hb : 3 * n + (pl + 1) ≤ 6500)
    (hQ : ∀ I' F' R' n' nx', n ≤ n' → 3 * n' ≤ 3 * n + (pl + 1) → (q_go pl pc 81 0 0 (S, sp, hi)).2.2.2.length + n ≤ hi.length + n' → Wf (q_go pl pc 81 0 0 (S, sp, hi)).2.1 (q_go pl pc 81 0 0 (S, sp, hi)).2.2.1 (q_go pl pc 81 0 0 (S, sp, hi)).2.2.2 → XS lay I' F' R' n' (q_go pl pc 81 0 0 (S, sp, hi)).2.1 (q_go pl pc 81 0 0 (S, sp, hi)).2.2.1 (q_go pl pc 81 0 0 (S, sp, hi)).2.2.2 nx' (q_rec hs (S, sp, hi)) 0 pc sv → FrM n I F R I' F' R' → Q (some (.int (nI (q_go pl pc 81 0 0 (S, sp, hi)).1))) I' F' R' n') : Ev lay d 85 0 [.ref 1, m_j, m_j] [] I F R n Q := by
  have hX := h
  have hP := h.2.2.2.2.1
  have hple := hP.2.1
  obtain ⟨⟨x1, x2, x3, x4, x5, x6, x7, x8, x9⟩, ⟨xw1, xw2, xw3⟩, ⟨xv1, xv2⟩, ⟨xp1, xp2, xp3, xp4, xp5⟩, ⟨xh1, xh2, xh3, xh4⟩, xs1, xs2, xs3⟩ := h.1
  have l2 := XS_sh h
  have kf : ∀ (Q : mP), _ → _ := fun Q hQ => s_firstFault (d := d - 1) (F := F) (n := n) (Q := Q) xp1 xp2 xp3 xp4 xp5 hp hP (by omega) hQ
  simp (disch := omega) only [e85_0, e85_0N, e85_1, e85_4, true_or, m_psh_s, m_psh_n, m_kl_i, m_kl_f, m_kl_r, m_kl_n, m_kl_j, m_kl_l, m_kl_d, c_i, c_f, c_r, c_n, List.length_nil, List.length_cons, true_and, and_true, Nat.reduceAdd, Nat.reduceLeDiff, Nat.reduceSub, Nat.reduceEqDiff, Nat.reduceLT, ge_iff_le, gt_iff_lt, n_lit, m_in, m_nar0, m_nar1, and_self, not_false_eq_true, not_true_eq_false, ne_eq, reduceIte, ite_self, Nat.reduceMul, Nat.reduceDiv, Nat.reduceMod, Nat.reducePow, Nat.zero_add, Nat.add_zero, Nat.one_mul, Nat.mul_one, n_in, n_min, n_clamp, n_eq_t, n_eq_f, n_eq, n_le_t, n_le_f, n_le, n_lt_t, n_lt_f, n_lt, n_sub0, n_sublt, n_suble, n_negsub, m_up_hit, m_up_miss, m_row_hit, m_row_miss, n_eqm, n_meq, n_meqm, n_ltm, n_lem, n_mlt, n_mle, n_sub, n_div, n_and1, n_shl, n_shr, n_inc, n_mul, n_rem, z_lt, z_le, z_nlt, z_nle, Nat.not_lt_zero, Nat.le_zero_eq, Nat.zero_le, if_true, if_false, x1, x2, x3, x4, x5, x6, x7, x8, x9, xw1, xv1, xp1, xp2, xp3, xp4, xp5, xh1, xs1, xs2]
  apply kf
  intro I1 o1
  have X1 := XS_pad hX (PD_sm hP (o1 33 (by omega)).1 (o1 34 (by omega)).1) (Off_wide o1 (by omega) (by omega))
  rw [hf]
  simp (disch := omega) only [e85_7, e85_9, e85_12, e85_14, e85_15, e85_15N, e85_16, e85_19, e85_19N, e85_20, e85_23, true_or, m_psh_s, m_psh_n, m_kl_i, m_kl_f, m_kl_r, m_kl_n, m_kl_j, m_kl_l, m_kl_d, c_i, c_f, c_r, c_n, List.length_nil, List.length_cons, true_and, and_true, Nat.reduceAdd, Nat.reduceLeDiff, Nat.reduceSub, Nat.reduceEqDiff, Nat.reduceLT, ge_iff_le, gt_iff_lt, n_lit, m_in, m_nar0, m_nar1, and_self, not_false_eq_true, not_true_eq_false, ne_eq, reduceIte, ite_self, Nat.reduceMul, Nat.reduceDiv, Nat.reduceMod, Nat.reducePow, Nat.zero_add, Nat.add_zero, Nat.one_mul, Nat.mul_one, n_in, n_min, n_clamp, n_eq_t, n_eq_f, n_eq, n_le_t, n_le_f, n_le, n_lt_t, n_lt_f, n_lt, n_sub0, n_sublt, n_suble, n_negsub, m_up_hit, m_up_miss, m_row_hit, m_row_miss, n_eqm, n_meq, n_meqm, n_ltm, n_lem, n_mlt, n_mle, n_sub, n_div, n_and1, n_shl, n_shr, n_inc, n_mul, n_rem, z_lt, z_le, z_nlt, z_nle, Nat.not_lt_zero, Nat.le_zero_eq, Nat.zero_le, if_true, if_false, x1, x2, x3, x4, x5, x6, x7, x8, x9, xw1, xv1, xp1, xp2, xp3, xp4, xp5, xh1, xs1, xs2, q_oI]
  apply s_note X1 (by omega)
  intro I2 F2 R2 X2 N2 o2
  have e33 : PA (m_up I2 33 2 (nI 0)) pl pc 0 := PA_pd X2.2.2.2.2.1
  have X3 := XS_PA X2 e33 (Off_I (by omega) (by omega))
  have N3 := NT_c N2 (XS_nx X2) (FrC_p (Off_I (a := 33) (b := 33) (x := 33) (k := 2) (v := nI 0) (by omega) (by omega))) (Nat.le_refl _) (XS_n X2)
  have hv : ff pl pc 0 (0, 32, 1) = none := by
    rw [ff_0 (mk' := 32) (me' := 0) (by omega)]
    exact hf
  obtain ⟨⟨x1, x2, x3, x4, x5, x6, x7, x8, x9⟩, ⟨xw1, xw2, xw3⟩, ⟨xv1, xv2⟩, ⟨xp1, xp2, xp3, xp4, xp5⟩, ⟨xh1, xh2, xh3, xh4⟩, xs1, xs2, xs3⟩ := X2.1
  have key := s_go (d := d) (Q := Q) hp hlay hd 81 0 0 n S sp hi _ F2 R2 (S, sp, hi) X3 e33.2 (by omega) (by omega) (by omega) hv wf hl (by omega) N3 (fun I4 F4 R4 n4 v2 k1 k2 k3 k4 k5 k6 k7 k8 => by
    obtain ⟨⟨x1, x2, x3, x4, x5, x6, x7, x8, x9⟩, ⟨xw1, xw2, xw3⟩, ⟨xv1, xv2⟩, ⟨xp1, xp2, xp3, xp4, xp5⟩, ⟨xh1, xh2, xh3, xh4⟩, xs1, xs2, xs3⟩ := k6.1
    have p4 := k6.2.2.2.2.1.1
    have oE : Off 33 33 I4 F4 R4 (m_up I4 33 3 (nI 0)) F4 R4 := Off_I (by omega) (by omega)
    have X5 := XS_pad (pl' := 0) (pc' := pc) k6 ⟨m_up_at, by omega, fun k hk => by omega⟩ (Off_wide oE (by omega) (by omega))
    have N5 := NT_c k7 (XS_nx k6) (FrC_p oE) (Nat.le_refl _) (XS_n k6)
    have kr : ∀ (Q : mP), _ → _ := fun Q hQ => s_recorded (d := d - 1) (Q := Q) (ans := nI (q_go pl pc 81 0 0 (S, sp, hi)).1) X5 N5 (by omega) hQ
    simp (disch := omega) only [e85_70, e85_70N, e85_71, e85_74, e85_77, e85_78, e85_78N, e85_79, e85_80, e76_0, e76_0N, e76_1, e76_4, e76_5, e76_5N, e76_6, e76_7, e76_10, e76_11, true_or, m_psh_s, m_psh_n, m_kl_i, m_kl_f, m_kl_r, m_kl_n, m_kl_j, m_kl_l, m_kl_d, c_i, c_f, c_r, c_n, List.length_nil, List.length_cons, true_and, and_true, Nat.reduceAdd, Nat.reduceLeDiff, Nat.reduceSub, Nat.reduceEqDiff, Nat.reduceLT, ge_iff_le, gt_iff_lt, n_lit, m_in, m_nar0, m_nar1, and_self, not_false_eq_true, not_true_eq_false, ne_eq, reduceIte, ite_self, Nat.reduceMul, Nat.reduceDiv, Nat.reduceMod, Nat.reducePow, Nat.zero_add, Nat.add_zero, Nat.one_mul, Nat.mul_one, n_in, n_min, n_clamp, n_eq_t, n_eq_f, n_eq, n_le_t, n_le_f, n_le, n_lt_t, n_lt_f, n_lt, n_sub0, n_sublt, n_suble, n_negsub, m_up_hit, m_up_miss, m_row_hit, m_row_miss, n_eqm, n_meq, n_meqm, n_ltm, n_lem, n_mlt, n_mle, n_sub, n_div, n_and1, n_shl, n_shr, n_inc, n_mul, n_rem, z_lt, z_le, z_nlt, z_nle, Nat.not_lt_zero, Nat.le_zero_eq, Nat.zero_le, if_true, if_false, x1, x2, x3, x4, x5, x6, x7, x8, x9, xw1, xv1, xp1, xp2, xp3, xp4, xp5, xh1, xs1, xs2, p4]
    apply kr
    intro I6 nx6 X6 f6
    unfold q_rc at X6
    rw [if_neg (by rw [n_lt (by omega) (by omega)]; omega)] at X6
    have key := hQ I6 F4 R4 n4 nx6 k1 (by omega) k3 k5 X6 (FrM_trans (FrM_pad (Off_wide o1 (by omega) (by omega))) (FrM_trans o2 (FrM_trans (FrM_pad (Off_wide (Off_I (a := 33) (b := 33) (by omega) (by omega)) (by omega) (by omega))) (FrM_trans k8 (FrM_trans (FrC_M (FrC_p oE)) f6 (Nat.le_refl _)) k1) (Nat.le_refl _)) (Nat.le_refl _)) (Nat.le_refl _))
    simp (disch := omega) only [e85_83, true_or, m_psh_s, m_psh_n, m_kl_i, m_kl_f, m_kl_r, m_kl_n, m_kl_j, m_kl_l, m_kl_d, c_i, c_f, c_r, c_n, List.length_nil, List.length_cons, true_and, and_true, Nat.reduceAdd, Nat.reduceLeDiff, Nat.reduceSub, Nat.reduceEqDiff, Nat.reduceLT, ge_iff_le, gt_iff_lt, n_lit, m_in, m_nar0, m_nar1, and_self, not_false_eq_true, not_true_eq_false, ne_eq, reduceIte, ite_self, Nat.reduceMul, Nat.reduceDiv, Nat.reduceMod, Nat.reducePow, Nat.zero_add, Nat.add_zero, Nat.one_mul, Nat.mul_one, n_in, n_min, n_clamp, n_eq_t, n_eq_f, n_eq, n_le_t, n_le_f, n_le, n_lt_t, n_lt_f, n_lt, n_sub0, n_sublt, n_suble, n_negsub, m_up_hit, m_up_miss, m_row_hit, m_row_miss, n_eqm, n_meq, n_meqm, n_ltm, n_lem, n_mlt, n_mle, n_sub, n_div, n_and1, n_shl, n_shr, n_inc, n_mul, n_rem, z_lt, z_le, z_nlt, z_nle, Nat.not_lt_zero, Nat.le_zero_eq, Nat.zero_le, if_true, if_false]
    exact key)
  simp (disch := omega) only [e85_26, e85_26N, e85_27, e85_30, e85_33, e85_34, e85_35, e85_36, e86_0, e86_0N, e86_1, e86_2, e86_5, true_or, m_psh_s, m_psh_n, m_kl_i, m_kl_f, m_kl_r, m_kl_n, m_kl_j, m_kl_l, m_kl_d, c_i, c_f, c_r, c_n, List.length_nil, List.length_cons, true_and, and_true, Nat.reduceAdd, Nat.reduceLeDiff, Nat.reduceSub, Nat.reduceEqDiff, Nat.reduceLT, ge_iff_le, gt_iff_lt, n_lit, m_in, m_nar0, m_nar1, and_self, not_false_eq_true, not_true_eq_false, ne_eq, reduceIte, ite_self, Nat.reduceMul, Nat.reduceDiv, Nat.reduceMod, Nat.reducePow, Nat.zero_add, Nat.add_zero, Nat.one_mul, Nat.mul_one, n_in, n_min, n_clamp, n_eq_t, n_eq_f, n_eq, n_le_t, n_le_f, n_le, n_lt_t, n_lt_f, n_lt, n_sub0, n_sublt, n_suble, n_negsub, m_up_hit, m_up_miss, m_row_hit, m_row_miss, n_eqm, n_meq, n_meqm, n_ltm, n_lem, n_mlt, n_mle, n_sub, n_div, n_and1, n_shl, n_shr, n_inc, n_mul, n_rem, z_lt, z_le, z_nlt, z_nle, Nat.not_lt_zero, Nat.le_zero_eq, Nat.zero_le, if_true, if_false, x1, x2, x3, x4, x5, x6, x7, x8, x9, xw1, xv1, xp1, xp2, xp3, xp4, xp5, xh1, xs1, xs2]
  exact key
end CARRYB
