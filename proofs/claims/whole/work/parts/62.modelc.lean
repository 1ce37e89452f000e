section MODELC
variable {lay : mL} {d a n n' : Nat} {I I' : mI} {F F' : mF} {R R' : mR} {Q : mP} {S : Nat → Nat} {sp : Nat → UInt32} {hi : List Nat}
/-- what a change of the reference's row leaves alone -/
def Om (I : mI) (F : mF) (R : mR) (I' : mI) (F' : mF) : Prop := Off 167 168 I F R I' F' R ∧ I' 167 123 = I 167 123
theorem Om_refl : Om I F R I F := ⟨Off_refl, rfl⟩
theorem Om_trans {I'' : mI} {F'' : mF} (h : Om I F R I' F') (h' : Om I' F' R I'' F'') : Om I F R I'' F'' := ⟨Off_trans h.1 h'.1, h'.2.trans h.2⟩
theorem Om_up {k : Nat} {v : Int32} (hk : k < 123) : Om I F R (m_up I 167 k v) F := ⟨Off_I (by omega) (by omega), m_up_miss (by omega)⟩
theorem Om_F {k : Nat} {v : UInt32} : Om I F R I (m_up F 168 k v) := ⟨Off_F (by omega) (by omega), rfl⟩
def q_mvI (I : mI) (g : Option Nat) (s : Nat) : mI := match g with
  | none => I
  | some g => m_up I 167 (4 + 4 * g) (nI s)
theorem MS_mv {g : Option Nat} {s : Nat} (h : MS I F S sp) : MS (q_mvI I g s) F (q_mv S g s) sp := by
  cases g with
  | none => exact h
  | some g => exact MS_up h
theorem Om_mv {g : Option Nat} {s : Nat} (hg : ∀ x, g = some x → x < 16) : Om I F R (q_mvI I g s) F := by
  cases g with
  | none => exact Om_refl
  | some g => exact Om_up (by have := hg g rfl; omega)
theorem r_exchanges {s o : Nat} (hl : ML lay R) (h : MS I F S sp) (w : Wsh S) (hs : s < 30) (ho : o < 30) (hd : 3 ≤ d) (hQ : ∀ I', MS I' F (q_exS S s o) sp → Om I F R I' F → Q (some (.int (nI (q_n1 (q_gi S s) + q_n1 (q_gi S o))))) I' F R n) : Ev lay d 112 0 [.ref 166, .int (nI s), .int (nI o), m_j, m_j] [] I F R n Q := by
  have hl' := hl
  have w1 := w.1
  have k1 : ∀ (Q : mP), _ := fun Q => r_goodIn (d := d - 1) (n := n) (Q := Q) hl' h w hs (by omega)
  have k2 : ∀ (Q : mP), _ := fun Q => r_goodIn (d := d - 1) (n := n) (Q := Q) hl' h w ho (by omega)
  have g1 : ∀ x, q_gi S s = some x → x < 16 := fun x e => q_gi_lt16 w1 e
  have g2 : ∀ x, q_gi S o = some x → x < 16 := fun x e => q_gi_lt16 w1 e
  have key := hQ (q_mvI (q_mvI I (q_gi S s) o) (q_gi S o) s) (MS_mv (MS_mv h)) (Om_trans (Om_mv g1) (Om_mv g2))
  obtain ⟨hm0, hm1, hm2, hm3, hm4, hm5, hm6, hm7, hm8, hm9, hm10, hm11, hm12, hm13, hm14, hm15, hm16, hm17, hm18, hm19, hm20, hm21, hm22, hm23, hm24, hm25, hm26⟩ := hl
  cases e1 : q_gi S s with
  | none =>
    cases e2 : q_gi S o with
    | none =>
      rw [e1, e2] at key
      rw [e1] at k1
      rw [e2] at k2
      simp only [q_oI] at k1 k2
      simp (disch := omega) only [e112_0, e112_0N, e112_1, e112_2, e112_5, e112_6, e112_6N, e112_7, e112_8, e112_11, e112_13, e112_14, e112_16, e112_19, e112_19N, e112_20, e112_23, e112_24, e112_25, e112_28, e112_29, e112_30, e112_32, e112_34, e112_37, e112_37N, e112_38, e112_41, e112_43, e112_44, e112_47, e112_48, e112_49, e112_50, e112_52, e112_55, e112_56, e112_59, e112_60, e112_62, e112_64, e112_67, e112_68, e112_71, e112_72, e112_73, true_or, m_psh_s, m_psh_n, m_kl_i, m_kl_f, m_kl_r, m_kl_n, m_kl_j, m_kl_l, m_kl_d, c_i, c_f, c_r, c_n, List.length_nil, List.length_cons, true_and, and_true, Nat.reduceAdd, Nat.reduceLeDiff, Nat.reduceSub, Nat.reduceEqDiff, Nat.reduceLT, ge_iff_le, gt_iff_lt, n_lit, m_in, m_nar0, m_nar1, and_self, not_false_eq_true, not_true_eq_false, ne_eq, reduceIte, ite_self, Nat.reduceMul, Nat.reduceDiv, Nat.reduceMod, Nat.reducePow, Nat.zero_add, Nat.add_zero, Nat.one_mul, Nat.mul_one, n_in, n_min, n_clamp, n_eq_t, n_eq_f, n_eq, n_le_t, n_le_f, n_le, n_lt_t, n_lt_f, n_lt, n_sub0, n_sublt, n_suble, n_negsub, m_up_hit, m_up_miss, m_row_hit, m_row_miss, n_eqm, n_meq, n_meqm, n_ltm, n_lem, n_mlt, n_mle, n_sub, n_div, n_and1, n_shl, n_shr, n_inc, n_mul, n_rem, z_lt, z_le, z_nlt, z_nle, Nat.not_lt_zero, Nat.le_zero_eq, Nat.zero_le, if_true, if_false, hm0, hm1, hm2, hm3, hm4, hm5, hm6, hm7, hm8, hm9, hm10, hm11, hm12, hm13, hm14, hm15, hm16, hm17, hm18, hm19, hm20, hm21, hm22, hm23, hm24, hm25, hm26, k1, k2]
      exact key
    | some y =>
      have hy := g2 y e2
      rw [e1, e2] at key
      rw [e1] at k1
      rw [e2] at k2
      simp only [q_oI] at k1 k2
      simp (disch := omega) only [e112_0, e112_0N, e112_1, e112_2, e112_5, e112_6, e112_6N, e112_7, e112_8, e112_11, e112_13, e112_14, e112_16, e112_19, e112_19N, e112_20, e112_23, e112_24, e112_25, e112_28, e112_29, e112_30, e112_32, e112_34, e112_37, e112_37N, e112_38, e112_41, e112_43, e112_44, e112_47, e112_48, e112_49, e112_50, e112_52, e112_55, e112_56, e112_59, e112_60, e112_62, e112_64, e112_67, e112_68, e112_71, e112_72, e112_73, true_or, m_psh_s, m_psh_n, m_kl_i, m_kl_f, m_kl_r, m_kl_n, m_kl_j, m_kl_l, m_kl_d, c_i, c_f, c_r, c_n, List.length_nil, List.length_cons, true_and, and_true, Nat.reduceAdd, Nat.reduceLeDiff, Nat.reduceSub, Nat.reduceEqDiff, Nat.reduceLT, ge_iff_le, gt_iff_lt, n_lit, m_in, m_nar0, m_nar1, and_self, not_false_eq_true, not_true_eq_false, ne_eq, reduceIte, ite_self, Nat.reduceMul, Nat.reduceDiv, Nat.reduceMod, Nat.reducePow, Nat.zero_add, Nat.add_zero, Nat.one_mul, Nat.mul_one, n_in, n_min, n_clamp, n_eq_t, n_eq_f, n_eq, n_le_t, n_le_f, n_le, n_lt_t, n_lt_f, n_lt, n_sub0, n_sublt, n_suble, n_negsub, m_up_hit, m_up_miss, m_row_hit, m_row_miss, n_eqm, n_meq, n_meqm, n_ltm, n_lem, n_mlt, n_mle, n_sub, n_div, n_and1, n_shl, n_shr, n_inc, n_mul, n_rem, z_lt, z_le, z_nlt, z_nle, Nat.not_lt_zero, Nat.le_zero_eq, Nat.zero_le, if_true, if_false, hm0, hm1, hm2, hm3, hm4, hm5, hm6, hm7, hm8, hm9, hm10, hm11, hm12, hm13, hm14, hm15, hm16, hm17, hm18, hm19, hm20, hm21, hm22, hm23, hm24, hm25, hm26, k1, k2, r_ofGood]
      exact key
  | some x =>
    have hx := g1 x e1
    cases e2 : q_gi S o with
    | none =>
      rw [e1, e2] at key
      rw [e1] at k1
      rw [e2] at k2
      simp only [q_oI] at k1 k2
      simp (disch := omega) only [e112_0, e112_0N, e112_1, e112_2, e112_5, e112_6, e112_6N, e112_7, e112_8, e112_11, e112_13, e112_14, e112_16, e112_19, e112_19N, e112_20, e112_23, e112_24, e112_25, e112_28, e112_29, e112_30, e112_32, e112_34, e112_37, e112_37N, e112_38, e112_41, e112_43, e112_44, e112_47, e112_48, e112_49, e112_50, e112_52, e112_55, e112_56, e112_59, e112_60, e112_62, e112_64, e112_67, e112_68, e112_71, e112_72, e112_73, true_or, m_psh_s, m_psh_n, m_kl_i, m_kl_f, m_kl_r, m_kl_n, m_kl_j, m_kl_l, m_kl_d, c_i, c_f, c_r, c_n, List.length_nil, List.length_cons, true_and, and_true, Nat.reduceAdd, Nat.reduceLeDiff, Nat.reduceSub, Nat.reduceEqDiff, Nat.reduceLT, ge_iff_le, gt_iff_lt, n_lit, m_in, m_nar0, m_nar1, and_self, not_false_eq_true, not_true_eq_false, ne_eq, reduceIte, ite_self, Nat.reduceMul, Nat.reduceDiv, Nat.reduceMod, Nat.reducePow, Nat.zero_add, Nat.add_zero, Nat.one_mul, Nat.mul_one, n_in, n_min, n_clamp, n_eq_t, n_eq_f, n_eq, n_le_t, n_le_f, n_le, n_lt_t, n_lt_f, n_lt, n_sub0, n_sublt, n_suble, n_negsub, m_up_hit, m_up_miss, m_row_hit, m_row_miss, n_eqm, n_meq, n_meqm, n_ltm, n_lem, n_mlt, n_mle, n_sub, n_div, n_and1, n_shl, n_shr, n_inc, n_mul, n_rem, z_lt, z_le, z_nlt, z_nle, Nat.not_lt_zero, Nat.le_zero_eq, Nat.zero_le, if_true, if_false, hm0, hm1, hm2, hm3, hm4, hm5, hm6, hm7, hm8, hm9, hm10, hm11, hm12, hm13, hm14, hm15, hm16, hm17, hm18, hm19, hm20, hm21, hm22, hm23, hm24, hm25, hm26, k1, k2, r_ofGood]
      exact key
    | some y =>
      have hy := g2 y e2
      rw [e1, e2] at key
      rw [e1] at k1
      rw [e2] at k2
      simp only [q_oI] at k1 k2
      simp (disch := omega) only [e112_0, e112_0N, e112_1, e112_2, e112_5, e112_6, e112_6N, e112_7, e112_8, e112_11, e112_13, e112_14, e112_16, e112_19, e112_19N, e112_20, e112_23, e112_24, e112_25, e112_28, e112_29, e112_30, e112_32, e112_34, e112_37, e112_37N, e112_38, e112_41, e112_43, e112_44, e112_47, e112_48, e112_49, e112_50, e112_52, e112_55, e112_56, e112_59, e112_60, e112_62, e112_64, e112_67, e112_68, e112_71, e112_72, e112_73, true_or, m_psh_s, m_psh_n, m_kl_i, m_kl_f, m_kl_r, m_kl_n, m_kl_j, m_kl_l, m_kl_d, c_i, c_f, c_r, c_n, List.length_nil, List.length_cons, true_and, and_true, Nat.reduceAdd, Nat.reduceLeDiff, Nat.reduceSub, Nat.reduceEqDiff, Nat.reduceLT, ge_iff_le, gt_iff_lt, n_lit, m_in, m_nar0, m_nar1, and_self, not_false_eq_true, not_true_eq_false, ne_eq, reduceIte, ite_self, Nat.reduceMul, Nat.reduceDiv, Nat.reduceMod, Nat.reducePow, Nat.zero_add, Nat.add_zero, Nat.one_mul, Nat.mul_one, n_in, n_min, n_clamp, n_eq_t, n_eq_f, n_eq, n_le_t, n_le_f, n_le, n_lt_t, n_lt_f, n_lt, n_sub0, n_sublt, n_suble, n_negsub, m_up_hit, m_up_miss, m_row_hit, m_row_miss, n_eqm, n_meq, n_meqm, n_ltm, n_lem, n_mlt, n_mle, n_sub, n_div, n_and1, n_shl, n_shr, n_inc, n_mul, n_rem, z_lt, z_le, z_nlt, z_nle, Nat.not_lt_zero, Nat.le_zero_eq, Nat.zero_le, if_true, if_false, hm0, hm1, hm2, hm3, hm4, hm5, hm6, hm7, hm8, hm9, hm10, hm11, hm12, hm13, hm14, hm15, hm16, hm17, hm18, hm19, hm20, hm21, hm22, hm23, hm24, hm25, hm26, k1, k2, r_ofGood]
      exact key
theorem q_nlt_self (x : UInt32) : q_nlt x x := by
  have key : FP.fcmp x x ≠ some .lt := by
    show FP.Core.order (FP.Core.decode FP.Core.b32 x.toNat) (FP.Core.decode FP.Core.b32 x.toNat) ≠ some .lt
    generalize FP.Core.decode FP.Core.b32 x.toNat = z
    cases z with
    | nan => simp [FP.Core.order]
    | inf s => cases s <;> simp [FP.Core.order]
    | fin s c q => simp [FP.Core.order, compare, compareOfLessAndEq]
  unfold q_nlt
  cases e : FP.fcmp x x with
  | none => decide
  | some o =>
    cases o with
    | lt => exact absurd e key
    | eq => decide
    | gt => decide
def nzT (S : Nat → Nat) : Prop := ∀ k, k < S 69 → S (71 + 2 * k) ≠ 0
theorem nzT_ex {s o : Nat} (w : Wsh S) (hz : nzT S) : nzT (q_exS S s o) := fun k hk => by
  rw [q_exS_hi w.1 (by omega)] at hk ⊢
  exact hz k hk
theorem r_best0 (hl : ML lay R) (w : Wsh S) (hc9 : S 2 ≤ 9) (hc2 : S 68 < 1073741824) (hD : dOK S) (hz : nzT S) (wo : allW S sp) (hd : 5 ≤ d) (j : Nat) : ∀ (p : Nat) (v5 v6 v7 v8 v9 : Value) (I : mI), p + j = 900 → MS I F S sp → (∀ I', MS I' F S sp → Om I F R I' F → Q (some (.int (q_oI (q_bp S sp 900).1))) I' F R n) →
    Ev lay d 128 16 [.ref 166, .int (nI (q_tws S (S 69))), .float (q_bp S sp p).2, .int (q_oI (q_bp S sp p).1), .int (nI p), v5, v6, v7, v8, v9] [] I F R n Q := by
  have hD1 := hD.1
  have hlim := q_tws_le w hc9 hD (S 69) (Nat.le_refl _)
  have hl' := hl
  have m0 : lay 166 = (14, 0) := hl.1
  induction j with
  | zero =>
    intro p v5 v6 v7 v8 v9 I hj h hQ
    have hp : p = 900 := by omega
    subst hp
    have key := hQ I h Om_refl
    rw [e128_16]
    simp (disch := omega) only [e128_18, e128_21, e128_150, e128_151, true_or, m_psh_s, m_psh_n, m_kl_i, m_kl_f, m_kl_r, m_kl_n, m_kl_j, m_kl_l, m_kl_d, c_i, c_f, c_r, c_n, List.length_nil, List.length_cons, true_and, and_true, Nat.reduceAdd, Nat.reduceLeDiff, Nat.reduceSub, Nat.reduceEqDiff, Nat.reduceLT, ge_iff_le, gt_iff_lt, n_lit, m_in, m_nar0, m_nar1, and_self, not_false_eq_true, not_true_eq_false, ne_eq, reduceIte, ite_self, Nat.reduceMul, Nat.reduceDiv, Nat.reduceMod, Nat.reducePow, Nat.zero_add, Nat.add_zero, Nat.one_mul, Nat.mul_one, n_in, n_min, n_clamp, n_eq_t, n_eq_f, n_eq, n_le_t, n_le_f, n_le, n_lt_t, n_lt_f, n_lt, n_sub0, n_sublt, n_suble, n_negsub, m_up_hit, m_up_miss, m_row_hit, m_row_miss, n_eqm, n_meq, n_meqm, n_ltm, n_lem, n_mlt, n_mle, n_sub, n_div, n_and1, n_shl, n_shr, n_inc, n_mul, n_rem, z_lt, z_le, z_nlt, z_nle, Nat.not_lt_zero, Nat.le_zero_eq, Nat.zero_le, if_true, if_false]
    exact key
  | succ j ih =>
    intro p v5 v6 v7 v8 v9 I hj h hQ
    have hs : p / 30 < 30 := by omega
    have ho : p % 30 < 30 := by omega
    have nx : ∀ v5 v6 v7 v8 v9 I1, MS I1 F S sp → Om I F R I1 F → q_bp S sp (p + 1) = q_bp S sp p → Ev lay d 128 144 [.ref 166, .int (nI (q_tws S (S 69))), .float (q_bp S sp p).2, .int (q_oI (q_bp S sp p).1), .int (nI p), v5, v6, v7, v8, v9] [] I1 F R n Q := by
      intro v5 v6 v7 v8 v9 I1 h1 o1 eq
      have key := ih (p + 1) v5 v6 v7 v8 v9 I1 (by omega) h1 (fun I' t1 t2 => hQ I' t1 (Om_trans o1 t2))
      rw [eq] at key
      simp (disch := omega) only [e128_144, e128_147, true_or, m_psh_s, m_psh_n, m_kl_i, m_kl_f, m_kl_r, m_kl_n, m_kl_j, m_kl_l, m_kl_d, c_i, c_f, c_r, c_n, List.length_nil, List.length_cons, true_and, and_true, Nat.reduceAdd, Nat.reduceLeDiff, Nat.reduceSub, Nat.reduceEqDiff, Nat.reduceLT, ge_iff_le, gt_iff_lt, n_lit, m_in, m_nar0, m_nar1, and_self, not_false_eq_true, not_true_eq_false, ne_eq, reduceIte, ite_self, Nat.reduceMul, Nat.reduceDiv, Nat.reduceMod, Nat.reducePow, Nat.zero_add, Nat.add_zero, Nat.one_mul, Nat.mul_one, n_in, n_min, n_clamp, n_eq_t, n_eq_f, n_eq, n_le_t, n_le_f, n_le, n_lt_t, n_lt_f, n_lt, n_sub0, n_sublt, n_suble, n_negsub, m_up_hit, m_up_miss, m_row_hit, m_row_miss, n_eqm, n_meq, n_meqm, n_ltm, n_lem, n_mlt, n_mle, n_sub, n_div, n_and1, n_shl, n_shr, n_inc, n_mul, n_rem, z_lt, z_le, z_nlt, z_nle, Nat.not_lt_zero, Nat.le_zero_eq, Nat.zero_le, if_true, if_false]
      exact key
    have bpn : ¬ ((p / 30 < p % 30 ∧ q_mm S (p / 30) (p % 30)) ∧ ¬ q_nlt (q_wo S sp (p / 30) (p % 30)) (q_bp S sp p).2 ∧ q_tws (q_exS S (p / 30) (p % 30)) (S 69) ≤ q_tws S (S 69)) → q_bp S sp (p + 1) = q_bp S sp p := fun z => by
      rw [q_bp, if_neg z]
    rw [e128_16]
    by_cases c0 : p / 30 < p % 30
    · have k1 : ∀ (Q : mP), _ := fun Q => r_isOpen (d := d - 1) (n := n) (Q := Q) hl' h hs hc2
      have k2 : ∀ (Q : mP), _ := fun Q => r_isOpen (d := d - 1) (n := n) (Q := Q) hl' h ho hc2
      by_cases c1 : S 68 / 2 ^ (p / 30) % 2 = 0
      · by_cases c2 : S 68 / 2 ^ (p % 30) % 2 = 0
        · rw [if_pos c1] at k1
          rw [if_pos c2] at k2
          have ke : ∀ (Q : mP), _ → _ := fun Q hQ => r_exchanges (d := d - 1) (n := n) (Q := Q) hl' h w hs ho (by omega) hQ
          simp (disch := omega) only [e128_18, e128_21, e128_24, e128_26, e128_28, e128_29, e128_31, e128_33, e128_35, e128_36, e128_38, e128_40, e128_42, e128_45, e128_45N, e128_46, e128_48, e128_51, e128_54, e128_54N, e128_55, e128_57, e128_60, e128_63, e128_63N, e128_64, e128_66, e128_68, true_or, m_psh_s, m_psh_n, m_kl_i, m_kl_f, m_kl_r, m_kl_n, m_kl_j, m_kl_l, m_kl_d, c_i, c_f, c_r, c_n, List.length_nil, List.length_cons, true_and, and_true, Nat.reduceAdd, Nat.reduceLeDiff, Nat.reduceSub, Nat.reduceEqDiff, Nat.reduceLT, ge_iff_le, gt_iff_lt, n_lit, m_in, m_nar0, m_nar1, and_self, not_false_eq_true, not_true_eq_false, ne_eq, reduceIte, ite_self, Nat.reduceMul, Nat.reduceDiv, Nat.reduceMod, Nat.reducePow, Nat.zero_add, Nat.add_zero, Nat.one_mul, Nat.mul_one, n_in, n_min, n_clamp, n_eq_t, n_eq_f, n_eq, n_le_t, n_le_f, n_le, n_lt_t, n_lt_f, n_lt, n_sub0, n_sublt, n_suble, n_negsub, m_up_hit, m_up_miss, m_row_hit, m_row_miss, n_eqm, n_meq, n_meqm, n_ltm, n_lem, n_mlt, n_mle, n_sub, n_div, n_and1, n_shl, n_shr, n_inc, n_mul, n_rem, z_lt, z_le, z_nlt, z_nle, Nat.not_lt_zero, Nat.le_zero_eq, Nat.zero_le, if_true, if_false, m0, k1, k2]
          apply ke
          intro I1 h1 o1
          have wX := Wsh_ex w hs ho
          have e3 : q_exS S (p / 30) (p % 30) 3 = S 3 := q_exS_k (by omega)
          have e2 : q_exS S (p / 30) (p % 30) 2 = S 2 := q_exS_k (by omega)
          have e69 : q_exS S (p / 30) (p % 30) 69 = S 69 := q_exS_hi w.1 (by omega)
          have ew : q_wsum (q_exS S (p / 30) (p % 30)) sp (q_exS S (p / 30) (p % 30) 3) = q_wo S sp (p / 30) (p % 30) := by rw [e3]; rfl
          have kw : ∀ (Q : mP), _ := fun Q => r_weight (d := d - 1) (n := n) (Q := Q) hl' h1 wX (wo _ e3 e2 wX) (by omega)
          rw [ew] at kw
          have kb : ∀ (Q : mP), _ → _ := fun Q hQ => r_exchanges (d := d - 1) (n := n) (Q := Q) hl' h1 wX hs ho (by omega) hQ
          rw [q_exS_inv w hs ho] at kb
          have back0 : ∀ (v7 : Int32) (v9 : Value) (x : UInt32), q_bp S sp (p + 1) = q_bp S sp p → Ev lay d 128 107 [.ref 166, .int (nI (q_tws S (S 69))), .float (q_bp S sp p).2, .int (q_oI (q_bp S sp p).1), .int (nI p), .int (nI (p / 30)), .int (nI (p % 30)), .int v7, .float x, v9] [] I1 F R n Q := by
            intro v7 v9 x eq
            simp (disch := omega) only [e128_107, e128_108, e128_110, e128_110N, e128_111, e128_113, e128_115, true_or, m_psh_s, m_psh_n, m_kl_i, m_kl_f, m_kl_r, m_kl_n, m_kl_j, m_kl_l, m_kl_d, c_i, c_f, c_r, c_n, List.length_nil, List.length_cons, true_and, and_true, Nat.reduceAdd, Nat.reduceLeDiff, Nat.reduceSub, Nat.reduceEqDiff, Nat.reduceLT, ge_iff_le, gt_iff_lt, n_lit, m_in, m_nar0, m_nar1, and_self, not_false_eq_true, not_true_eq_false, ne_eq, reduceIte, ite_self, Nat.reduceMul, Nat.reduceDiv, Nat.reduceMod, Nat.reducePow, Nat.zero_add, Nat.add_zero, Nat.one_mul, Nat.mul_one, n_in, n_min, n_clamp, n_eq_t, n_eq_f, n_eq, n_le_t, n_le_f, n_le, n_lt_t, n_lt_f, n_lt, n_sub0, n_sublt, n_suble, n_negsub, m_up_hit, m_up_miss, m_row_hit, m_row_miss, n_eqm, n_meq, n_meqm, n_ltm, n_lem, n_mlt, n_mle, n_sub, n_div, n_and1, n_shl, n_shr, n_inc, n_mul, n_rem, z_lt, z_le, z_nlt, z_nle, Nat.not_lt_zero, Nat.le_zero_eq, Nat.zero_le, if_true, if_false, m0]
            apply kb
            intro I2 h2 o2
            simp (disch := omega) only [e128_118, e128_120, e128_122, e128_125, e128_127, e128_130, e128_131, e128_132, e128_134, e128_137, e128_139, e128_142, e128_143, true_or, m_psh_s, m_psh_n, m_kl_i, m_kl_f, m_kl_r, m_kl_n, m_kl_j, m_kl_l, m_kl_d, c_i, c_f, c_r, c_n, List.length_nil, List.length_cons, true_and, and_true, Nat.reduceAdd, Nat.reduceLeDiff, Nat.reduceSub, Nat.reduceEqDiff, Nat.reduceLT, ge_iff_le, gt_iff_lt, n_lit, m_in, m_nar0, m_nar1, and_self, not_false_eq_true, not_true_eq_false, ne_eq, reduceIte, ite_self, Nat.reduceMul, Nat.reduceDiv, Nat.reduceMod, Nat.reducePow, Nat.zero_add, Nat.add_zero, Nat.one_mul, Nat.mul_one, n_in, n_min, n_clamp, n_eq_t, n_eq_f, n_eq, n_le_t, n_le_f, n_le, n_lt_t, n_lt_f, n_lt, n_sub0, n_sublt, n_suble, n_negsub, m_up_hit, m_up_miss, m_row_hit, m_row_miss, n_eqm, n_meq, n_meqm, n_ltm, n_lem, n_mlt, n_mle, n_sub, n_div, n_and1, n_shl, n_shr, n_inc, n_mul, n_rem, z_lt, z_le, z_nlt, z_nle, Nat.not_lt_zero, Nat.le_zero_eq, Nat.zero_le, if_true, if_false, m0]
            exact nx _ _ _ _ _ I2 h2 (Om_trans o1 o2) eq
          by_cases c3 : q_n1 (q_gi S (p / 30)) + q_n1 (q_gi S (p % 30)) = 0
          · have nn : ¬ (q_gi S (p / 30) ≠ none ∨ q_gi S (p % 30) ≠ none) := by
              intro z
              cases e1 : q_gi S (p / 30) with
              | some x => rw [e1] at c3; simp [q_n1] at c3
              | none =>
                cases e2 : q_gi S (p % 30) with
                | some x => rw [e2] at c3; simp [q_n1] at c3
                | none => rw [e1, e2] at z; simp at z
            have eq := bpn (fun z => nn z.1.2.1)
            have sf : nI 0 ≤ Op.cmpValue (FP.fcmp (q_bp S sp p).2 (q_bp S sp p).2) .g := q_nlt_self _
            rw [c3]
            simp (disch := omega) only [e128_71, e128_73, e128_75, e128_78, e128_78N, e128_79, e128_82, e128_85, e128_86, e128_88, e128_90, e128_91, e128_92, e128_95, e128_95N, e128_96, e128_99, e128_100, e128_103, e128_104, true_or, m_psh_s, m_psh_n, m_kl_i, m_kl_f, m_kl_r, m_kl_n, m_kl_j, m_kl_l, m_kl_d, c_i, c_f, c_r, c_n, List.length_nil, List.length_cons, true_and, and_true, Nat.reduceAdd, Nat.reduceLeDiff, Nat.reduceSub, Nat.reduceEqDiff, Nat.reduceLT, ge_iff_le, gt_iff_lt, n_lit, m_in, m_nar0, m_nar1, and_self, not_false_eq_true, not_true_eq_false, ne_eq, reduceIte, ite_self, Nat.reduceMul, Nat.reduceDiv, Nat.reduceMod, Nat.reducePow, Nat.zero_add, Nat.add_zero, Nat.one_mul, Nat.mul_one, n_in, n_min, n_clamp, n_eq_t, n_eq_f, n_eq, n_le_t, n_le_f, n_le, n_lt_t, n_lt_f, n_lt, n_sub0, n_sublt, n_suble, n_negsub, m_up_hit, m_up_miss, m_row_hit, m_row_miss, n_eqm, n_meq, n_meqm, n_ltm, n_lem, n_mlt, n_mle, n_sub, n_div, n_and1, n_shl, n_shr, n_inc, n_mul, n_rem, z_lt, z_le, z_nlt, z_nle, Nat.not_lt_zero, Nat.le_zero_eq, Nat.zero_le, if_true, if_false, m0, sf]
            exact back0 _ _ _ eq
          · have yy : q_gi S (p / 30) ≠ none ∨ q_gi S (p % 30) ≠ none := by
              cases e1 : q_gi S (p / 30) with
              | some x => exact Or.inl nofun
              | none =>
                cases e2 : q_gi S (p % 30) with
                | some x => exact Or.inr nofun
                | none => rw [e1, e2] at c3; exact absurd rfl c3
            have hn1 : ∀ g : Option Nat, q_n1 g ≤ 1 := fun g => by cases g <;> simp [q_n1]
            have hn1a := hn1 (q_gi S (p / 30))
            have hn1b := hn1 (q_gi S (p % 30))
            by_cases c4 : nI 0 ≤ Op.cmpValue (FP.fcmp (q_wo S sp (p / 30) (p % 30)) (q_bp S sp p).2) .g
            · have eq := bpn (fun z => z.2.1 c4)
              simp (disch := omega) only [e128_71, e128_73, e128_75, e128_78, e128_78N, e128_79, e128_82, e128_85, e128_86, e128_88, e128_90, e128_91, e128_92, e128_95, e128_95N, e128_96, e128_99, e128_100, e128_103, e128_104, true_or, m_psh_s, m_psh_n, m_kl_i, m_kl_f, m_kl_r, m_kl_n, m_kl_j, m_kl_l, m_kl_d, c_i, c_f, c_r, c_n, List.length_nil, List.length_cons, true_and, and_true, Nat.reduceAdd, Nat.reduceLeDiff, Nat.reduceSub, Nat.reduceEqDiff, Nat.reduceLT, ge_iff_le, gt_iff_lt, n_lit, m_in, m_nar0, m_nar1, and_self, not_false_eq_true, not_true_eq_false, ne_eq, reduceIte, ite_self, Nat.reduceMul, Nat.reduceDiv, Nat.reduceMod, Nat.reducePow, Nat.zero_add, Nat.add_zero, Nat.one_mul, Nat.mul_one, n_in, n_min, n_clamp, n_eq_t, n_eq_f, n_eq, n_le_t, n_le_f, n_le, n_lt_t, n_lt_f, n_lt, n_sub0, n_sublt, n_suble, n_negsub, m_up_hit, m_up_miss, m_row_hit, m_row_miss, n_eqm, n_meq, n_meqm, n_ltm, n_lem, n_mlt, n_mle, n_sub, n_div, n_and1, n_shl, n_shr, n_inc, n_mul, n_rem, z_lt, z_le, z_nlt, z_nle, Nat.not_lt_zero, Nat.le_zero_eq, Nat.zero_le, if_true, if_false, m0, kw, c4]
              exact back0 _ _ _ eq
            · have kn : ∀ (Q : mP), _ := fun Q => r_walksNow (d := d - 1) (n := n) (Q := Q) hl' h1 wX (by rw [e2]; exact hc9) (dOK_ex w hD) (nzT_ex w hz) (by omega)
              have hl2 := q_tws_le wX (by rw [e2]; exact hc9) (dOK_ex w hD) (S 69) (by rw [e69]; exact Nat.le_refl _)
              rw [e69] at kn
              by_cases c5 : q_tws (q_exS S (p / 30) (p % 30)) (S 69) ≤ q_tws S (S 69)
              · have eq : q_bp S sp (p + 1) = (some p, q_wo S sp (p / 30) (p % 30)) := by
                  rw [q_bp, if_pos ⟨⟨c0, yy, c1, c2⟩, c4, c5⟩]
                simp (disch := omega) only [e128_71, e128_73, e128_75, e128_78, e128_78N, e128_79, e128_82, e128_85, e128_86, e128_88, e128_90, e128_91, e128_92, e128_95, e128_95N, e128_96, e128_99, e128_100, e128_103, e128_104, e128_107, e128_108, e128_110, e128_110N, e128_111, e128_113, e128_115, true_or, m_psh_s, m_psh_n, m_kl_i, m_kl_f, m_kl_r, m_kl_n, m_kl_j, m_kl_l, m_kl_d, c_i, c_f, c_r, c_n, List.length_nil, List.length_cons, true_and, and_true, Nat.reduceAdd, Nat.reduceLeDiff, Nat.reduceSub, Nat.reduceEqDiff, Nat.reduceLT, ge_iff_le, gt_iff_lt, n_lit, m_in, m_nar0, m_nar1, and_self, not_false_eq_true, not_true_eq_false, ne_eq, reduceIte, ite_self, Nat.reduceMul, Nat.reduceDiv, Nat.reduceMod, Nat.reducePow, Nat.zero_add, Nat.add_zero, Nat.one_mul, Nat.mul_one, n_in, n_min, n_clamp, n_eq_t, n_eq_f, n_eq, n_le_t, n_le_f, n_le, n_lt_t, n_lt_f, n_lt, n_sub0, n_sublt, n_suble, n_negsub, m_up_hit, m_up_miss, m_row_hit, m_row_miss, n_eqm, n_meq, n_meqm, n_ltm, n_lem, n_mlt, n_mle, n_sub, n_div, n_and1, n_shl, n_shr, n_inc, n_mul, n_rem, z_lt, z_le, z_nlt, z_nle, Nat.not_lt_zero, Nat.le_zero_eq, Nat.zero_le, if_true, if_false, m0, kw, c4, kn]
                apply kb
                intro I2 h2 o2
                have key := fun v5 v6 v7 v8 v9 => ih (p + 1) v5 v6 v7 v8 v9 I2 (by omega) h2 (fun I' t1 t2 => hQ I' t1 (Om_trans o1 (Om_trans o2 t2)))
                rw [eq] at key
                simp (disch := omega) only [e128_118, e128_120, e128_122, e128_125, e128_127, e128_130, e128_131, e128_132, e128_134, e128_137, e128_139, e128_142, e128_143, e128_144, e128_147, true_or, m_psh_s, m_psh_n, m_kl_i, m_kl_f, m_kl_r, m_kl_n, m_kl_j, m_kl_l, m_kl_d, c_i, c_f, c_r, c_n, List.length_nil, List.length_cons, true_and, and_true, Nat.reduceAdd, Nat.reduceLeDiff, Nat.reduceSub, Nat.reduceEqDiff, Nat.reduceLT, ge_iff_le, gt_iff_lt, n_lit, m_in, m_nar0, m_nar1, and_self, not_false_eq_true, not_true_eq_false, ne_eq, reduceIte, ite_self, Nat.reduceMul, Nat.reduceDiv, Nat.reduceMod, Nat.reducePow, Nat.zero_add, Nat.add_zero, Nat.one_mul, Nat.mul_one, n_in, n_min, n_clamp, n_eq_t, n_eq_f, n_eq, n_le_t, n_le_f, n_le, n_lt_t, n_lt_f, n_lt, n_sub0, n_sublt, n_suble, n_negsub, m_up_hit, m_up_miss, m_row_hit, m_row_miss, n_eqm, n_meq, n_meqm, n_ltm, n_lem, n_mlt, n_mle, n_sub, n_div, n_and1, n_shl, n_shr, n_inc, n_mul, n_rem, z_lt, z_le, z_nlt, z_nle, Nat.not_lt_zero, Nat.le_zero_eq, Nat.zero_le, if_true, if_false, m0]
                exact key _ _ _ _ _
              · have eq := bpn (fun z => c5 z.2.2)
                simp (disch := omega) only [e128_71, e128_73, e128_75, e128_78, e128_78N, e128_79, e128_82, e128_85, e128_86, e128_88, e128_90, e128_91, e128_92, e128_95, e128_95N, e128_96, e128_99, e128_100, e128_103, e128_104, true_or, m_psh_s, m_psh_n, m_kl_i, m_kl_f, m_kl_r, m_kl_n, m_kl_j, m_kl_l, m_kl_d, c_i, c_f, c_r, c_n, List.length_nil, List.length_cons, true_and, and_true, Nat.reduceAdd, Nat.reduceLeDiff, Nat.reduceSub, Nat.reduceEqDiff, Nat.reduceLT, ge_iff_le, gt_iff_lt, n_lit, m_in, m_nar0, m_nar1, and_self, not_false_eq_true, not_true_eq_false, ne_eq, reduceIte, ite_self, Nat.reduceMul, Nat.reduceDiv, Nat.reduceMod, Nat.reducePow, Nat.zero_add, Nat.add_zero, Nat.one_mul, Nat.mul_one, n_in, n_min, n_clamp, n_eq_t, n_eq_f, n_eq, n_le_t, n_le_f, n_le, n_lt_t, n_lt_f, n_lt, n_sub0, n_sublt, n_suble, n_negsub, m_up_hit, m_up_miss, m_row_hit, m_row_miss, n_eqm, n_meq, n_meqm, n_ltm, n_lem, n_mlt, n_mle, n_sub, n_div, n_and1, n_shl, n_shr, n_inc, n_mul, n_rem, z_lt, z_le, z_nlt, z_nle, Nat.not_lt_zero, Nat.le_zero_eq, Nat.zero_le, if_true, if_false, m0, kw, c4, kn]
                exact back0 _ _ _ eq
        · rw [if_pos c1] at k1
          rw [if_neg c2] at k2
          simp (disch := omega) only [e128_18, e128_21, e128_24, e128_26, e128_28, e128_29, e128_31, e128_33, e128_35, e128_36, e128_38, e128_40, e128_42, e128_45, e128_45N, e128_46, e128_48, e128_51, e128_54, e128_54N, e128_55, e128_57, e128_60, true_or, m_psh_s, m_psh_n, m_kl_i, m_kl_f, m_kl_r, m_kl_n, m_kl_j, m_kl_l, m_kl_d, c_i, c_f, c_r, c_n, List.length_nil, List.length_cons, true_and, and_true, Nat.reduceAdd, Nat.reduceLeDiff, Nat.reduceSub, Nat.reduceEqDiff, Nat.reduceLT, ge_iff_le, gt_iff_lt, n_lit, m_in, m_nar0, m_nar1, and_self, not_false_eq_true, not_true_eq_false, ne_eq, reduceIte, ite_self, Nat.reduceMul, Nat.reduceDiv, Nat.reduceMod, Nat.reducePow, Nat.zero_add, Nat.add_zero, Nat.one_mul, Nat.mul_one, n_in, n_min, n_clamp, n_eq_t, n_eq_f, n_eq, n_le_t, n_le_f, n_le, n_lt_t, n_lt_f, n_lt, n_sub0, n_sublt, n_suble, n_negsub, m_up_hit, m_up_miss, m_row_hit, m_row_miss, n_eqm, n_meq, n_meqm, n_ltm, n_lem, n_mlt, n_mle, n_sub, n_div, n_and1, n_shl, n_shr, n_inc, n_mul, n_rem, z_lt, z_le, z_nlt, z_nle, Nat.not_lt_zero, Nat.le_zero_eq, Nat.zero_le, if_true, if_false, m0, k1, k2]
          exact nx _ _ _ _ _ I h Om_refl (bpn fun z => c2 z.1.2.2.2)
      · rw [if_neg c1] at k1
        simp (disch := omega) only [e128_18, e128_21, e128_24, e128_26, e128_28, e128_29, e128_31, e128_33, e128_35, e128_36, e128_38, e128_40, e128_42, e128_45, e128_45N, e128_46, e128_48, e128_51, e128_54, e128_54N, e128_55, e128_57, e128_60, true_or, m_psh_s, m_psh_n, m_kl_i, m_kl_f, m_kl_r, m_kl_n, m_kl_j, m_kl_l, m_kl_d, c_i, c_f, c_r, c_n, List.length_nil, List.length_cons, true_and, and_true, Nat.reduceAdd, Nat.reduceLeDiff, Nat.reduceSub, Nat.reduceEqDiff, Nat.reduceLT, ge_iff_le, gt_iff_lt, n_lit, m_in, m_nar0, m_nar1, and_self, not_false_eq_true, not_true_eq_false, ne_eq, reduceIte, ite_self, Nat.reduceMul, Nat.reduceDiv, Nat.reduceMod, Nat.reducePow, Nat.zero_add, Nat.add_zero, Nat.one_mul, Nat.mul_one, n_in, n_min, n_clamp, n_eq_t, n_eq_f, n_eq, n_le_t, n_le_f, n_le, n_lt_t, n_lt_f, n_lt, n_sub0, n_sublt, n_suble, n_negsub, m_up_hit, m_up_miss, m_row_hit, m_row_miss, n_eqm, n_meq, n_meqm, n_ltm, n_lem, n_mlt, n_mle, n_sub, n_div, n_and1, n_shl, n_shr, n_inc, n_mul, n_rem, z_lt, z_le, z_nlt, z_nle, Nat.not_lt_zero, Nat.le_zero_eq, Nat.zero_le, if_true, if_false, m0, k1]
        exact nx _ _ _ _ _ I h Om_refl (bpn fun z => c1 z.1.2.2.1)
    · simp (disch := omega) only [e128_18, e128_21, e128_24, e128_26, e128_28, e128_29, e128_31, e128_33, e128_35, e128_36, e128_38, e128_40, e128_42, true_or, m_psh_s, m_psh_n, m_kl_i, m_kl_f, m_kl_r, m_kl_n, m_kl_j, m_kl_l, m_kl_d, c_i, c_f, c_r, c_n, List.length_nil, List.length_cons, true_and, and_true, Nat.reduceAdd, Nat.reduceLeDiff, Nat.reduceSub, Nat.reduceEqDiff, Nat.reduceLT, ge_iff_le, gt_iff_lt, n_lit, m_in, m_nar0, m_nar1, and_self, not_false_eq_true, not_true_eq_false, ne_eq, reduceIte, ite_self, Nat.reduceMul, Nat.reduceDiv, Nat.reduceMod, Nat.reducePow, Nat.zero_add, Nat.add_zero, Nat.one_mul, Nat.mul_one, n_in, n_min, n_clamp, n_eq_t, n_eq_f, n_eq, n_le_t, n_le_f, n_le, n_lt_t, n_lt_f, n_lt, n_sub0, n_sublt, n_suble, n_negsub, m_up_hit, m_up_miss, m_row_hit, m_row_miss, n_eqm, n_meq, n_meqm, n_ltm, n_lem, n_mlt, n_mle, n_sub, n_div, n_and1, n_shl, n_shr, n_inc, n_mul, n_rem, z_lt, z_le, z_nlt, z_nle, Nat.not_lt_zero, Nat.le_zero_eq, Nat.zero_le, if_true, if_false, m0]
      exact nx _ _ _ _ _ I h Om_refl (bpn fun z => c0 z.1.1)
theorem r_best (hl : ML lay R) (h : MS I F S sp) (w : Wsh S) (hc9 : S 2 ≤ 9) (hc2 : S 68 < 1073741824) (hD : dOK S) (hz : nzT S) (wo : allW S sp) (hd : 5 ≤ d) (hQ : ∀ I', MS I' F S sp → Om I F R I' F → Q (some (.int (q_oI (q_bp S sp 900).1))) I' F R n) : Ev lay d 128 0 [.ref 166, m_j, m_j, m_j, m_j, m_j, m_j, m_j, m_j, m_j] [] I F R n Q := by
  have m0 : lay 166 = (14, 0) := hl.1
  have kn : ∀ (Q : mP), _ := fun Q => r_walksNow (d := d - 1) (n := n) (Q := Q) hl h w hc9 hD hz (by omega)
  have kw : ∀ (Q : mP), _ := fun Q => r_weight (d := d - 1) (n := n) (Q := Q) hl h w (wo S rfl rfl w) (by omega)
  have key := r_best0 (n := n) (Q := Q) hl w hc9 hc2 hD hz wo hd 900 0 m_j m_j m_j m_j m_j I rfl h hQ
  simp (disch := omega) only [e128_0, e128_0N, e128_1, e128_4, e128_5, e128_5N, e128_6, e128_9, e128_10, e128_12, e128_13, e128_14, true_or, m_psh_s, m_psh_n, m_kl_i, m_kl_f, m_kl_r, m_kl_n, m_kl_j, m_kl_l, m_kl_d, c_i, c_f, c_r, c_n, List.length_nil, List.length_cons, true_and, and_true, Nat.reduceAdd, Nat.reduceLeDiff, Nat.reduceSub, Nat.reduceEqDiff, Nat.reduceLT, ge_iff_le, gt_iff_lt, n_lit, m_in, m_nar0, m_nar1, and_self, not_false_eq_true, not_true_eq_false, ne_eq, reduceIte, ite_self, Nat.reduceMul, Nat.reduceDiv, Nat.reduceMod, Nat.reducePow, Nat.zero_add, Nat.add_zero, Nat.one_mul, Nat.mul_one, n_in, n_min, n_clamp, n_eq_t, n_eq_f, n_eq, n_le_t, n_le_f, n_le, n_lt_t, n_lt_f, n_lt, n_sub0, n_sublt, n_suble, n_negsub, m_up_hit, m_up_miss, m_row_hit, m_row_miss, n_eqm, n_meq, n_meqm, n_ltm, n_lem, n_mlt, n_mle, n_sub, n_div, n_and1, n_shl, n_shr, n_inc, n_mul, n_rem, z_lt, z_le, z_nlt, z_nle, Nat.not_lt_zero, Nat.le_zero_eq, Nat.zero_le, if_true, if_false, m0, kn, kw]
  exact key
end MODELC
