section FIND
variable {lay : mL} {d a n : Nat} {I : mI} {F : mF} {R : mR} {Q : mP} {S : Nat → Nat} {sp : Nat → UInt32} {hi : List Nat}
/-- what stays outside of the shed at a, the walker and the mover -/
def Ofw (a : Nat) (I : mI) (F : mF) (R : mR) (I' : mI) (F' : mF) (R' : mR) : Prop := ∀ x, (x < a ∨ a + 13 < x) → (x < 30 ∨ 32 < x) → I' x = I x ∧ F' x = F x ∧ R' x = R x
theorem Ofw_refl : Ofw a I F R I F R := fun x _ _ => ⟨rfl, rfl, rfl⟩
theorem Ofw_trans {I' I'' : mI} {F' F'' : mF} {R' R'' : mR} (h : Ofw a I F R I' F' R') (h' : Ofw a I' F' R' I'' F'' R'') : Ofw a I F R I'' F'' R'' := fun x h1 h2 => ⟨(h' x h1 h2).1.trans (h x h1 h2).1, (h' x h1 h2).2.1.trans (h x h1 h2).2.1, (h' x h1 h2).2.2.trans (h x h1 h2).2.2⟩
theorem Ofw_s {I' : mI} {F' : mF} {R' : mR} (h : Off a (a + 13) I F R I' F' R') : Ofw a I F R I' F' R' := fun x h1 _ => h x h1
theorem Ofw_w {lo hi' : Nat} {I' : mI} {F' : mF} {R' : mR} (h : Off lo hi' I F R I' F' R') (h1 : 30 ≤ lo) (h2 : hi' ≤ 32) : Ofw a I F R I' F' R' := fun x _ h3 => h x (by omega)
theorem q_exS_inv {s o : Nat} (w : Wsh S) (hs : s < 30) (ho : o < 30) : q_exS (q_exS S s o) s o = S := by
  have w' := Wsh_ex w hs ho
  funext j
  by_cases c : ∃ g, g < S 3 ∧ j = 4 + 4 * g
  · obtain ⟨g, hg, rfl⟩ := c
    rw [q_exS_pos w' (by rw [q_exS_k (by omega)]; exact hg), q_exS_pos w hg]
    unfold q_tau
    repeat' split
    all_goals omega
  · have mv : ∀ (T : Nat → Nat) (x : Option Nat) (y : Nat), (∀ g, x = some g → g < S 3) → q_mv T x y j = T j := by
      intro T x y hx
      cases x with
      | none => rfl
      | some g => exact up1_miss fun e => c ⟨g, hx g rfl, e⟩
    have e3 : q_exS S s o 3 = S 3 := q_exS_k (by omega)
    have ex : ∀ (T : Nat → Nat), T 3 = S 3 → q_exS T s o j = T j := by
      intro T hT
      unfold q_exS
      rw [mv _ _ _ (fun g e => hT ▸ q_gi_lt e), mv _ _ _ (fun g e => hT ▸ q_gi_lt e)]
    rw [ex _ e3, ex S rfl]
abbrev q_nlt (x y : UInt32) : Prop := nI 0 ≤ Op.cmpValue (FP.fcmp x y) .g
abbrev q_mm (S : Nat → Nat) (s o : Nat) : Prop := (q_gi S s ≠ none ∨ q_gi S o ≠ none) ∧ S 68 / 2 ^ s % 2 = 0 ∧ S 68 / 2 ^ o % 2 = 0
def q_wo (S : Nat → Nat) (sp : Nat → UInt32) (s o : Nat) : UInt32 := q_wsum (q_exS S s o) sp (S 3)
def q_bp (S : Nat → Nat) (sp : Nat → UInt32) : Nat → Option Nat × UInt32
  | 0 => (none, q_wsum S sp (S 3))
  | p + 1 => if (p / 30 < p % 30 ∧ q_mm S (p / 30) (p % 30)) ∧ ¬ q_nlt (q_wo S sp (p / 30) (p % 30)) (q_bp S sp p).2 ∧ q_tws (q_exS S (p / 30) (p % 30)) (S 69) ≤ q_tws S (S 69) then (some p, q_wo S sp (p / 30) (p % 30)) else q_bp S sp p
theorem q_bp_s {s o : Nat} (hs : s < 30) (ho : o < 30) : q_bp S sp (30 * s + o + 1) = if (s < o ∧ q_mm S s o) ∧ ¬ q_nlt (q_wo S sp s o) (q_bp S sp (30 * s + o)).2 ∧ q_tws (q_exS S s o) (S 69) ≤ q_tws S (S 69) then (some (30 * s + o), q_wo S sp s o) else q_bp S sp (30 * s + o) := by
  rw [q_bp, show (30 * s + o) / 30 = s by omega, show (30 * s + o) % 30 = o by omega]
theorem q_bp_n {s o : Nat} (hs : s < 30) (ho : o < 30) (h : ¬ ((s < o ∧ q_mm S s o) ∧ ¬ q_nlt (q_wo S sp s o) (q_bp S sp (30 * s + o)).2 ∧ q_tws (q_exS S s o) (S 69) ≤ q_tws S (S 69))) : q_bp S sp (30 * s + o + 1) = q_bp S sp (30 * s + o) := by
  rw [q_bp_s hs ho, if_neg h]
theorem q_bp_low {s k : Nat} (hs : s < 30) (hk : k ≤ s + 1) : q_bp S sp (30 * s + k) = q_bp S sp (30 * s) := by
  induction k with
  | zero => rfl
  | succ k ih =>
    rw [← Nat.add_assoc, q_bp_n hs (by omega) (fun h => by have := h.1.1; omega), ih (by omega)]
def q_loI : Option Nat → Int32
  | none => -nI 6
  | some p => nI (p / 30)
def q_hiI : Option Nat → Int32
  | none => -nI 6
  | some p => nI (p % 30)
def MV (lay : mL) (R : mR) : Prop := lay 32 = (8, 0) ∧ m_rv (R 32 0) = .ref 30
/-- the weights of all rows that a swap can make can be reckoned -/
def allW (S : Nat → Nat) (sp : Nat → UInt32) : Prop := ∀ T, T 3 = S 3 → T 2 = S 2 → Wsh T → q_wok T sp
theorem dOK_ex {s o : Nat} (w : Wsh S) (hD : dOK S) : dOK (q_exS S s o) := by
  unfold dOK bOK
  rw [q_exS_hi w.1 (by omega), q_exS_k (by omega)]
  refine ⟨hD.1, fun k hk => ?_⟩
  rw [q_exS_hi w.1 (by omega)]
  exact hD.2 k hk
theorem CSh_up32 {k : Nat} {v : Int32} (h : CSh lay I F R n a S sp hi) (ha : a + 13 < 30 ∨ 32 < a) : CSh lay (m_up I 32 k v) F R n a S sp hi := CSh_off (lo := 32) (hi' := 32) h (Off_I (by omega) (by omega)) (by omega) (Nat.le_refl _) (by omega)
theorem s_find1 {s : Nat} (w : Wsh S) (hc9 : S 2 ≤ 9) (hc2 : S 68 < 1073741824) (hD : dOK S) (wo : allW S sp) (hw : WK lay R) (hv : MV lay R) (hd : 3 ≤ d) (ha : a + 13 < 30 ∨ 32 < a ∧ a + 13 < 180) (hs : s < 30) (j : Nat) : ∀ (o : Nat) (v6 : Value) (I : mI), o + j = 30 → s < o → CSh lay I F R n a S sp hi → I 32 1 = q_loI (q_bp S sp (30 * s + o)).1 → I 32 2 = q_hiI (q_bp S sp (30 * s + o)).1 →
    (∀ I' v6, CSh lay I' F R n a S sp hi → Ofw a I F R I' F R → I' 32 1 = q_loI (q_bp S sp (30 * s + 30)).1 → I' 32 2 = q_hiI (q_bp S sp (30 * s + 30)).1 → Ev lay d 44 125 [.ref 32, .ref a, .float (q_bp S sp (30 * s + 30)).2, .int (nI (q_tws S (S 69))), .int (nI s), .int (nI 30), v6] [] I' F R n Q) →
    Ev lay d 44 42 [.ref 32, .ref a, .float (q_bp S sp (30 * s + o)).2, .int (nI (q_tws S (S 69))), .int (nI s), .int (nI o), v6] [] I F R n Q := by
  obtain ⟨v1, v2⟩ := hv
  have ha1 : a + 13 < 180 := by omega
  have hD1 := hD.1
  have hlim := q_tws_le w hc9 hD (S 69) (Nat.le_refl _)
  induction j with
  | zero =>
    intro o v6 I hj hso h i1 i2 hQ
    have ho : o = 30 := by omega
    subst ho
    have key := hQ I v6 h Ofw_refl i1 i2
    rw [e44_42]
    simp (disch := omega) only [e44_44, e44_46, e44_49, e44_49N, e44_50, true_or, m_psh_s, m_psh_n, m_kl_i, m_kl_f, m_kl_r, m_kl_n, m_kl_j, m_kl_l, m_kl_d, c_i, c_f, c_r, c_n, List.length_nil, List.length_cons, true_and, and_true, Nat.reduceAdd, Nat.reduceLeDiff, Nat.reduceSub, Nat.reduceEqDiff, Nat.reduceLT, ge_iff_le, gt_iff_lt, n_lit, m_in, m_nar0, m_nar1, and_self, not_false_eq_true, not_true_eq_false, ne_eq, reduceIte, ite_self, Nat.reduceMul, Nat.reduceDiv, Nat.reduceMod, Nat.reducePow, Nat.zero_add, Nat.add_zero, Nat.one_mul, Nat.mul_one, n_in, n_min, n_clamp, n_eq_t, n_eq_f, n_eq, n_le_t, n_le_f, n_le, n_lt_t, n_lt_f, n_lt, n_sub0, n_sublt, n_suble, n_negsub, m_up_hit, m_up_miss, m_row_hit, m_row_miss, n_eqm, n_meq, n_meqm, n_ltm, n_lem, n_mlt, n_mle, n_sub, n_div, n_and1, n_shl, n_shr, n_inc, n_mul, n_rem, z_lt, z_le, z_nlt, z_nle, Nat.not_lt_zero, Nat.le_zero_eq, Nat.zero_le, if_true, if_false]
    exact key
  | succ j ih =>
    intro o v6 I hj hso h i1 i2 hQ
    have ho : o < 30 := by omega
    have wX := Wsh_ex w hs ho
    have e3 : q_exS S s o 3 = S 3 := q_exS_k (by omega)
    have e2 : q_exS S s o 2 = S 2 := q_exS_k (by omega)
    have e69 : q_exS S s o 69 = S 69 := q_exS_hi w.1 (by omega)
    have l1 : (lay a) = (11, 0) := h.1.1
    have nx : ∀ I1 v6, CSh lay I1 F R n a S sp hi → Ofw a I F R I1 F R → I1 32 1 = I 32 1 → I1 32 2 = I 32 2 → q_bp S sp (30 * s + o + 1) = q_bp S sp (30 * s + o) → Ev lay d 44 119 [.ref 32, .ref a, .float (q_bp S sp (30 * s + o)).2, .int (nI (q_tws S (S 69))), .int (nI s), .int (nI o), v6] [] I1 F R n Q := by
      intro I1 v6 h1 o1 j1 j2 eq
      have key := ih (o + 1) v6 I1 (by omega) (by omega) h1 (by rw [j1, i1, ← Nat.add_assoc, eq]) (by rw [j2, i2, ← Nat.add_assoc, eq]) (fun I' v6 t1 t2 t3 t4 => hQ I' v6 t1 (Ofw_trans o1 t2) t3 t4)
      rw [← Nat.add_assoc, eq] at key
      simp (disch := omega) only [e44_119, e44_122, true_or, m_psh_s, m_psh_n, m_kl_i, m_kl_f, m_kl_r, m_kl_n, m_kl_j, m_kl_l, m_kl_d, c_i, c_f, c_r, c_n, List.length_nil, List.length_cons, true_and, and_true, Nat.reduceAdd, Nat.reduceLeDiff, Nat.reduceSub, Nat.reduceEqDiff, Nat.reduceLT, ge_iff_le, gt_iff_lt, n_lit, m_in, m_nar0, m_nar1, and_self, not_false_eq_true, not_true_eq_false, ne_eq, reduceIte, ite_self, Nat.reduceMul, Nat.reduceDiv, Nat.reduceMod, Nat.reducePow, Nat.zero_add, Nat.add_zero, Nat.one_mul, Nat.mul_one, n_in, n_min, n_clamp, n_eq_t, n_eq_f, n_eq, n_le_t, n_le_f, n_le, n_lt_t, n_lt_f, n_lt, n_sub0, n_sublt, n_suble, n_negsub, m_up_hit, m_up_miss, m_row_hit, m_row_miss, n_eqm, n_meq, n_meqm, n_ltm, n_lem, n_mlt, n_mle, n_sub, n_div, n_and1, n_shl, n_shr, n_inc, n_mul, n_rem, z_lt, z_le, z_nlt, z_nle, Nat.not_lt_zero, Nat.le_zero_eq, Nat.zero_le, if_true, if_false]
      exact key
    rw [e44_42]
    simp (disch := omega) only [e44_44, e44_46, e44_49, e44_49N, e44_50, e44_52, e44_54, true_or, m_psh_s, m_psh_n, m_kl_i, m_kl_f, m_kl_r, m_kl_n, m_kl_j, m_kl_l, m_kl_d, c_i, c_f, c_r, c_n, List.length_nil, List.length_cons, true_and, and_true, Nat.reduceAdd, Nat.reduceLeDiff, Nat.reduceSub, Nat.reduceEqDiff, Nat.reduceLT, ge_iff_le, gt_iff_lt, n_lit, m_in, m_nar0, m_nar1, and_self, not_false_eq_true, not_true_eq_false, ne_eq, reduceIte, ite_self, Nat.reduceMul, Nat.reduceDiv, Nat.reduceMod, Nat.reducePow, Nat.zero_add, Nat.add_zero, Nat.one_mul, Nat.mul_one, n_in, n_min, n_clamp, n_eq_t, n_eq_f, n_eq, n_le_t, n_le_f, n_le, n_lt_t, n_lt_f, n_lt, n_sub0, n_sublt, n_suble, n_negsub, m_up_hit, m_up_miss, m_row_hit, m_row_miss, n_eqm, n_meq, n_meqm, n_ltm, n_lem, n_mlt, n_mle, n_sub, n_div, n_and1, n_shl, n_shr, n_inc, n_mul, n_rem, z_lt, z_le, z_nlt, z_nle, Nat.not_lt_zero, Nat.le_zero_eq, Nat.zero_le, if_true, if_false, l1]
    apply (s_mayMove (c := 0) h hs ho hc2 w.1 (by omega)).mpr
    by_cases c : q_mm S s o
    · rw [if_pos c]
      simp (disch := omega) only [e44_57, e44_60, e44_63, e44_63N, e44_64, e44_66, e44_68, true_or, m_psh_s, m_psh_n, m_kl_i, m_kl_f, m_kl_r, m_kl_n, m_kl_j, m_kl_l, m_kl_d, c_i, c_f, c_r, c_n, List.length_nil, List.length_cons, true_and, and_true, Nat.reduceAdd, Nat.reduceLeDiff, Nat.reduceSub, Nat.reduceEqDiff, Nat.reduceLT, ge_iff_le, gt_iff_lt, n_lit, m_in, m_nar0, m_nar1, and_self, not_false_eq_true, not_true_eq_false, ne_eq, reduceIte, ite_self, Nat.reduceMul, Nat.reduceDiv, Nat.reduceMod, Nat.reducePow, Nat.zero_add, Nat.add_zero, Nat.one_mul, Nat.mul_one, n_in, n_min, n_clamp, n_eq_t, n_eq_f, n_eq, n_le_t, n_le_f, n_le, n_lt_t, n_lt_f, n_lt, n_sub0, n_sublt, n_suble, n_negsub, m_up_hit, m_up_miss, m_row_hit, m_row_miss, n_eqm, n_meq, n_meqm, n_ltm, n_lem, n_mlt, n_mle, n_sub, n_div, n_and1, n_shl, n_shr, n_inc, n_mul, n_rem, z_lt, z_le, z_nlt, z_nle, Nat.not_lt_zero, Nat.le_zero_eq, Nat.zero_le, if_true, if_false, l1]
      apply s_exchange h w ha1 hs ho (by omega)
      intro I1 h1 o1
      simp (disch := omega) only [e44_71, e44_71N, e44_72, true_or, m_psh_s, m_psh_n, m_kl_i, m_kl_f, m_kl_r, m_kl_n, m_kl_j, m_kl_l, m_kl_d, c_i, c_f, c_r, c_n, List.length_nil, List.length_cons, true_and, and_true, Nat.reduceAdd, Nat.reduceLeDiff, Nat.reduceSub, Nat.reduceEqDiff, Nat.reduceLT, ge_iff_le, gt_iff_lt, n_lit, m_in, m_nar0, m_nar1, and_self, not_false_eq_true, not_true_eq_false, ne_eq, reduceIte, ite_self, Nat.reduceMul, Nat.reduceDiv, Nat.reduceMod, Nat.reducePow, Nat.zero_add, Nat.add_zero, Nat.one_mul, Nat.mul_one, n_in, n_min, n_clamp, n_eq_t, n_eq_f, n_eq, n_le_t, n_le_f, n_le, n_lt_t, n_lt_f, n_lt, n_sub0, n_sublt, n_suble, n_negsub, m_up_hit, m_up_miss, m_row_hit, m_row_miss, n_eqm, n_meq, n_meqm, n_ltm, n_lem, n_mlt, n_mle, n_sub, n_div, n_and1, n_shl, n_shr, n_inc, n_mul, n_rem, z_lt, z_le, z_nlt, z_nle, Nat.not_lt_zero, Nat.le_zero_eq, Nat.zero_le, if_true, if_false, l1]
      apply (s_weight h1 wX (wo _ e3 e2 wX) (by omega)).mpr
      have back : ∀ I2 v6, CSh lay I2 F R n a (q_exS S s o) sp hi → Ofw a I F R I2 F R → I2 32 1 = I 32 1 → I2 32 2 = I 32 2 → q_bp S sp (30 * s + o + 1) = q_bp S sp (30 * s + o) → Ev lay d 44 111 [.ref 32, .ref a, .float (q_bp S sp (30 * s + o)).2, .int (nI (q_tws S (S 69))), .int (nI s), .int (nI o), v6] [] I2 F R n Q := by
        intro I2 v6 h2 o2 j1 j2 eq
        simp (disch := omega) only [e44_111, e44_111N, e44_112, e44_114, e44_116, true_or, m_psh_s, m_psh_n, m_kl_i, m_kl_f, m_kl_r, m_kl_n, m_kl_j, m_kl_l, m_kl_d, c_i, c_f, c_r, c_n, List.length_nil, List.length_cons, true_and, and_true, Nat.reduceAdd, Nat.reduceLeDiff, Nat.reduceSub, Nat.reduceEqDiff, Nat.reduceLT, ge_iff_le, gt_iff_lt, n_lit, m_in, m_nar0, m_nar1, and_self, not_false_eq_true, not_true_eq_false, ne_eq, reduceIte, ite_self, Nat.reduceMul, Nat.reduceDiv, Nat.reduceMod, Nat.reducePow, Nat.zero_add, Nat.add_zero, Nat.one_mul, Nat.mul_one, n_in, n_min, n_clamp, n_eq_t, n_eq_f, n_eq, n_le_t, n_le_f, n_le, n_lt_t, n_lt_f, n_lt, n_sub0, n_sublt, n_suble, n_negsub, m_up_hit, m_up_miss, m_row_hit, m_row_miss, n_eqm, n_meq, n_meqm, n_ltm, n_lem, n_mlt, n_mle, n_sub, n_div, n_and1, n_shl, n_shr, n_inc, n_mul, n_rem, z_lt, z_le, z_nlt, z_nle, Nat.not_lt_zero, Nat.le_zero_eq, Nat.zero_le, if_true, if_false, l1]
        apply s_exchange h2 wX ha1 hs ho (by omega)
        intro I3 h3 o3
        rw [q_exS_inv w hs ho] at h3
        have := o3 32 (by omega)
        exact nx I3 v6 h3 (Ofw_trans o2 (Ofw_s o3)) (by rw [this.1, j1]) (by rw [this.1, j2]) eq
      have m1 := (o1 32 (by omega)).1
      have ew : q_wsum (q_exS S s o) sp (q_exS S s o 3) = q_wo S sp s o := by rw [e3]; rfl
      rw [ew]
      by_cases c2 : nI 0 ≤ Op.cmpValue (FP.fcmp (q_wo S sp s o) (q_bp S sp (30 * s + o)).2) .g
      · have key := back I1 (.float (q_wo S sp s o)) h1 (Ofw_s o1) (by rw [m1]) (by rw [m1]) (q_bp_n hs ho fun x => x.2.1 c2)
        simp (disch := omega) only [e44_75, e44_77, e44_79, e44_80, e44_81, e44_84, e44_84N, e44_85, e44_88, e44_88N, e44_89, e44_92, e44_93, e44_96, e44_98, e44_99, e44_99N, e44_100, e44_102, e44_105, e44_105N, e44_106, e44_108, true_or, m_psh_s, m_psh_n, m_kl_i, m_kl_f, m_kl_r, m_kl_n, m_kl_j, m_kl_l, m_kl_d, c_i, c_f, c_r, c_n, List.length_nil, List.length_cons, true_and, and_true, Nat.reduceAdd, Nat.reduceLeDiff, Nat.reduceSub, Nat.reduceEqDiff, Nat.reduceLT, ge_iff_le, gt_iff_lt, n_lit, m_in, m_nar0, m_nar1, and_self, not_false_eq_true, not_true_eq_false, ne_eq, reduceIte, ite_self, Nat.reduceMul, Nat.reduceDiv, Nat.reduceMod, Nat.reducePow, Nat.zero_add, Nat.add_zero, Nat.one_mul, Nat.mul_one, n_in, n_min, n_clamp, n_eq_t, n_eq_f, n_eq, n_le_t, n_le_f, n_le, n_lt_t, n_lt_f, n_lt, n_sub0, n_sublt, n_suble, n_negsub, m_up_hit, m_up_miss, m_row_hit, m_row_miss, n_eqm, n_meq, n_meqm, n_ltm, n_lem, n_mlt, n_mle, n_sub, n_div, n_and1, n_shl, n_shr, n_inc, n_mul, n_rem, z_lt, z_le, z_nlt, z_nle, Nat.not_lt_zero, Nat.le_zero_eq, Nat.zero_le, if_true, if_false, c2]
        exact key
      · simp (disch := omega) only [e44_75, e44_77, e44_79, e44_80, e44_81, e44_84, e44_84N, e44_85, e44_88, e44_88N, e44_89, true_or, m_psh_s, m_psh_n, m_kl_i, m_kl_f, m_kl_r, m_kl_n, m_kl_j, m_kl_l, m_kl_d, c_i, c_f, c_r, c_n, List.length_nil, List.length_cons, true_and, and_true, Nat.reduceAdd, Nat.reduceLeDiff, Nat.reduceSub, Nat.reduceEqDiff, Nat.reduceLT, ge_iff_le, gt_iff_lt, n_lit, m_in, m_nar0, m_nar1, and_self, not_false_eq_true, not_true_eq_false, ne_eq, reduceIte, ite_self, Nat.reduceMul, Nat.reduceDiv, Nat.reduceMod, Nat.reducePow, Nat.zero_add, Nat.add_zero, Nat.one_mul, Nat.mul_one, n_in, n_min, n_clamp, n_eq_t, n_eq_f, n_eq, n_le_t, n_le_f, n_le, n_lt_t, n_lt_f, n_lt, n_sub0, n_sublt, n_suble, n_negsub, m_up_hit, m_up_miss, m_row_hit, m_row_miss, n_eqm, n_meq, n_meqm, n_ltm, n_lem, n_mlt, n_mle, n_sub, n_div, n_and1, n_shl, n_shr, n_inc, n_mul, n_rem, z_lt, z_le, z_nlt, z_nle, Nat.not_lt_zero, Nat.le_zero_eq, Nat.zero_le, if_true, if_false, c2, v1, v2, hw.1]
        apply s_tgo h1 wX (by rw [e2]; exact hc9) (dOK_ex w hD) hw (by omega) (by omega)
        intro I2 o2
        have h2 := CSh_off h1 o2 (by omega) (Nat.le_refl _) (by omega)
        have m2 := (o2 32 (by omega)).1
        have hl2 := q_tws_le wX (by rw [e2]; exact hc9) (dOK_ex w hD) (S 69) (by rw [e69]; exact Nat.le_refl _)
        rw [e69]
        by_cases c3 : q_tws (q_exS S s o) (S 69) ≤ q_tws S (S 69)
        · have eq : q_bp S sp (30 * s + o + 1) = (some (30 * s + o), q_wo S sp s o) := by
            rw [q_bp_s hs ho, if_pos ⟨⟨hso, c⟩, c2, c3⟩]
          simp (disch := omega) only [e44_92, e44_93, e44_96, e44_98, e44_99, e44_99N, e44_100, e44_102, e44_105, e44_105N, e44_106, e44_108, e44_111, e44_111N, e44_112, e44_114, e44_116, true_or, m_psh_s, m_psh_n, m_kl_i, m_kl_f, m_kl_r, m_kl_n, m_kl_j, m_kl_l, m_kl_d, c_i, c_f, c_r, c_n, List.length_nil, List.length_cons, true_and, and_true, Nat.reduceAdd, Nat.reduceLeDiff, Nat.reduceSub, Nat.reduceEqDiff, Nat.reduceLT, ge_iff_le, gt_iff_lt, n_lit, m_in, m_nar0, m_nar1, and_self, not_false_eq_true, not_true_eq_false, ne_eq, reduceIte, ite_self, Nat.reduceMul, Nat.reduceDiv, Nat.reduceMod, Nat.reducePow, Nat.zero_add, Nat.add_zero, Nat.one_mul, Nat.mul_one, n_in, n_min, n_clamp, n_eq_t, n_eq_f, n_eq, n_le_t, n_le_f, n_le, n_lt_t, n_lt_f, n_lt, n_sub0, n_sublt, n_suble, n_negsub, m_up_hit, m_up_miss, m_row_hit, m_row_miss, n_eqm, n_meq, n_meqm, n_ltm, n_lem, n_mlt, n_mle, n_sub, n_div, n_and1, n_shl, n_shr, n_inc, n_mul, n_rem, z_lt, z_le, z_nlt, z_nle, Nat.not_lt_zero, Nat.le_zero_eq, Nat.zero_le, if_true, if_false, l1, v1]
          apply s_exchange (CSh_up32 (CSh_up32 h2 (by omega)) (by omega)) wX ha1 hs ho (by omega)
          intro I3 h3 o3
          rw [q_exS_inv w hs ho] at h3
          have m3 := (o3 32 (by omega)).1
          have oo : Ofw a I F R I3 F R := Ofw_trans (Ofw_s o1) (Ofw_trans (Ofw_w o2 (by omega) (by omega)) (Ofw_trans (Ofw_trans (Ofw_w (Off_I (a := 32) (b := 32) (by omega) (by omega)) (by omega) (by omega)) (Ofw_w (Off_I (a := 32) (b := 32) (by omega) (by omega)) (by omega) (by omega))) (Ofw_s o3)))
          have key := ih (o + 1) (.float (q_wo S sp s o)) I3 (by omega) (by omega) h3 (by rw [m3, ← Nat.add_assoc, eq, m_up_miss (by omega), m_up_at]; show _ = nI ((30 * s + o) / 30); congr 1; omega) (by rw [m3, ← Nat.add_assoc, eq, m_up_at]; show _ = nI ((30 * s + o) % 30); congr 1; omega) (fun I' v6 t1 t2 t3 t4 => hQ I' v6 t1 (Ofw_trans oo t2) t3 t4)
          rw [← Nat.add_assoc, eq] at key
          simp (disch := omega) only [e44_119, e44_122, true_or, m_psh_s, m_psh_n, m_kl_i, m_kl_f, m_kl_r, m_kl_n, m_kl_j, m_kl_l, m_kl_d, c_i, c_f, c_r, c_n, List.length_nil, List.length_cons, true_and, and_true, Nat.reduceAdd, Nat.reduceLeDiff, Nat.reduceSub, Nat.reduceEqDiff, Nat.reduceLT, ge_iff_le, gt_iff_lt, n_lit, m_in, m_nar0, m_nar1, and_self, not_false_eq_true, not_true_eq_false, ne_eq, reduceIte, ite_self, Nat.reduceMul, Nat.reduceDiv, Nat.reduceMod, Nat.reducePow, Nat.zero_add, Nat.add_zero, Nat.one_mul, Nat.mul_one, n_in, n_min, n_clamp, n_eq_t, n_eq_f, n_eq, n_le_t, n_le_f, n_le, n_lt_t, n_lt_f, n_lt, n_sub0, n_sublt, n_suble, n_negsub, m_up_hit, m_up_miss, m_row_hit, m_row_miss, n_eqm, n_meq, n_meqm, n_ltm, n_lem, n_mlt, n_mle, n_sub, n_div, n_and1, n_shl, n_shr, n_inc, n_mul, n_rem, z_lt, z_le, z_nlt, z_nle, Nat.not_lt_zero, Nat.le_zero_eq, Nat.zero_le, if_true, if_false]
          exact key
        · have key := back I2 (.float (q_wo S sp s o)) h2 (Ofw_trans (Ofw_s o1) (Ofw_w o2 (by omega) (by omega))) (by rw [m2, m1]) (by rw [m2, m1]) (q_bp_n hs ho fun x => c3 x.2.2)
          simp (disch := omega) only [e44_92, e44_93, e44_96, e44_98, e44_99, e44_99N, e44_100, e44_102, e44_105, e44_105N, e44_106, e44_108, true_or, m_psh_s, m_psh_n, m_kl_i, m_kl_f, m_kl_r, m_kl_n, m_kl_j, m_kl_l, m_kl_d, c_i, c_f, c_r, c_n, List.length_nil, List.length_cons, true_and, and_true, Nat.reduceAdd, Nat.reduceLeDiff, Nat.reduceSub, Nat.reduceEqDiff, Nat.reduceLT, ge_iff_le, gt_iff_lt, n_lit, m_in, m_nar0, m_nar1, and_self, not_false_eq_true, not_true_eq_false, ne_eq, reduceIte, ite_self, Nat.reduceMul, Nat.reduceDiv, Nat.reduceMod, Nat.reducePow, Nat.zero_add, Nat.add_zero, Nat.one_mul, Nat.mul_one, n_in, n_min, n_clamp, n_eq_t, n_eq_f, n_eq, n_le_t, n_le_f, n_le, n_lt_t, n_lt_f, n_lt, n_sub0, n_sublt, n_suble, n_negsub, m_up_hit, m_up_miss, m_row_hit, m_row_miss, n_eqm, n_meq, n_meqm, n_ltm, n_lem, n_mlt, n_mle, n_sub, n_div, n_and1, n_shl, n_shr, n_inc, n_mul, n_rem, z_lt, z_le, z_nlt, z_nle, Nat.not_lt_zero, Nat.le_zero_eq, Nat.zero_le, if_true, if_false]
          exact key
    · rw [if_neg c]
      simp (disch := omega) only [e44_57, e44_60, true_or, m_psh_s, m_psh_n, m_kl_i, m_kl_f, m_kl_r, m_kl_n, m_kl_j, m_kl_l, m_kl_d, c_i, c_f, c_r, c_n, List.length_nil, List.length_cons, true_and, and_true, Nat.reduceAdd, Nat.reduceLeDiff, Nat.reduceSub, Nat.reduceEqDiff, Nat.reduceLT, ge_iff_le, gt_iff_lt, n_lit, m_in, m_nar0, m_nar1, and_self, not_false_eq_true, not_true_eq_false, ne_eq, reduceIte, ite_self, Nat.reduceMul, Nat.reduceDiv, Nat.reduceMod, Nat.reducePow, Nat.zero_add, Nat.add_zero, Nat.one_mul, Nat.mul_one, n_in, n_min, n_clamp, n_eq_t, n_eq_f, n_eq, n_le_t, n_le_f, n_le, n_lt_t, n_lt_f, n_lt, n_sub0, n_sublt, n_suble, n_negsub, m_up_hit, m_up_miss, m_row_hit, m_row_miss, n_eqm, n_meq, n_meqm, n_ltm, n_lem, n_mlt, n_mle, n_sub, n_div, n_and1, n_shl, n_shr, n_inc, n_mul, n_rem, z_lt, z_le, z_nlt, z_nle, Nat.not_lt_zero, Nat.le_zero_eq, Nat.zero_le, if_true, if_false]
      exact nx I v6 h Ofw_refl rfl rfl (q_bp_n hs ho fun x => c x.1.2)
theorem s_find0 (w : Wsh S) (hc9 : S 2 ≤ 9) (hc2 : S 68 < 1073741824) (hD : dOK S) (wo : allW S sp) (hw : WK lay R) (hv : MV lay R) (hd : 3 ≤ d) (ha : a + 13 < 30 ∨ 32 < a ∧ a + 13 < 180) (j : Nat) : ∀ (s : Nat) (v5 v6 : Value) (I : mI), s + j = 30 → CSh lay I F R n a S sp hi → I 32 1 = q_loI (q_bp S sp (30 * s)).1 → I 32 2 = q_hiI (q_bp S sp (30 * s)).1 → m_kl v5 = v5 →
    (∀ I', CSh lay I' F R n a S sp hi → Ofw a I F R I' F R → I' 32 1 = q_loI (q_bp S sp 900).1 → I' 32 2 = q_hiI (q_bp S sp 900).1 → Q (some (.int (nI (if (q_bp S sp 900).1 = none then 0 else 1)))) I' F R n) →
    Ev lay d 44 29 [.ref 32, .ref a, .float (q_bp S sp (30 * s)).2, .int (nI (q_tws S (S 69))), .int (nI s), v5, v6] [] I F R n Q := by
  have hv' := hv
  obtain ⟨v1, v2⟩ := hv
  induction j with
  | zero =>
    intro s v5 v6 I hj h i1 i2 _ hQ
    have hs : s = 30 := by omega
    subst hs
    have key := hQ I h Ofw_refl i1 i2
    rw [e44_29]
    rw [show 30 * 30 = 900 from rfl] at *
    cases e : (q_bp S sp 900).1 with
    | none =>
      rw [e] at key i1
      simp (disch := omega) only [e44_31, e44_33, e44_131, e44_131N, e44_132, e44_135, e44_137, e44_140, e44_141, e44_144, e44_145, true_or, m_psh_s, m_psh_n, m_kl_i, m_kl_f, m_kl_r, m_kl_n, m_kl_j, m_kl_l, m_kl_d, c_i, c_f, c_r, c_n, List.length_nil, List.length_cons, true_and, and_true, Nat.reduceAdd, Nat.reduceLeDiff, Nat.reduceSub, Nat.reduceEqDiff, Nat.reduceLT, ge_iff_le, gt_iff_lt, n_lit, m_in, m_nar0, m_nar1, and_self, not_false_eq_true, not_true_eq_false, ne_eq, reduceIte, ite_self, Nat.reduceMul, Nat.reduceDiv, Nat.reduceMod, Nat.reducePow, Nat.zero_add, Nat.add_zero, Nat.one_mul, Nat.mul_one, n_in, n_min, n_clamp, n_eq_t, n_eq_f, n_eq, n_le_t, n_le_f, n_le, n_lt_t, n_lt_f, n_lt, n_sub0, n_sublt, n_suble, n_negsub, m_up_hit, m_up_miss, m_row_hit, m_row_miss, n_eqm, n_meq, n_meqm, n_ltm, n_lem, n_mlt, n_mle, n_sub, n_div, n_and1, n_shl, n_shr, n_inc, n_mul, n_rem, z_lt, z_le, z_nlt, z_nle, Nat.not_lt_zero, Nat.le_zero_eq, Nat.zero_le, if_true, if_false, v1, i1, q_loI]
      exact key
    | some p =>
      rw [e] at key i1
      have hp : p / 30 < 2147483648 := by
        have : ∀ m p, (q_bp S sp m).1 = some p → p < m := by
          intro m
          induction m with
          | zero => intro p h; cases h
          | succ m ihm =>
            intro p h
            rw [q_bp] at h
            split at h
            · cases h; omega
            · have := ihm p h; omega
        have := this 900 p e
        omega
      rw [if_neg nofun] at key
      simp (disch := omega) only [e44_31, e44_33, e44_131, e44_131N, e44_132, e44_135, e44_137, e44_140, e44_141, e44_144, e44_145, true_or, m_psh_s, m_psh_n, m_kl_i, m_kl_f, m_kl_r, m_kl_n, m_kl_j, m_kl_l, m_kl_d, c_i, c_f, c_r, c_n, List.length_nil, List.length_cons, true_and, and_true, Nat.reduceAdd, Nat.reduceLeDiff, Nat.reduceSub, Nat.reduceEqDiff, Nat.reduceLT, ge_iff_le, gt_iff_lt, n_lit, m_in, m_nar0, m_nar1, and_self, not_false_eq_true, not_true_eq_false, ne_eq, reduceIte, ite_self, Nat.reduceMul, Nat.reduceDiv, Nat.reduceMod, Nat.reducePow, Nat.zero_add, Nat.add_zero, Nat.one_mul, Nat.mul_one, n_in, n_min, n_clamp, n_eq_t, n_eq_f, n_eq, n_le_t, n_le_f, n_le, n_lt_t, n_lt_f, n_lt, n_sub0, n_sublt, n_suble, n_negsub, m_up_hit, m_up_miss, m_row_hit, m_row_miss, n_eqm, n_meq, n_meqm, n_ltm, n_lem, n_mlt, n_mle, n_sub, n_div, n_and1, n_shl, n_shr, n_inc, n_mul, n_rem, z_lt, z_le, z_nlt, z_nle, Nat.not_lt_zero, Nat.le_zero_eq, Nat.zero_le, if_true, if_false, v1, i1, q_loI]
      exact key
  | succ j ih =>
    intro s v5 v6 I hj h i1 i2 hv5 hQ
    have el : q_bp S sp (30 * s + (s + 1)) = q_bp S sp (30 * s) := q_bp_low (by omega) (Nat.le_refl _)
    rw [e44_29]
    by_cases c : s = 29
    · have e30 : 30 * (s + 1) = 30 * s + (s + 1) := by omega
      have key := ih (s + 1) (.int (nI 30)) v6 I (by omega) h (by rw [e30, el]; exact i1) (by rw [e30, el]; exact i2) rfl hQ
      rw [e30, el] at key
      subst c
      simp (disch := omega) only [e44_31, e44_33, e44_36, e44_38, e44_39, e44_40, true_or, m_psh_s, m_psh_n, m_kl_i, m_kl_f, m_kl_r, m_kl_n, m_kl_j, m_kl_l, m_kl_d, c_i, c_f, c_r, c_n, List.length_nil, List.length_cons, true_and, and_true, Nat.reduceAdd, Nat.reduceLeDiff, Nat.reduceSub, Nat.reduceEqDiff, Nat.reduceLT, ge_iff_le, gt_iff_lt, n_lit, m_in, m_nar0, m_nar1, and_self, not_false_eq_true, not_true_eq_false, ne_eq, reduceIte, ite_self, Nat.reduceMul, Nat.reduceDiv, Nat.reduceMod, Nat.reducePow, Nat.zero_add, Nat.add_zero, Nat.one_mul, Nat.mul_one, n_in, n_min, n_clamp, n_eq_t, n_eq_f, n_eq, n_le_t, n_le_f, n_le, n_lt_t, n_lt_f, n_lt, n_sub0, n_sublt, n_suble, n_negsub, m_up_hit, m_up_miss, m_row_hit, m_row_miss, n_eqm, n_meq, n_meqm, n_ltm, n_lem, n_mlt, n_mle, n_sub, n_div, n_and1, n_shl, n_shr, n_inc, n_mul, n_rem, z_lt, z_le, z_nlt, z_nle, Nat.not_lt_zero, Nat.le_zero_eq, Nat.zero_le, if_true, if_false]
      rw [e44_42]
      simp (disch := omega) only [e44_44, e44_46, e44_49, e44_49N, e44_50, e44_125, e44_128, true_or, m_psh_s, m_psh_n, m_kl_i, m_kl_f, m_kl_r, m_kl_n, m_kl_j, m_kl_l, m_kl_d, c_i, c_f, c_r, c_n, List.length_nil, List.length_cons, true_and, and_true, Nat.reduceAdd, Nat.reduceLeDiff, Nat.reduceSub, Nat.reduceEqDiff, Nat.reduceLT, ge_iff_le, gt_iff_lt, n_lit, m_in, m_nar0, m_nar1, and_self, not_false_eq_true, not_true_eq_false, ne_eq, reduceIte, ite_self, Nat.reduceMul, Nat.reduceDiv, Nat.reduceMod, Nat.reducePow, Nat.zero_add, Nat.add_zero, Nat.one_mul, Nat.mul_one, n_in, n_min, n_clamp, n_eq_t, n_eq_f, n_eq, n_le_t, n_le_f, n_le, n_lt_t, n_lt_f, n_lt, n_sub0, n_sublt, n_suble, n_negsub, m_up_hit, m_up_miss, m_row_hit, m_row_miss, n_eqm, n_meq, n_meqm, n_ltm, n_lem, n_mlt, n_mle, n_sub, n_div, n_and1, n_shl, n_shr, n_inc, n_mul, n_rem, z_lt, z_le, z_nlt, z_nle, Nat.not_lt_zero, Nat.le_zero_eq, Nat.zero_le, if_true, if_false]
      exact key
    · have key := s_find1 (n := n) (F := F) (Q := Q) (d := d) (hi := hi) w hc9 hc2 hD wo hw hv' hd ha (show s < 30 by omega) (29 - s) (s + 1) v6 I (by omega) (by omega) h (by rw [i1, el]) (by rw [i2, el]) (fun I' v6 t1 t2 t3 t4 => by
        have key := ih (s + 1) (.int (nI 30)) v6 I' (by omega) t1 (by rw [t3]; rfl) (by rw [t4]; rfl) rfl (fun I' u1 u2 u3 u4 => hQ I' u1 (Ofw_trans t2 u2) u3 u4)
        simp (disch := omega) only [e44_125, e44_128, true_or, m_psh_s, m_psh_n, m_kl_i, m_kl_f, m_kl_r, m_kl_n, m_kl_j, m_kl_l, m_kl_d, c_i, c_f, c_r, c_n, List.length_nil, List.length_cons, true_and, and_true, Nat.reduceAdd, Nat.reduceLeDiff, Nat.reduceSub, Nat.reduceEqDiff, Nat.reduceLT, ge_iff_le, gt_iff_lt, n_lit, m_in, m_nar0, m_nar1, and_self, not_false_eq_true, not_true_eq_false, ne_eq, reduceIte, ite_self, Nat.reduceMul, Nat.reduceDiv, Nat.reduceMod, Nat.reducePow, Nat.zero_add, Nat.add_zero, Nat.one_mul, Nat.mul_one, n_in, n_min, n_clamp, n_eq_t, n_eq_f, n_eq, n_le_t, n_le_f, n_le, n_lt_t, n_lt_f, n_lt, n_sub0, n_sublt, n_suble, n_negsub, m_up_hit, m_up_miss, m_row_hit, m_row_miss, n_eqm, n_meq, n_meqm, n_ltm, n_lem, n_mlt, n_mle, n_sub, n_div, n_and1, n_shl, n_shr, n_inc, n_mul, n_rem, z_lt, z_le, z_nlt, z_nle, Nat.not_lt_zero, Nat.le_zero_eq, Nat.zero_le, if_true, if_false]
        exact key)
      rw [el] at key
      simp (disch := omega) only [e44_31, e44_33, e44_36, e44_38, e44_39, e44_40, true_or, m_psh_s, m_psh_n, m_kl_i, m_kl_f, m_kl_r, m_kl_n, m_kl_j, m_kl_l, m_kl_d, c_i, c_f, c_r, c_n, List.length_nil, List.length_cons, true_and, and_true, Nat.reduceAdd, Nat.reduceLeDiff, Nat.reduceSub, Nat.reduceEqDiff, Nat.reduceLT, ge_iff_le, gt_iff_lt, n_lit, m_in, m_nar0, m_nar1, and_self, not_false_eq_true, not_true_eq_false, ne_eq, reduceIte, ite_self, Nat.reduceMul, Nat.reduceDiv, Nat.reduceMod, Nat.reducePow, Nat.zero_add, Nat.add_zero, Nat.one_mul, Nat.mul_one, n_in, n_min, n_clamp, n_eq_t, n_eq_f, n_eq, n_le_t, n_le_f, n_le, n_lt_t, n_lt_f, n_lt, n_sub0, n_sublt, n_suble, n_negsub, m_up_hit, m_up_miss, m_row_hit, m_row_miss, n_eqm, n_meq, n_meqm, n_ltm, n_lem, n_mlt, n_mle, n_sub, n_div, n_and1, n_shl, n_shr, n_inc, n_mul, n_rem, z_lt, z_le, z_nlt, z_nle, Nat.not_lt_zero, Nat.le_zero_eq, Nat.zero_le, if_true, if_false]
      exact key
theorem s_find (h : CSh lay I F R n a S sp hi) (w : Wsh S) (hc9 : S 2 ≤ 9) (hc2 : S 68 < 1073741824) (hD : dOK S) (wo : allW S sp) (hw : WK lay R) (hv : MV lay R) (hd : 3 ≤ d) (ha : a + 13 < 30 ∨ 32 < a ∧ a + 13 < 180) (hQ : ∀ I', CSh lay I' F R n a S sp hi → Ofw a I F R I' F R → I' 32 1 = q_loI (q_bp S sp 900).1 → I' 32 2 = q_hiI (q_bp S sp 900).1 → Q (some (.int (nI (if (q_bp S sp 900).1 = none then 0 else 1)))) I' F R n) : Ev lay d 44 0 [.ref 32, .ref a, m_j, m_j, m_j, m_j, m_j] [] I F R n Q := by
  have hv' := hv
  obtain ⟨v1, v2⟩ := hv
  have l1 : (lay a) = (11, 0) := h.1.1
  have h0 : CSh lay (m_up (m_up I 32 1 (-nI 6)) 32 2 (-nI 6)) F R n a S sp hi := CSh_up32 (CSh_up32 h (by omega)) (by omega)
  simp (disch := omega) only [e44_0, e44_0N, e44_1, e44_3, e44_6, e44_6N, e44_7, e44_9, e44_12, e44_12N, e44_13, true_or, m_psh_s, m_psh_n, m_kl_i, m_kl_f, m_kl_r, m_kl_n, m_kl_j, m_kl_l, m_kl_d, c_i, c_f, c_r, c_n, List.length_nil, List.length_cons, true_and, and_true, Nat.reduceAdd, Nat.reduceLeDiff, Nat.reduceSub, Nat.reduceEqDiff, Nat.reduceLT, ge_iff_le, gt_iff_lt, n_lit, m_in, m_nar0, m_nar1, and_self, not_false_eq_true, not_true_eq_false, ne_eq, reduceIte, ite_self, Nat.reduceMul, Nat.reduceDiv, Nat.reduceMod, Nat.reducePow, Nat.zero_add, Nat.add_zero, Nat.one_mul, Nat.mul_one, n_in, n_min, n_clamp, n_eq_t, n_eq_f, n_eq, n_le_t, n_le_f, n_le, n_lt_t, n_lt_f, n_lt, n_sub0, n_sublt, n_suble, n_negsub, m_up_hit, m_up_miss, m_row_hit, m_row_miss, n_eqm, n_meq, n_meqm, n_ltm, n_lem, n_mlt, n_mle, n_sub, n_div, n_and1, n_shl, n_shr, n_inc, n_mul, n_rem, z_lt, z_le, z_nlt, z_nle, Nat.not_lt_zero, Nat.le_zero_eq, Nat.zero_le, if_true, if_false, v1, l1]
  apply (s_weight h0 w (wo S rfl rfl w) (by omega)).mpr
  simp (disch := omega) only [e44_16, e44_17, e44_17N, e44_18, e44_21, e44_21N, e44_22, true_or, m_psh_s, m_psh_n, m_kl_i, m_kl_f, m_kl_r, m_kl_n, m_kl_j, m_kl_l, m_kl_d, c_i, c_f, c_r, c_n, List.length_nil, List.length_cons, true_and, and_true, Nat.reduceAdd, Nat.reduceLeDiff, Nat.reduceSub, Nat.reduceEqDiff, Nat.reduceLT, ge_iff_le, gt_iff_lt, n_lit, m_in, m_nar0, m_nar1, and_self, not_false_eq_true, not_true_eq_false, ne_eq, reduceIte, ite_self, Nat.reduceMul, Nat.reduceDiv, Nat.reduceMod, Nat.reducePow, Nat.zero_add, Nat.add_zero, Nat.one_mul, Nat.mul_one, n_in, n_min, n_clamp, n_eq_t, n_eq_f, n_eq, n_le_t, n_le_f, n_le, n_lt_t, n_lt_f, n_lt, n_sub0, n_sublt, n_suble, n_negsub, m_up_hit, m_up_miss, m_row_hit, m_row_miss, n_eqm, n_meq, n_meqm, n_ltm, n_lem, n_mlt, n_mle, n_sub, n_div, n_and1, n_shl, n_shr, n_inc, n_mul, n_rem, z_lt, z_le, z_nlt, z_nle, Nat.not_lt_zero, Nat.le_zero_eq, Nat.zero_le, if_true, if_false, v1, v2, hw.1]
  apply s_tgo h0 w hc9 hD hw (by omega) (by omega)
  intro I1 o1
  have h1 := CSh_off h0 o1 (by omega) (Nat.le_refl _) (by omega)
  have m1 := (o1 32 (by omega)).1
  have oo : Ofw a I F R I1 F R := Ofw_trans (Ofw_trans (Ofw_w (Off_I (a := 32) (b := 32) (by omega) (by omega)) (by omega) (by omega)) (Ofw_w (Off_I (a := 32) (b := 32) (by omega) (by omega)) (by omega) (by omega))) (Ofw_w o1 (by omega) (by omega))
  have key := s_find0 (n := n) (F := F) (Q := Q) (d := d) (hi := hi) w hc9 hc2 hD wo hw hv' hd ha 30 0 m_j m_j I1 rfl h1 (by rw [m1, m_up_miss (by omega), m_up_at]; rfl) (by rw [m1, m_up_at]; rfl) rfl (fun I' t1 t2 t3 t4 => hQ I' t1 (Ofw_trans oo t2) t3 t4)
  simp (disch := omega) only [e44_25, e44_26, e44_27, true_or, m_psh_s, m_psh_n, m_kl_i, m_kl_f, m_kl_r, m_kl_n, m_kl_j, m_kl_l, m_kl_d, c_i, c_f, c_r, c_n, List.length_nil, List.length_cons, true_and, and_true, Nat.reduceAdd, Nat.reduceLeDiff, Nat.reduceSub, Nat.reduceEqDiff, Nat.reduceLT, ge_iff_le, gt_iff_lt, n_lit, m_in, m_nar0, m_nar1, and_self, not_false_eq_true, not_true_eq_false, ne_eq, reduceIte, ite_self, Nat.reduceMul, Nat.reduceDiv, Nat.reduceMod, Nat.reducePow, Nat.zero_add, Nat.add_zero, Nat.one_mul, Nat.mul_one, n_in, n_min, n_clamp, n_eq_t, n_eq_f, n_eq, n_le_t, n_le_f, n_le, n_lt_t, n_lt_f, n_lt, n_sub0, n_sublt, n_suble, n_negsub, m_up_hit, m_up_miss, m_row_hit, m_row_miss, n_eqm, n_meq, n_meqm, n_ltm, n_lem, n_mlt, n_mle, n_sub, n_div, n_and1, n_shl, n_shr, n_inc, n_mul, n_rem, z_lt, z_le, z_nlt, z_nle, Nat.not_lt_zero, Nat.le_zero_eq, Nat.zero_le, if_true, if_false]
  exact key
end FIND
