section SHEDB
variable {lay : mL} {d a n : Nat} {I : mI} {F : mF} {R : mR} {Q : mP} {S : Nat → Nat} {sp : Nat → UInt32} {hi : List Nat}
theorem Off_refl {a b : Nat} : Off a b I F R I F R := fun x _ => ⟨rfl, rfl, rfl⟩
theorem Off_trans {a b : Nat} {I' I'' : mI} {F' F'' : mF} {R' R'' : mR} (h : Off a b I F R I' F' R') (h' : Off a b I' F' R' I'' F'' R'') : Off a b I F R I'' F'' R'' := fun x hx => ⟨(h' x hx).1.trans (h x hx).1, (h' x hx).2.1.trans (h x hx).2.1, (h' x hx).2.2.trans (h x hx).2.2⟩
theorem Off_wide {a b a' b' : Nat} {I' : mI} {F' : mF} {R' : mR} (h : Off a b I F R I' F' R') (ha : a' ≤ a) (hb : b ≤ b') : Off a' b' I F R I' F' R' := fun x hx => h x (by omega)
theorem Off_I {a b x k : Nat} {v : Int32} (h1 : a ≤ x) (h2 : x ≤ b) : Off a b I F R (m_up I x k v) F R := fun y hy => ⟨m_up_off (by omega), rfl, rfl⟩
theorem Off_F {a b x k : Nat} {v : UInt32} (h1 : a ≤ x) (h2 : x ≤ b) : Off a b I F R I (m_up F x k v) R := fun y hy => ⟨rfl, m_up_off (by omega), rfl⟩
theorem Off_R {a b x k v : Nat} (h1 : a ≤ x) (h2 : x ≤ b) : Off a b I F R I F (m_up R x k v) := fun y hy => ⟨rfl, rfl, m_up_off (by omega)⟩
theorem q_ct_lo {g : Option Nat} {k : Nat} (hk : k < 4 ∨ k % 4 ≠ 3) : q_ct S g k = S k := by
  cases g with
  | none => rfl
  | some g => exact up1_miss (by omega)
theorem q_gi_ct {g : Option Nat} {s : Nat} : q_gi (q_ct S g) s = q_gi S s := by
  unfold q_gi
  rw [q_ct_lo (by omega)]
  exact q_gin_eq fun y hy => q_ct_lo (by omega)
theorem Wsh_eq {S' : Nat → Nat} (w : Wsh S) (h3 : S' 3 = S 3) (he : ∀ g, g < 16 → S' (4 + 4 * g) = S (4 + 4 * g)) : Wsh S' := by
  obtain ⟨w1, w2, w3⟩ := w
  refine ⟨by omega, fun g hg => ?_, fun g k hg hk e => w3 g k (by omega) (by omega) ?_⟩
  · rw [he g (by omega)]; exact w2 g (by omega)
  · dsimp only at e ⊢
    rw [he g (by omega), he k (by omega)] at e
    exact e
theorem Wsh_ct {g : Option Nat} (w : Wsh S) : Wsh (q_ct S g) := Wsh_eq w (q_ct_lo (by omega)) fun g _ => q_ct_lo (by omega)
theorem s_swapCounted {s o : Nat} (h : CSh lay I F R n a S sp hi) (w : Wsh S) (ha : a + 13 < 180) (hs : s < 30) (ho : o < 30) (hd : 2 ≤ d) (hQ : ∀ I', CSh lay I' F R n a (q_swS S s o) sp hi → Off a (a + 13) I F R I' F R → Q (some (.int (nI (q_n1 (q_gi (q_exS S s o) s) + q_n1 (q_gi (q_exS S s o) o))))) I' F R n) : Ev lay d 20 0 [.ref a, .int (nI s), .int (nI o)] [] I F R n Q := by
  have hi' := h.1
  obtain ⟨hs0, hs1, hs2, hs3, hs4, hs5, hs6, hs7, hs8, hs9, hs10, hs11, hs12, hs13, hs14, hs15, hs16, hs17, hs18, hs19, hs20, hs21, hs22, hs23, hs24, hs25, hs26⟩ := h.1
  simp (disch := omega) only [e20_0, e20_0N, e20_1, e20_2, e20_3, true_or, m_psh_s, m_psh_n, m_kl_i, m_kl_f, m_kl_r, m_kl_n, m_kl_j, m_kl_l, m_kl_d, c_i, c_f, c_r, c_n, List.length_nil, List.length_cons, true_and, and_true, Nat.reduceAdd, Nat.reduceLeDiff, Nat.reduceSub, Nat.reduceEqDiff, Nat.reduceLT, ge_iff_le, gt_iff_lt, n_lit, m_in, m_nar0, m_nar1, and_self, not_false_eq_true, not_true_eq_false, ne_eq, reduceIte, ite_self, Nat.reduceMul, Nat.reduceDiv, Nat.reduceMod, Nat.reducePow, Nat.zero_add, Nat.add_zero, Nat.one_mul, Nat.mul_one, n_in, n_min, n_clamp, n_eq_t, n_eq_f, n_eq, n_le_t, n_le_f, n_le, n_lt_t, n_lt_f, n_lt, n_sub0, n_sublt, n_suble, n_negsub, m_up_hit, m_up_miss, m_row_hit, m_row_miss, n_eqm, n_meq, n_meqm, n_ltm, n_lem, n_mlt, n_mle, n_sub, n_div, n_and1, n_shl, n_shr, n_inc, n_mul, n_rem, z_lt, z_le, z_nlt, z_nle, Nat.not_lt_zero, Nat.le_zero_eq, Nat.zero_le, if_true, if_false, hs0, hs1, hs2, hs3, hs4, hs5, hs6, hs7, hs8, hs9, hs10, hs11, hs12, hs13, hs14, hs15, hs16, hs17, hs18, hs19, hs20, hs21, hs22, hs23, hs24, hs25, hs26]
  refine s_exchange h w ha hs ho (by omega) fun I1 h1 o1 => ?_
  have w1 := Wsh_ex w hs ho
  have g1 : ∀ x, q_gi (q_exS S s o) s = some x → x < q_exS S s o 3 := fun x hx => q_gi_lt hx
  have g2 : ∀ x, q_gi (q_exS S s o) o = some x → x < q_exS S s o 3 := fun x hx => q_gi_lt hx
  have k1 := h1.2.2.1 s hs
  change I1 (a + 3) s = q_oI (q_gi _ s) at k1
  simp (disch := omega) only [e20_6, e20_6N, e20_7, e20_7N, e20_8, e20_11, e20_12, e20_13, true_or, m_psh_s, m_psh_n, m_kl_i, m_kl_f, m_kl_r, m_kl_n, m_kl_j, m_kl_l, m_kl_d, c_i, c_f, c_r, c_n, List.length_nil, List.length_cons, true_and, and_true, Nat.reduceAdd, Nat.reduceLeDiff, Nat.reduceSub, Nat.reduceEqDiff, Nat.reduceLT, ge_iff_le, gt_iff_lt, n_lit, m_in, m_nar0, m_nar1, and_self, not_false_eq_true, not_true_eq_false, ne_eq, reduceIte, ite_self, Nat.reduceMul, Nat.reduceDiv, Nat.reduceMod, Nat.reducePow, Nat.zero_add, Nat.add_zero, Nat.one_mul, Nat.mul_one, n_in, n_min, n_clamp, n_eq_t, n_eq_f, n_eq, n_le_t, n_le_f, n_le, n_lt_t, n_lt_f, n_lt, n_sub0, n_sublt, n_suble, n_negsub, m_up_hit, m_up_miss, m_row_hit, m_row_miss, n_eqm, n_meq, n_meqm, n_ltm, n_lem, n_mlt, n_mle, n_sub, n_div, n_and1, n_shl, n_shr, n_inc, n_mul, n_rem, z_lt, z_le, z_nlt, z_nle, Nat.not_lt_zero, Nat.le_zero_eq, Nat.zero_le, if_true, if_false, hs0, hs1, hs2, hs3, hs4, hs5, hs6, hs7, hs8, hs9, hs10, hs11, hs12, hs13, hs14, hs15, hs16, hs17, hs18, hs19, hs20, hs21, hs22, hs23, hs24, hs25, hs26, k1]
  refine s_count h1 ha w1.1 g1 fun I2 h2 o2 => ?_
  have k2 := h2.2.2.1 o ho
  change I2 (a + 3) o = q_oI (q_gi (q_ct _ _) o) at k2
  rw [q_gi_ct] at k2
  simp (disch := omega) only [e20_16, e20_16N, e20_17, e20_17N, e20_18, e20_21, e20_22, e20_23, true_or, m_psh_s, m_psh_n, m_kl_i, m_kl_f, m_kl_r, m_kl_n, m_kl_j, m_kl_l, m_kl_d, c_i, c_f, c_r, c_n, List.length_nil, List.length_cons, true_and, and_true, Nat.reduceAdd, Nat.reduceLeDiff, Nat.reduceSub, Nat.reduceEqDiff, Nat.reduceLT, ge_iff_le, gt_iff_lt, n_lit, m_in, m_nar0, m_nar1, and_self, not_false_eq_true, not_true_eq_false, ne_eq, reduceIte, ite_self, Nat.reduceMul, Nat.reduceDiv, Nat.reduceMod, Nat.reducePow, Nat.zero_add, Nat.add_zero, Nat.one_mul, Nat.mul_one, n_in, n_min, n_clamp, n_eq_t, n_eq_f, n_eq, n_le_t, n_le_f, n_le, n_lt_t, n_lt_f, n_lt, n_sub0, n_sublt, n_suble, n_negsub, m_up_hit, m_up_miss, m_row_hit, m_row_miss, n_eqm, n_meq, n_meqm, n_ltm, n_lem, n_mlt, n_mle, n_sub, n_div, n_and1, n_shl, n_shr, n_inc, n_mul, n_rem, z_lt, z_le, z_nlt, z_nle, Nat.not_lt_zero, Nat.le_zero_eq, Nat.zero_le, if_true, if_false, hs0, hs1, hs2, hs3, hs4, hs5, hs6, hs7, hs8, hs9, hs10, hs11, hs12, hs13, hs14, hs15, hs16, hs17, hs18, hs19, hs20, hs21, hs22, hs23, hs24, hs25, hs26, k2]
  refine s_count h2 ha (by rw [q_ct_lo (by omega)]; exact w1.1) (fun x hx => by rw [q_ct_lo (by omega)]; exact g2 x hx) fun I3 h3 o3 => ?_
  simp (disch := omega) only [e20_26, e20_27, true_or, m_psh_s, m_psh_n, m_kl_i, m_kl_f, m_kl_r, m_kl_n, m_kl_j, m_kl_l, m_kl_d, c_i, c_f, c_r, c_n, List.length_nil, List.length_cons, true_and, and_true, Nat.reduceAdd, Nat.reduceLeDiff, Nat.reduceSub, Nat.reduceEqDiff, Nat.reduceLT, ge_iff_le, gt_iff_lt, n_lit, m_in, m_nar0, m_nar1, and_self, not_false_eq_true, not_true_eq_false, ne_eq, reduceIte, ite_self, Nat.reduceMul, Nat.reduceDiv, Nat.reduceMod, Nat.reducePow, Nat.zero_add, Nat.add_zero, Nat.one_mul, Nat.mul_one, n_in, n_min, n_clamp, n_eq_t, n_eq_f, n_eq, n_le_t, n_le_f, n_le, n_lt_t, n_lt_f, n_lt, n_sub0, n_sublt, n_suble, n_negsub, m_up_hit, m_up_miss, m_row_hit, m_row_miss, n_eqm, n_meq, n_meqm, n_ltm, n_lem, n_mlt, n_mle, n_sub, n_div, n_and1, n_shl, n_shr, n_inc, n_mul, n_rem, z_lt, z_le, z_nlt, z_nle, Nat.not_lt_zero, Nat.le_zero_eq, Nat.zero_le, if_true, if_false]
  exact hQ I3 h3 (Off_trans o1 (Off_trans o2 o3))
theorem s_isClosed {s c : Nat} (h : ISh lay R a) (hs : s < 30) (hc : I a 12 = nI c) (hc2 : c < 1073741824) : Ev lay d 26 0 [.ref a, .int (nI s)] [] I F R n Q ↔ Q (some (.int (nI (c / 2 ^ s % 2)))) I F R n := by
  obtain ⟨hs0, hs1, hs2, hs3, hs4, hs5, hs6, hs7, hs8, hs9, hs10, hs11, hs12, hs13, hs14, hs15, hs16, hs17, hs18, hs19, hs20, hs21, hs22, hs23, hs24, hs25, hs26⟩ := h
  have hb : c / 2 ^ s < 2147483648 := Nat.lt_of_le_of_lt (Nat.div_le_self _ _) (by omega)
  simp (disch := omega) only [e26_0, e26_0N, e26_1, e26_4, e26_5, e26_6, e26_7, e26_8, e26_11, e26_12, e26_15, e26_16, true_or, m_psh_s, m_psh_n, m_kl_i, m_kl_f, m_kl_r, m_kl_n, m_kl_j, m_kl_l, m_kl_d, c_i, c_f, c_r, c_n, List.length_nil, List.length_cons, true_and, and_true, Nat.reduceAdd, Nat.reduceLeDiff, Nat.reduceSub, Nat.reduceEqDiff, Nat.reduceLT, ge_iff_le, gt_iff_lt, n_lit, m_in, m_nar0, m_nar1, and_self, not_false_eq_true, not_true_eq_false, ne_eq, reduceIte, ite_self, Nat.reduceMul, Nat.reduceDiv, Nat.reduceMod, Nat.reducePow, Nat.zero_add, Nat.add_zero, Nat.one_mul, Nat.mul_one, n_in, n_min, n_clamp, n_eq_t, n_eq_f, n_eq, n_le_t, n_le_f, n_le, n_lt_t, n_lt_f, n_lt, n_sub0, n_sublt, n_suble, n_negsub, m_up_hit, m_up_miss, m_row_hit, m_row_miss, n_eqm, n_meq, n_meqm, n_ltm, n_lem, n_mlt, n_mle, n_sub, n_div, n_and1, n_shl, n_shr, n_inc, n_mul, n_rem, z_lt, z_le, z_nlt, z_nle, Nat.not_lt_zero, Nat.le_zero_eq, Nat.zero_le, if_true, if_false, hs0, hs1, hs2, hs3, hs4, hs5, hs6, hs7, hs8, hs9, hs10, hs11, hs12, hs13, hs14, hs15, hs16, hs17, hs18, hs19, hs20, hs21, hs22, hs23, hs24, hs25, hs26, hc]
  rcases Nat.mod_two_eq_zero_or_one (c / 2 ^ s) with e | e <;> rw [e] <;> simp
theorem s_mayMove {s o c : Nat} (h : CSh lay I F R n a S sp hi) (hs : s < 30) (ho : o < 30) (hc2 : S 68 < 1073741824) (h16 : S 3 ≤ 16) (hd : 1 ≤ d) : Ev lay d 47 0 [.ref a, .int (nI s), .int (nI o), m_j] [] I F R n Q ↔ Q (some (.int (nI (if (q_gi S s ≠ none ∨ q_gi S o ≠ none) ∧ S 68 / 2 ^ s % 2 = 0 ∧ S 68 / 2 ^ o % 2 = 0 then 1 else 0)))) I F R n := by
  have hi' := h.1
  have hc := h.2.1 _ _ _ cS_0_12
  rw [Nat.add_zero] at hc
  obtain ⟨hs0, hs1, hs2, hs3, hs4, hs5, hs6, hs7, hs8, hs9, hs10, hs11, hs12, hs13, hs14, hs15, hs16, hs17, hs18, hs19, hs20, hs21, hs22, hs23, hs24, hs25, hs26⟩ := h.1
  have k1 := h.2.2.1 s hs
  have k2 := h.2.2.1 o ho
  change _ = q_oI (q_gi S s) at k1
  change _ = q_oI (q_gi S o) at k2
  have e : ∀ x, q_oI (q_gi S x) = -nI 6 ↔ q_gi S x = none := by
    intro x
    cases hx : q_gi S x with
    | none => exact iff_of_true rfl rfl
    | some g =>
      have := q_gi_lt hx
      exact iff_of_false (fun h => (n_eqm (by omega) (by omega) (by omega)).mp h) (fun h => by cases h)
  simp (disch := omega) only [e47_0, e47_0N, e47_1, e47_4, e47_5, e47_6, e47_8, e47_11, e47_11N, e47_12, e47_15, e47_16, e47_17, e47_19, e47_22, e47_23, e47_26, e47_27, e47_28, e47_29, e47_32, e47_32N, e47_33, e47_34, e47_37, e47_40, e47_40N, e47_41, e47_42, e47_45, e47_48, e47_49, e47_52, e47_53, true_or, m_psh_s, m_psh_n, m_kl_i, m_kl_f, m_kl_r, m_kl_n, m_kl_j, m_kl_l, m_kl_d, c_i, c_f, c_r, c_n, List.length_nil, List.length_cons, true_and, and_true, Nat.reduceAdd, Nat.reduceLeDiff, Nat.reduceSub, Nat.reduceEqDiff, Nat.reduceLT, ge_iff_le, gt_iff_lt, n_lit, m_in, m_nar0, m_nar1, and_self, not_false_eq_true, not_true_eq_false, ne_eq, reduceIte, ite_self, Nat.reduceMul, Nat.reduceDiv, Nat.reduceMod, Nat.reducePow, Nat.zero_add, Nat.add_zero, Nat.one_mul, Nat.mul_one, n_in, n_min, n_clamp, n_eq_t, n_eq_f, n_eq, n_le_t, n_le_f, n_le, n_lt_t, n_lt_f, n_lt, n_sub0, n_sublt, n_suble, n_negsub, m_up_hit, m_up_miss, m_row_hit, m_row_miss, n_eqm, n_meq, n_meqm, n_ltm, n_lem, n_mlt, n_mle, n_sub, n_div, n_and1, n_shl, n_shr, n_inc, n_mul, n_rem, z_lt, z_le, z_nlt, z_nle, Nat.not_lt_zero, Nat.le_zero_eq, Nat.zero_le, if_true, if_false, hs0, hs1, hs2, hs3, hs4, hs5, hs6, hs7, hs8, hs9, hs10, hs11, hs12, hs13, hs14, hs15, hs16, hs17, hs18, hs19, hs20, hs21, hs22, hs23, hs24, hs25, hs26, k1, k2, e, s_isClosed hi' hs hc hc2, s_isClosed hi' ho hc hc2]
  by_cases c1 : q_gi S s = none <;> by_cases c2 : q_gi S o = none <;> by_cases c3 : S 68 / 2 ^ s % 2 = 0 <;> by_cases c4 : S 68 / 2 ^ o % 2 = 0 <;> simp [c1, c2, c3, c4]
theorem oI_none {g : Option Nat} (h : ∀ x, g = some x → x < 16) : q_oI g = -nI 6 ↔ g = none := by
  cases g with
  | none => exact iff_of_true rfl rfl
  | some g =>
    have := h g rfl
    exact iff_of_false (fun h => (n_eqm (by omega) (by omega) (by omega)).mp h) (fun h => by cases h)
-- what the changes do, as numbers
abbrev isS (x : Int32) : Prop := nI 0 ≤ x ∧ x < nI 30
theorem isS_n {k : Nat} (hk : k < 2147483648) : isS (nI k) ↔ k < 30 := by
  unfold isS
  rw [n_le (by omega) hk, n_lt hk (by omega)]
  omega
theorem isS_neg {x : Int32} (h : x < nI 0) : isS x ↔ False := by
  unfold isS
  rw [n_g2 h (by omega)]
  simp
def q_N (x : Int32) : Nat := x.toNatClampNeg
theorem q_N_n {k : Nat} (hk : k < 2147483648) : q_N (nI k) = k := n_clamp hk
theorem s_isS {x : Int32} : Ev lay d 17 0 [.int x] [] I F R n Q ↔ Q (some (.int (nI (if isS x then 1 else 0)))) I F R n := by
  rcases n_g x with ⟨k, hk, rfl⟩ | h
  · by_cases h : k < 30
    · rw [s_isSlot h, if_pos ((isS_n hk).mpr h)]
    · rw [if_neg (by rw [isS_n hk]; exact h)]
      simp (disch := omega) only [e17_0, e17_1, e17_4, e17_5, e17_7, e17_10, e17_11, e17_14, e17_15, true_or, m_psh_s, m_psh_n, m_kl_i, m_kl_f, m_kl_r, m_kl_n, m_kl_j, m_kl_l, m_kl_d, c_i, c_f, c_r, c_n, List.length_nil, List.length_cons, true_and, and_true, Nat.reduceAdd, Nat.reduceLeDiff, Nat.reduceSub, Nat.reduceEqDiff, Nat.reduceLT, ge_iff_le, gt_iff_lt, n_lit, m_in, m_nar0, m_nar1, and_self, not_false_eq_true, not_true_eq_false, ne_eq, reduceIte, ite_self, Nat.reduceMul, Nat.reduceDiv, Nat.reduceMod, Nat.reducePow, Nat.zero_add, Nat.add_zero, Nat.one_mul, Nat.mul_one, n_in, n_min, n_clamp, n_eq_t, n_eq_f, n_eq, n_le_t, n_le_f, n_le, n_lt_t, n_lt_f, n_lt, n_sub0, n_sublt, n_suble, n_negsub, m_up_hit, m_up_miss, m_row_hit, m_row_miss, n_eqm, n_meq, n_meqm, n_ltm, n_lem, n_mlt, n_mle, n_sub, n_div, n_and1, n_shl, n_shr, n_inc, n_mul, n_rem, z_lt, z_le, z_nlt, z_nle, Nat.not_lt_zero, Nat.le_zero_eq, Nat.zero_le, if_true, if_false]
  · rw [if_neg (by rw [isS_neg h]; exact id)]
    simp only [e17_0, e17_1, n_lit, if_pos h, e17_14, e17_15, m_nar0, true_and]
def q_add (S : Nat → Nat) (x : Int32) : Int32 × (Nat → Nat) := if isS x then (if q_gi S (q_N x) ≠ none then (-nI 5, S) else if 16 ≤ S 3 then (-nI 4, S) else (nI (S 3), up1 (up1 S (4 + 4 * S 3) (q_N x)) 3 (S 3 + 1))) else (-nI 1, S)
theorem s_bring {x : Int32} (h : CSh lay I F R n a S sp hi) (w : Wsh S) (ha : a + 13 < 180) (hd : 1 ≤ d) (hQ : ∀ I', CSh lay I' F R n a (q_add S x).2 sp hi → Off a (a + 13) I F R I' F R → Q (some (.int (q_add S x).1)) I' F R n) : Ev lay d 16 0 [.ref a, .int x, m_j] [] I F R n Q := by
  have hi' := h.1
  have hc := h.2.1 _ _ _ cS_0_11
  rw [Nat.add_zero] at hc
  obtain ⟨hs0, hs1, hs2, hs3, hs4, hs5, hs6, hs7, hs8, hs9, hs10, hs11, hs12, hs13, hs14, hs15, hs16, hs17, hs18, hs19, hs20, hs21, hs22, hs23, hs24, hs25, hs26⟩ := h.1
  have w1 := w.1
  by_cases hx : isS x
  · rcases n_g x with ⟨k, hk, rfl⟩ | h'
    · have hk3 := (isS_n hk).mp hx
      have k1 := h.2.2.1 k hk3
      change _ = q_oI (q_gi S k) at k1
      have e := oI_none (g := q_gi S k) (fun x hx => Nat.lt_of_lt_of_le (q_gi_lt hx) w1)
      simp (disch := omega) only [e16_0, e16_1, e16_4, e16_7, e16_8, e16_9, e16_9N, e16_10, e16_13, e16_14, e16_15, e16_17, e16_20, e16_22, e16_23, e16_23N, e16_24, e16_27, e16_29, e16_32, e16_34, e16_35, e16_35N, e16_36, e16_39, e16_40, e16_40N, e16_41, e16_44, e16_45, e16_46, e16_47, e16_47N, e16_48, e16_51, e16_52, e16_53, e16_54, e16_54N, e16_55, e16_56, e16_59, e16_60, e16_61, e16_64, e16_65, true_or, m_psh_s, m_psh_n, m_kl_i, m_kl_f, m_kl_r, m_kl_n, m_kl_j, m_kl_l, m_kl_d, c_i, c_f, c_r, c_n, List.length_nil, List.length_cons, true_and, and_true, Nat.reduceAdd, Nat.reduceLeDiff, Nat.reduceSub, Nat.reduceEqDiff, Nat.reduceLT, ge_iff_le, gt_iff_lt, n_lit, m_in, m_nar0, m_nar1, and_self, not_false_eq_true, not_true_eq_false, ne_eq, reduceIte, ite_self, Nat.reduceMul, Nat.reduceDiv, Nat.reduceMod, Nat.reducePow, Nat.zero_add, Nat.add_zero, Nat.one_mul, Nat.mul_one, n_in, n_min, n_clamp, n_eq_t, n_eq_f, n_eq, n_le_t, n_le_f, n_le, n_lt_t, n_lt_f, n_lt, n_sub0, n_sublt, n_suble, n_negsub, m_up_hit, m_up_miss, m_row_hit, m_row_miss, n_eqm, n_meq, n_meqm, n_ltm, n_lem, n_mlt, n_mle, n_sub, n_div, n_and1, n_shl, n_shr, n_inc, n_mul, n_rem, z_lt, z_le, z_nlt, z_nle, Nat.not_lt_zero, Nat.le_zero_eq, Nat.zero_le, if_true, if_false, hs0, hs1, hs2, hs3, hs4, hs5, hs6, hs7, hs8, hs9, hs10, hs11, hs12, hs13, hs14, hs15, hs16, hs17, hs18, hs19, hs20, hs21, hs22, hs23, hs24, hs25, hs26, k1, e, s_isS, if_pos hx, hc]
      unfold q_add at hQ
      rw [if_pos hx] at hQ
      rw [q_N_n hk] at hQ
      by_cases c1 : q_gi S k = none
      · rw [if_neg (by simp [c1])] at hQ
        by_cases c2 : 16 ≤ S 3
        · rw [if_pos c2] at hQ
          simp only [if_pos c1]
          rw [if_neg (by omega)]
          exact hQ I h Off_refl
        · rw [if_neg c2] at hQ
          simp (disch := omega) only [if_pos c1, true_or, m_psh_s, m_psh_n, m_kl_i, m_kl_f, m_kl_r, m_kl_n, m_kl_j, m_kl_l, m_kl_d, c_i, c_f, c_r, c_n, List.length_nil, List.length_cons, true_and, and_true, Nat.reduceAdd, Nat.reduceLeDiff, Nat.reduceSub, Nat.reduceEqDiff, Nat.reduceLT, ge_iff_le, gt_iff_lt, n_lit, m_in, m_nar0, m_nar1, and_self, not_false_eq_true, not_true_eq_false, ne_eq, reduceIte, ite_self, Nat.reduceMul, Nat.reduceDiv, Nat.reduceMod, Nat.reducePow, Nat.zero_add, Nat.add_zero, Nat.one_mul, Nat.mul_one, n_in, n_min, n_clamp, n_eq_t, n_eq_f, n_eq, n_le_t, n_le_f, n_le, n_lt_t, n_lt_f, n_lt, n_sub0, n_sublt, n_suble, n_negsub, m_up_hit, m_up_miss, m_row_hit, m_row_miss, n_eqm, n_meq, n_meqm, n_ltm, n_lem, n_mlt, n_mle, n_sub, n_div, n_and1, n_shl, n_shr, n_inc, n_mul, n_rem, z_lt, z_le, z_nlt, z_nle, Nat.not_lt_zero, Nat.le_zero_eq, Nat.zero_le, if_true, if_false, hc]
          refine hQ _ (CSh_I h ?_ ?_ ?_ ?_) ?_
          · exact CC_up (CC_3 (CC_up h.2.1 (cS_2 (by omega)))) cS_0_11
          · intro s hs
            show _ = q_oI (q_gin _ _ _)
            dsimp only
            rw [up1_at]
            unfold q_gin
            rw [up1_miss (by omega), up1_at, q_gin_eq (p := fun g => S (4 + 4 * g)) (fun g hg => by rw [up1_miss (by omega), up1_miss (by omega)])]
            rw [m_up_miss (by omega)]
            by_cases c3 : k = s
            · subst c3
              rw [m_up_at, if_pos rfl]
              rfl
            · rw [if_neg c3, m_up_miss (by omega), m_up_miss (by omega)]
              exact h.2.2.1 s hs
          · intro p hp hp2
            funext j
            rw [m_up_miss (by omega), m_up_miss (by omega), m_up_miss (by omega)]
          · rw [m_up_miss (by omega), m_up_miss (by omega), m_up_miss (by omega)]
          · exact Off_trans (Off_trans (Off_I (by omega) (by omega)) (Off_I (by omega) (by omega))) (Off_I (by omega) (by omega))
      · rw [if_pos (by simp [c1])] at hQ
        simp only [if_neg c1]
        exact hQ I h Off_refl
    · exact absurd hx (by rw [isS_neg h']; exact id)
  · simp (disch := omega) only [e16_0, e16_1, e16_4, e16_7, e16_8, e16_9, e16_9N, e16_10, e16_13, e16_14, e16_15, e16_17, e16_20, e16_22, e16_23, e16_23N, e16_24, e16_27, e16_29, e16_32, e16_34, e16_35, e16_35N, e16_36, e16_39, e16_40, e16_40N, e16_41, e16_44, e16_45, e16_46, e16_47, e16_47N, e16_48, e16_51, e16_52, e16_53, e16_54, e16_54N, e16_55, e16_56, e16_59, e16_60, e16_61, e16_64, e16_65, true_or, m_psh_s, m_psh_n, m_kl_i, m_kl_f, m_kl_r, m_kl_n, m_kl_j, m_kl_l, m_kl_d, c_i, c_f, c_r, c_n, List.length_nil, List.length_cons, true_and, and_true, Nat.reduceAdd, Nat.reduceLeDiff, Nat.reduceSub, Nat.reduceEqDiff, Nat.reduceLT, ge_iff_le, gt_iff_lt, n_lit, m_in, m_nar0, m_nar1, and_self, not_false_eq_true, not_true_eq_false, ne_eq, reduceIte, ite_self, Nat.reduceMul, Nat.reduceDiv, Nat.reduceMod, Nat.reducePow, Nat.zero_add, Nat.add_zero, Nat.one_mul, Nat.mul_one, n_in, n_min, n_clamp, n_eq_t, n_eq_f, n_eq, n_le_t, n_le_f, n_le, n_lt_t, n_lt_f, n_lt, n_sub0, n_sublt, n_suble, n_negsub, m_up_hit, m_up_miss, m_row_hit, m_row_miss, n_eqm, n_meq, n_meqm, n_ltm, n_lem, n_mlt, n_mle, n_sub, n_div, n_and1, n_shl, n_shr, n_inc, n_mul, n_rem, z_lt, z_le, z_nlt, z_nle, Nat.not_lt_zero, Nat.le_zero_eq, Nat.zero_le, if_true, if_false, hs0, hs1, hs2, hs3, hs4, hs5, hs6, hs7, hs8, hs9, hs10, hs11, hs12, hs13, hs14, hs15, hs16, hs17, hs18, hs19, hs20, hs21, hs22, hs23, hs24, hs25, hs26, s_isS, if_neg hx]
    unfold q_add at hQ
    rw [if_neg hx] at hQ
    exact hQ I h Off_refl
def q_swp (S : Nat → Nat) (x y : Int32) : Int32 × (Nat → Nat) := if isS x ∧ isS y then (if x = y then (-nI 2, S) else (nI (q_n1 (q_gi S (q_N x)) + q_n1 (q_gi S (q_N y))), q_swS S (q_N x) (q_N y))) else (-nI 1, S)
theorem q_n1_ex {s o : Nat} (w : Wsh S) : q_n1 (q_gi (q_exS S s o) s) + q_n1 (q_gi (q_exS S s o) o) = q_n1 (q_gi S s) + q_n1 (q_gi S o) := by
  rw [q_gi_ex w, q_gi_ex w]
  unfold q_tau
  rw [if_pos rfl]
  split
  · rename_i e; rw [e, if_pos rfl]
  · rw [if_pos rfl, Nat.add_comm]
theorem isS_to {x : Int32} (hx : isS x) : ∃ k, k < 30 ∧ x = nI k ∧ q_N x = k := by
  rcases n_g x with ⟨k, hk, rfl⟩ | h'
  · exact ⟨k, (isS_n hk).mp hx, rfl, q_N_n hk⟩
  · exact absurd hx (by rw [isS_neg h']; exact id)
theorem s_swapByHand {x y : Int32} (h : CSh lay I F R n a S sp hi) (w : Wsh S) (ha : a + 13 < 180) (hd : 3 ≤ d) (hQ : ∀ I', CSh lay I' F R n a (q_swp S x y).2 sp hi → Off a (a + 13) I F R I' F R → Q (some (.int (q_swp S x y).1)) I' F R n) : Ev lay d 19 0 [.ref a, .int x, .int y] [] I F R n Q := by
  have hi' := h.1
  obtain ⟨hs0, hs1, hs2, hs3, hs4, hs5, hs6, hs7, hs8, hs9, hs10, hs11, hs12, hs13, hs14, hs15, hs16, hs17, hs18, hs19, hs20, hs21, hs22, hs23, hs24, hs25, hs26⟩ := h.1
  by_cases hx : isS x
  · by_cases hy : isS y
    · obtain ⟨k, hk, rfl, hk2⟩ := isS_to hx
      obtain ⟨o, ho, rfl, ho2⟩ := isS_to hy
      unfold q_swp at hQ
      rw [if_pos ⟨hx, hy⟩, hk2, ho2] at hQ
      by_cases e : k = o
      · subst e
        rw [if_pos rfl] at hQ
        simp (disch := omega) only [e19_0, e19_1, e19_4, e19_7, e19_8, e19_11, e19_14, e19_15, e19_16, e19_17, e19_18, e19_21, e19_23, e19_26, e19_26N, e19_27, e19_28, e19_29, e19_32, true_or, m_psh_s, m_psh_n, m_kl_i, m_kl_f, m_kl_r, m_kl_n, m_kl_j, m_kl_l, m_kl_d, c_i, c_f, c_r, c_n, List.length_nil, List.length_cons, true_and, and_true, Nat.reduceAdd, Nat.reduceLeDiff, Nat.reduceSub, Nat.reduceEqDiff, Nat.reduceLT, ge_iff_le, gt_iff_lt, n_lit, m_in, m_nar0, m_nar1, and_self, not_false_eq_true, not_true_eq_false, ne_eq, reduceIte, ite_self, Nat.reduceMul, Nat.reduceDiv, Nat.reduceMod, Nat.reducePow, Nat.zero_add, Nat.add_zero, Nat.one_mul, Nat.mul_one, n_in, n_min, n_clamp, n_eq_t, n_eq_f, n_eq, n_le_t, n_le_f, n_le, n_lt_t, n_lt_f, n_lt, n_sub0, n_sublt, n_suble, n_negsub, m_up_hit, m_up_miss, m_row_hit, m_row_miss, n_eqm, n_meq, n_meqm, n_ltm, n_lem, n_mlt, n_mle, n_sub, n_div, n_and1, n_shl, n_shr, n_inc, n_mul, n_rem, z_lt, z_le, z_nlt, z_nle, Nat.not_lt_zero, Nat.le_zero_eq, Nat.zero_le, if_true, if_false, hs0, hs1, hs2, hs3, hs4, hs5, hs6, hs7, hs8, hs9, hs10, hs11, hs12, hs13, hs14, hs15, hs16, hs17, hs18, hs19, hs20, hs21, hs22, hs23, hs24, hs25, hs26, s_isS, if_pos hx]
        exact hQ I h Off_refl
      · rw [if_neg (by rw [n_eq (by omega) (by omega)]; exact e)] at hQ
        simp (disch := omega) only [e19_0, e19_1, e19_4, e19_7, e19_8, e19_11, e19_14, e19_15, e19_16, e19_17, e19_18, e19_21, e19_23, e19_26, e19_26N, e19_27, e19_28, e19_29, true_or, m_psh_s, m_psh_n, m_kl_i, m_kl_f, m_kl_r, m_kl_n, m_kl_j, m_kl_l, m_kl_d, c_i, c_f, c_r, c_n, List.length_nil, List.length_cons, true_and, and_true, Nat.reduceAdd, Nat.reduceLeDiff, Nat.reduceSub, Nat.reduceEqDiff, Nat.reduceLT, ge_iff_le, gt_iff_lt, n_lit, m_in, m_nar0, m_nar1, and_self, not_false_eq_true, not_true_eq_false, ne_eq, reduceIte, ite_self, Nat.reduceMul, Nat.reduceDiv, Nat.reduceMod, Nat.reducePow, Nat.zero_add, Nat.add_zero, Nat.one_mul, Nat.mul_one, n_in, n_min, n_clamp, n_eq_t, n_eq_f, n_eq, n_le_t, n_le_f, n_le, n_lt_t, n_lt_f, n_lt, n_sub0, n_sublt, n_suble, n_negsub, m_up_hit, m_up_miss, m_row_hit, m_row_miss, n_eqm, n_meq, n_meqm, n_ltm, n_lem, n_mlt, n_mle, n_sub, n_div, n_and1, n_shl, n_shr, n_inc, n_mul, n_rem, z_lt, z_le, z_nlt, z_nle, Nat.not_lt_zero, Nat.le_zero_eq, Nat.zero_le, if_true, if_false, hs0, hs1, hs2, hs3, hs4, hs5, hs6, hs7, hs8, hs9, hs10, hs11, hs12, hs13, hs14, hs15, hs16, hs17, hs18, hs19, hs20, hs21, hs22, hs23, hs24, hs25, hs26, s_isS, if_pos hx, if_pos hy]
        refine s_swapCounted h w ha hk ho (by omega) fun I' h1 h2 => ?_
        rw [q_n1_ex w]
        simp (disch := omega) only [e19_32, true_or, m_psh_s, m_psh_n, m_kl_i, m_kl_f, m_kl_r, m_kl_n, m_kl_j, m_kl_l, m_kl_d, c_i, c_f, c_r, c_n, List.length_nil, List.length_cons, true_and, and_true, Nat.reduceAdd, Nat.reduceLeDiff, Nat.reduceSub, Nat.reduceEqDiff, Nat.reduceLT, ge_iff_le, gt_iff_lt, n_lit, m_in, m_nar0, m_nar1, and_self, not_false_eq_true, not_true_eq_false, ne_eq, reduceIte, ite_self, Nat.reduceMul, Nat.reduceDiv, Nat.reduceMod, Nat.reducePow, Nat.zero_add, Nat.add_zero, Nat.one_mul, Nat.mul_one, n_in, n_min, n_clamp, n_eq_t, n_eq_f, n_eq, n_le_t, n_le_f, n_le, n_lt_t, n_lt_f, n_lt, n_sub0, n_sublt, n_suble, n_negsub, m_up_hit, m_up_miss, m_row_hit, m_row_miss, n_eqm, n_meq, n_meqm, n_ltm, n_lem, n_mlt, n_mle, n_sub, n_div, n_and1, n_shl, n_shr, n_inc, n_mul, n_rem, z_lt, z_le, z_nlt, z_nle, Nat.not_lt_zero, Nat.le_zero_eq, Nat.zero_le, if_true, if_false]
        exact hQ I' h1 h2
    · simp (disch := omega) only [e19_0, e19_1, e19_4, e19_7, e19_8, e19_11, e19_14, e19_15, e19_16, e19_17, e19_18, e19_21, e19_23, e19_26, e19_26N, e19_27, e19_28, e19_29, e19_32, true_or, m_psh_s, m_psh_n, m_kl_i, m_kl_f, m_kl_r, m_kl_n, m_kl_j, m_kl_l, m_kl_d, c_i, c_f, c_r, c_n, List.length_nil, List.length_cons, true_and, and_true, Nat.reduceAdd, Nat.reduceLeDiff, Nat.reduceSub, Nat.reduceEqDiff, Nat.reduceLT, ge_iff_le, gt_iff_lt, n_lit, m_in, m_nar0, m_nar1, and_self, not_false_eq_true, not_true_eq_false, ne_eq, reduceIte, ite_self, Nat.reduceMul, Nat.reduceDiv, Nat.reduceMod, Nat.reducePow, Nat.zero_add, Nat.add_zero, Nat.one_mul, Nat.mul_one, n_in, n_min, n_clamp, n_eq_t, n_eq_f, n_eq, n_le_t, n_le_f, n_le, n_lt_t, n_lt_f, n_lt, n_sub0, n_sublt, n_suble, n_negsub, m_up_hit, m_up_miss, m_row_hit, m_row_miss, n_eqm, n_meq, n_meqm, n_ltm, n_lem, n_mlt, n_mle, n_sub, n_div, n_and1, n_shl, n_shr, n_inc, n_mul, n_rem, z_lt, z_le, z_nlt, z_nle, Nat.not_lt_zero, Nat.le_zero_eq, Nat.zero_le, if_true, if_false, hs0, hs1, hs2, hs3, hs4, hs5, hs6, hs7, hs8, hs9, hs10, hs11, hs12, hs13, hs14, hs15, hs16, hs17, hs18, hs19, hs20, hs21, hs22, hs23, hs24, hs25, hs26, s_isS, if_neg hy, if_pos hx]
      unfold q_swp at hQ
      rw [if_neg (fun h => hy h.2)] at hQ
      exact hQ I h Off_refl
  · simp (disch := omega) only [e19_0, e19_1, e19_4, e19_7, e19_8, e19_11, e19_14, e19_15, e19_16, e19_17, e19_18, e19_21, e19_23, e19_26, e19_26N, e19_27, e19_28, e19_29, e19_32, true_or, m_psh_s, m_psh_n, m_kl_i, m_kl_f, m_kl_r, m_kl_n, m_kl_j, m_kl_l, m_kl_d, c_i, c_f, c_r, c_n, List.length_nil, List.length_cons, true_and, and_true, Nat.reduceAdd, Nat.reduceLeDiff, Nat.reduceSub, Nat.reduceEqDiff, Nat.reduceLT, ge_iff_le, gt_iff_lt, n_lit, m_in, m_nar0, m_nar1, and_self, not_false_eq_true, not_true_eq_false, ne_eq, reduceIte, ite_self, Nat.reduceMul, Nat.reduceDiv, Nat.reduceMod, Nat.reducePow, Nat.zero_add, Nat.add_zero, Nat.one_mul, Nat.mul_one, n_in, n_min, n_clamp, n_eq_t, n_eq_f, n_eq, n_le_t, n_le_f, n_le, n_lt_t, n_lt_f, n_lt, n_sub0, n_sublt, n_suble, n_negsub, m_up_hit, m_up_miss, m_row_hit, m_row_miss, n_eqm, n_meq, n_meqm, n_ltm, n_lem, n_mlt, n_mle, n_sub, n_div, n_and1, n_shl, n_shr, n_inc, n_mul, n_rem, z_lt, z_le, z_nlt, z_nle, Nat.not_lt_zero, Nat.le_zero_eq, Nat.zero_le, if_true, if_false, hs0, hs1, hs2, hs3, hs4, hs5, hs6, hs7, hs8, hs9, hs10, hs11, hs12, hs13, hs14, hs15, hs16, hs17, hs18, hs19, hs20, hs21, hs22, hs23, hs24, hs25, hs26, s_isS, if_neg hx]
    unfold q_swp at hQ
    rw [if_neg (fun h => hx h.1)] at hQ
    exact hQ I h Off_refl
theorem GI_eq {I I' : mI} {S' : Nat → Nat} (h : GI I a S) (he : ∀ k, k < 30 → I' (a + 3) k = I (a + 3) k) (h3 : S' 3 = S 3) (hs : ∀ g, g < 16 → S' (4 + 4 * g) = S (4 + 4 * g)) (h16 : S 3 ≤ 16) : GI I' a S' := by
  intro s hs'
  rw [he s hs', h s hs']
  congr 1
  rw [h3]
  exact (q_gin_eq fun g hg => hs g (by omega)).symm
theorem CSh_1 {x k i v : Nat} (h : CSh lay I F R n a S sp hi) (hx : cS x k i) (h3 : i ≠ 3) (h4 : 68 ≤ i ∨ i < 4 ∨ i % 4 ≠ 0) (h16 : S 3 ≤ 16) (ha : a + 13 < 180) : CSh lay (m_up I (a + x) k (nI v)) F R n a (up1 S i v) sp hi := by
  refine CSh_I h (CC_up h.2.1 hx) (GI_eq h.2.2.1 (fun j hj => m_up_miss ?_) (up1_miss (by omega)) (fun g hg => up1_miss (by omega)) h16) (fun p hp _ => m_up_off ?_) (m_up_miss ?_)
  · unfold cS at hx; omega
  · have := cS_lt hx; omega
  · unfold cS at hx; omega
def q_cls (S : Nat → Nat) (x : Int32) : Int32 × (Nat → Nat) := if isS x then (nI ((S 68 ^^^ 2 ^ q_N x) / 2 ^ q_N x % 2), up1 S 68 (S 68 ^^^ 2 ^ q_N x)) else (-nI 1, S)
theorem s_close {x : Int32} (h : CSh lay I F R n a S sp hi) (w : Wsh S) (hc2 : S 68 < 1073741824) (ha : a + 13 < 180) (hd : 1 ≤ d) (hQ : ∀ I', CSh lay I' F R n a (q_cls S x).2 sp hi → Off a (a + 13) I F R I' F R → Q (some (.int (q_cls S x).1)) I' F R n) : Ev lay d 25 0 [.ref a, .int x] [] I F R n Q := by
  have hi' := h.1
  have hc := h.2.1 _ _ _ cS_0_12
  rw [Nat.add_zero] at hc
  obtain ⟨hs0, hs1, hs2, hs3, hs4, hs5, hs6, hs7, hs8, hs9, hs10, hs11, hs12, hs13, hs14, hs15, hs16, hs17, hs18, hs19, hs20, hs21, hs22, hs23, hs24, hs25, hs26⟩ := h.1
  by_cases hx : isS x
  · obtain ⟨k, hk, rfl, hk2⟩ := isS_to hx
    unfold q_cls at hQ
    rw [if_pos hx, hk2] at hQ
    have h2 : 2 ^ k < 1073741824 := Nat.pow_lt_pow_right (a := 2) (n := 30) (by omega) hk
    have h3 : S 68 ^^^ 2 ^ k < 1073741824 := Nat.xor_lt_two_pow (n := 30) hc2 h2
    simp (disch := omega) only [e25_0, e25_1, e25_4, e25_7, e25_8, e25_9, e25_9N, e25_10, e25_11, e25_14, e25_15, e25_16, e25_17, e25_18, e25_21, e25_21N, e25_22, e25_23, true_or, m_psh_s, m_psh_n, m_kl_i, m_kl_f, m_kl_r, m_kl_n, m_kl_j, m_kl_l, m_kl_d, c_i, c_f, c_r, c_n, List.length_nil, List.length_cons, true_and, and_true, Nat.reduceAdd, Nat.reduceLeDiff, Nat.reduceSub, Nat.reduceEqDiff, Nat.reduceLT, ge_iff_le, gt_iff_lt, n_lit, m_in, m_nar0, m_nar1, and_self, not_false_eq_true, not_true_eq_false, ne_eq, reduceIte, ite_self, Nat.reduceMul, Nat.reduceDiv, Nat.reduceMod, Nat.reducePow, Nat.zero_add, Nat.add_zero, Nat.one_mul, Nat.mul_one, n_in, n_min, n_clamp, n_eq_t, n_eq_f, n_eq, n_le_t, n_le_f, n_le, n_lt_t, n_lt_f, n_lt, n_sub0, n_sublt, n_suble, n_negsub, m_up_hit, m_up_miss, m_row_hit, m_row_miss, n_eqm, n_meq, n_meqm, n_ltm, n_lem, n_mlt, n_mle, n_sub, n_div, n_and1, n_shl, n_shr, n_inc, n_mul, n_rem, z_lt, z_le, z_nlt, z_nle, Nat.not_lt_zero, Nat.le_zero_eq, Nat.zero_le, if_true, if_false, hs0, hs1, hs2, hs3, hs4, hs5, hs6, hs7, hs8, hs9, hs10, hs11, hs12, hs13, hs14, hs15, hs16, hs17, hs18, hs19, hs20, hs21, hs22, hs23, hs24, hs25, hs26, s_isS, if_pos hx, hc, n_xor]
    rw [s_isClosed hi' hk m_up_at h3]
    have key := hQ _ (CSh_1 h cS_0_12 (by omega) (by omega) w.1 ha) (Off_I (by omega) (by omega))
    rcases Nat.mod_two_eq_zero_or_one ((S 68 ^^^ 2 ^ k) / 2 ^ k) with e | e
    · rw [e] at key ⊢
      simp (disch := omega) only [e25_26, e25_29, e25_30, e25_33, e25_34, true_or, m_psh_s, m_psh_n, m_kl_i, m_kl_f, m_kl_r, m_kl_n, m_kl_j, m_kl_l, m_kl_d, c_i, c_f, c_r, c_n, List.length_nil, List.length_cons, true_and, and_true, Nat.reduceAdd, Nat.reduceLeDiff, Nat.reduceSub, Nat.reduceEqDiff, Nat.reduceLT, ge_iff_le, gt_iff_lt, n_lit, m_in, m_nar0, m_nar1, and_self, not_false_eq_true, not_true_eq_false, ne_eq, reduceIte, ite_self, Nat.reduceMul, Nat.reduceDiv, Nat.reduceMod, Nat.reducePow, Nat.zero_add, Nat.add_zero, Nat.one_mul, Nat.mul_one, n_in, n_min, n_clamp, n_eq_t, n_eq_f, n_eq, n_le_t, n_le_f, n_le, n_lt_t, n_lt_f, n_lt, n_sub0, n_sublt, n_suble, n_negsub, m_up_hit, m_up_miss, m_row_hit, m_row_miss, n_eqm, n_meq, n_meqm, n_ltm, n_lem, n_mlt, n_mle, n_sub, n_div, n_and1, n_shl, n_shr, n_inc, n_mul, n_rem, z_lt, z_le, z_nlt, z_nle, Nat.not_lt_zero, Nat.le_zero_eq, Nat.zero_le, if_true, if_false]
      exact key
    · rw [e] at key ⊢
      simp (disch := omega) only [e25_26, e25_29, e25_30, e25_33, e25_34, true_or, m_psh_s, m_psh_n, m_kl_i, m_kl_f, m_kl_r, m_kl_n, m_kl_j, m_kl_l, m_kl_d, c_i, c_f, c_r, c_n, List.length_nil, List.length_cons, true_and, and_true, Nat.reduceAdd, Nat.reduceLeDiff, Nat.reduceSub, Nat.reduceEqDiff, Nat.reduceLT, ge_iff_le, gt_iff_lt, n_lit, m_in, m_nar0, m_nar1, and_self, not_false_eq_true, not_true_eq_false, ne_eq, reduceIte, ite_self, Nat.reduceMul, Nat.reduceDiv, Nat.reduceMod, Nat.reducePow, Nat.zero_add, Nat.add_zero, Nat.one_mul, Nat.mul_one, n_in, n_min, n_clamp, n_eq_t, n_eq_f, n_eq, n_le_t, n_le_f, n_le, n_lt_t, n_lt_f, n_lt, n_sub0, n_sublt, n_suble, n_negsub, m_up_hit, m_up_miss, m_row_hit, m_row_miss, n_eqm, n_meq, n_meqm, n_ltm, n_lem, n_mlt, n_mle, n_sub, n_div, n_and1, n_shl, n_shr, n_inc, n_mul, n_rem, z_lt, z_le, z_nlt, z_nle, Nat.not_lt_zero, Nat.le_zero_eq, Nat.zero_le, if_true, if_false]
      exact key
  · simp (disch := omega) only [e25_0, e25_1, e25_4, e25_7, e25_8, e25_9, e25_9N, e25_10, e25_11, e25_14, e25_15, e25_16, e25_17, e25_18, e25_21, e25_21N, e25_22, e25_23, e25_26, e25_29, e25_30, e25_33, e25_34, true_or, m_psh_s, m_psh_n, m_kl_i, m_kl_f, m_kl_r, m_kl_n, m_kl_j, m_kl_l, m_kl_d, c_i, c_f, c_r, c_n, List.length_nil, List.length_cons, true_and, and_true, Nat.reduceAdd, Nat.reduceLeDiff, Nat.reduceSub, Nat.reduceEqDiff, Nat.reduceLT, ge_iff_le, gt_iff_lt, n_lit, m_in, m_nar0, m_nar1, and_self, not_false_eq_true, not_true_eq_false, ne_eq, reduceIte, ite_self, Nat.reduceMul, Nat.reduceDiv, Nat.reduceMod, Nat.reducePow, Nat.zero_add, Nat.add_zero, Nat.one_mul, Nat.mul_one, n_in, n_min, n_clamp, n_eq_t, n_eq_f, n_eq, n_le_t, n_le_f, n_le, n_lt_t, n_lt_f, n_lt, n_sub0, n_sublt, n_suble, n_negsub, m_up_hit, m_up_miss, m_row_hit, m_row_miss, n_eqm, n_meq, n_meqm, n_ltm, n_lem, n_mlt, n_mle, n_sub, n_div, n_and1, n_shl, n_shr, n_inc, n_mul, n_rem, z_lt, z_le, z_nlt, z_nle, Nat.not_lt_zero, Nat.le_zero_eq, Nat.zero_le, if_true, if_false, hs0, hs1, hs2, hs3, hs4, hs5, hs6, hs7, hs8, hs9, hs10, hs11, hs12, hs13, hs14, hs15, hs16, hs17, hs18, hs19, hs20, hs21, hs22, hs23, hs24, hs25, hs26, s_isS, if_neg hx]
    unfold q_cls at hQ
    rw [if_neg hx] at hQ
    exact hQ I h Off_refl
abbrev okS (x y : Int32) : Prop := nI 0 ≤ x ∧ x < nI 3 ∧ nI (if x = nI 2 then 1 else 0) ≤ y ∧ y ≤ nI (if x = nI 1 then 100 else 9)
def q_set (S : Nat → Nat) (x y : Int32) : Int32 × (Nat → Nat) := if okS x y then (nI (S (q_N x)), up1 S (q_N x) (q_N y)) else (-nI 2, S)
theorem s_set {x y : Int32} (h : CSh lay I F R n a S sp hi) (w : Wsh S) (ha : a + 13 < 180) (hQ : ∀ I', CSh lay I' F R n a (q_set S x y).2 sp hi → Off a (a + 13) I F R I' F R → Q (some (.int (q_set S x y).1)) I' F R n) : Ev lay d 12 0 [.ref a, .int x, .int y, m_j, m_j, m_j] [] I F R n Q := by
  have hi' := h.1
  obtain ⟨hs0, hs1, hs2, hs3, hs4, hs5, hs6, hs7, hs8, hs9, hs10, hs11, hs12, hs13, hs14, hs15, hs16, hs17, hs18, hs19, hs20, hs21, hs22, hs23, hs24, hs25, hs26⟩ := h.1
  rcases n_g x with ⟨k, hk, rfl⟩ | h'
  · by_cases hk3 : k < 3
    · have hc := h.2.1 _ _ _ (cS_1 hk3)
      unfold q_set at hQ
      by_cases ok : okS (nI k) y
      · rw [if_pos ok] at hQ
        obtain ⟨o1, o2, o3, o4⟩ := ok
        rcases n_g y with ⟨v, hv, rfl⟩ | h2
        · rw [q_N_n hk, q_N_n hv] at hQ
          have key := hQ _ (CSh_1 h (cS_1 hk3) (by omega) (by omega) w.1 ha) (Off_I (by omega) (by omega))
          simp (disch := omega) only [n_eq, n_le] at o3 o4
          have : k = 0 ∨ k = 1 ∨ k = 2 := by omega
          rcases this with rfl | rfl | rfl <;> simp at o3 o4 <;> rw [n_le (by omega) (by omega)] at o3 o4 <;> simp (disch := omega) only [e12_0, e12_1, e12_4, e12_5, e12_6, e12_9, e12_11, e12_12, e12_13, e12_14, e12_17, e12_18, e12_21, e12_22, e12_23, e12_24, e12_25, e12_28, e12_30, e12_33, e12_35, e12_37, e12_38, e12_39, e12_42, e12_43, e12_45, e12_48, e12_50, e12_51, e12_51N, e12_52, e12_55, e12_56, e12_57, e12_59, e12_59N, e12_60, e12_63, e12_64, e12_65, e12_66, e12_68, true_or, m_psh_s, m_psh_n, m_kl_i, m_kl_f, m_kl_r, m_kl_n, m_kl_j, m_kl_l, m_kl_d, c_i, c_f, c_r, c_n, List.length_nil, List.length_cons, true_and, and_true, Nat.reduceAdd, Nat.reduceLeDiff, Nat.reduceSub, Nat.reduceEqDiff, Nat.reduceLT, ge_iff_le, gt_iff_lt, n_lit, m_in, m_nar0, m_nar1, and_self, not_false_eq_true, not_true_eq_false, ne_eq, reduceIte, ite_self, Nat.reduceMul, Nat.reduceDiv, Nat.reduceMod, Nat.reducePow, Nat.zero_add, Nat.add_zero, Nat.one_mul, Nat.mul_one, n_in, n_min, n_clamp, n_eq_t, n_eq_f, n_eq, n_le_t, n_le_f, n_le, n_lt_t, n_lt_f, n_lt, n_sub0, n_sublt, n_suble, n_negsub, m_up_hit, m_up_miss, m_row_hit, m_row_miss, n_eqm, n_meq, n_meqm, n_ltm, n_lem, n_mlt, n_mle, n_sub, n_div, n_and1, n_shl, n_shr, n_inc, n_mul, n_rem, z_lt, z_le, z_nlt, z_nle, Nat.not_lt_zero, Nat.le_zero_eq, Nat.zero_le, if_true, if_false, hs0, hs1, hs2, hs3, hs4, hs5, hs6, hs7, hs8, hs9, hs10, hs11, hs12, hs13, hs14, hs15, hs16, hs17, hs18, hs19, hs20, hs21, hs22, hs23, hs24, hs25, hs26, hc] <;> exact key
        · exfalso
          rw [n_g2 h2 (by split <;> omega)] at o3
          exact o3
      · rw [if_neg ok] at hQ
        have key := hQ _ h Off_refl
        rcases n_g y with ⟨v, hv, rfl⟩ | h2
        · have ok2 : ¬((if k = 2 then 1 else 0) ≤ v ∧ v ≤ if k = 1 then 100 else 9) := by
            intro hh
            refine ok ⟨(n_le (by omega) hk).mpr (by omega), (n_lt hk (by omega)).mpr hk3, ?_⟩
            simp (disch := omega) only [n_eq]
            rw [n_le (by split <;> omega) hv, n_le hv (by split <;> omega)]
            exact hh
          have : k = 0 ∨ k = 1 ∨ k = 2 := by omega
          rcases this with rfl | rfl | rfl <;> simp at ok2 <;> simp (disch := omega) only [e12_0, e12_1, e12_4, e12_5, e12_6, e12_9, e12_11, e12_12, e12_13, e12_14, e12_17, e12_18, e12_21, e12_22, e12_23, e12_24, e12_25, e12_28, e12_30, e12_33, e12_35, e12_37, e12_38, e12_39, e12_42, e12_43, e12_45, e12_48, e12_50, e12_51, e12_51N, e12_52, e12_55, e12_56, e12_57, e12_59, e12_59N, e12_60, e12_63, e12_64, e12_65, e12_66, e12_68, true_or, m_psh_s, m_psh_n, m_kl_i, m_kl_f, m_kl_r, m_kl_n, m_kl_j, m_kl_l, m_kl_d, c_i, c_f, c_r, c_n, List.length_nil, List.length_cons, true_and, and_true, Nat.reduceAdd, Nat.reduceLeDiff, Nat.reduceSub, Nat.reduceEqDiff, Nat.reduceLT, ge_iff_le, gt_iff_lt, n_lit, m_in, m_nar0, m_nar1, and_self, not_false_eq_true, not_true_eq_false, ne_eq, reduceIte, ite_self, Nat.reduceMul, Nat.reduceDiv, Nat.reduceMod, Nat.reducePow, Nat.zero_add, Nat.add_zero, Nat.one_mul, Nat.mul_one, n_in, n_min, n_clamp, n_eq_t, n_eq_f, n_eq, n_le_t, n_le_f, n_le, n_lt_t, n_lt_f, n_lt, n_sub0, n_sublt, n_suble, n_negsub, m_up_hit, m_up_miss, m_row_hit, m_row_miss, n_eqm, n_meq, n_meqm, n_ltm, n_lem, n_mlt, n_mle, n_sub, n_div, n_and1, n_shl, n_shr, n_inc, n_mul, n_rem, z_lt, z_le, z_nlt, z_nle, Nat.not_lt_zero, Nat.le_zero_eq, Nat.zero_le, if_true, if_false, hs0, hs1, hs2, hs3, hs4, hs5, hs6, hs7, hs8, hs9, hs10, hs11, hs12, hs13, hs14, hs15, hs16, hs17, hs18, hs19, hs20, hs21, hs22, hs23, hs24, hs25, hs26, hc] <;> exact key
        · have : k = 0 ∨ k = 1 ∨ k = 2 := by omega
          rcases this with rfl | rfl | rfl <;> simp (disch := first | omega | assumption) only [e12_0, e12_1, e12_4, e12_5, e12_6, e12_9, e12_11, e12_12, e12_13, e12_14, e12_17, e12_18, e12_21, e12_22, e12_23, e12_24, e12_25, e12_28, e12_30, e12_33, e12_35, e12_37, e12_38, e12_39, e12_42, e12_43, e12_45, e12_48, e12_50, e12_51, e12_51N, e12_52, e12_55, e12_56, e12_57, e12_59, e12_59N, e12_60, e12_63, e12_64, e12_65, e12_66, e12_68, true_or, m_psh_s, m_psh_n, m_kl_i, m_kl_f, m_kl_r, m_kl_n, m_kl_j, m_kl_l, m_kl_d, c_i, c_f, c_r, c_n, List.length_nil, List.length_cons, true_and, and_true, Nat.reduceAdd, Nat.reduceLeDiff, Nat.reduceSub, Nat.reduceEqDiff, Nat.reduceLT, ge_iff_le, gt_iff_lt, n_lit, m_in, m_nar0, m_nar1, and_self, not_false_eq_true, not_true_eq_false, ne_eq, reduceIte, ite_self, Nat.reduceMul, Nat.reduceDiv, Nat.reduceMod, Nat.reducePow, Nat.zero_add, Nat.add_zero, Nat.one_mul, Nat.mul_one, n_in, n_min, n_clamp, n_eq_t, n_eq_f, n_eq, n_le_t, n_le_f, n_le, n_lt_t, n_lt_f, n_lt, n_sub0, n_sublt, n_suble, n_negsub, m_up_hit, m_up_miss, m_row_hit, m_row_miss, n_eqm, n_meq, n_meqm, n_ltm, n_lem, n_mlt, n_mle, n_sub, n_div, n_and1, n_shl, n_shr, n_inc, n_mul, n_rem, z_lt, z_le, z_nlt, z_nle, Nat.not_lt_zero, Nat.le_zero_eq, Nat.zero_le, if_true, if_false, n_g1, n_g2, n_g3, n_g4, n_g5, hs0, hs1, hs2, hs3, hs4, hs5, hs6, hs7, hs8, hs9, hs10, hs11, hs12, hs13, hs14, hs15, hs16, hs17, hs18, hs19, hs20, hs21, hs22, hs23, hs24, hs25, hs26, hc] <;> exact key
    · unfold q_set at hQ
      rw [if_neg (by intro hh; have := hh.2.1; rw [n_lt hk (by omega)] at this; exact hk3 this)] at hQ
      simp (disch := omega) only [e12_0, e12_1, e12_4, e12_5, e12_6, e12_9, e12_11, e12_12, e12_13, e12_14, e12_17, e12_18, e12_21, e12_22, e12_23, e12_24, e12_25, e12_28, e12_30, e12_33, e12_35, e12_37, e12_38, e12_39, e12_42, e12_43, e12_45, e12_48, e12_50, e12_51, e12_51N, e12_52, e12_55, e12_56, e12_57, e12_59, e12_59N, e12_60, e12_63, e12_64, e12_65, e12_66, e12_68, true_or, m_psh_s, m_psh_n, m_kl_i, m_kl_f, m_kl_r, m_kl_n, m_kl_j, m_kl_l, m_kl_d, c_i, c_f, c_r, c_n, List.length_nil, List.length_cons, true_and, and_true, Nat.reduceAdd, Nat.reduceLeDiff, Nat.reduceSub, Nat.reduceEqDiff, Nat.reduceLT, ge_iff_le, gt_iff_lt, n_lit, m_in, m_nar0, m_nar1, and_self, not_false_eq_true, not_true_eq_false, ne_eq, reduceIte, ite_self, Nat.reduceMul, Nat.reduceDiv, Nat.reduceMod, Nat.reducePow, Nat.zero_add, Nat.add_zero, Nat.one_mul, Nat.mul_one, n_in, n_min, n_clamp, n_eq_t, n_eq_f, n_eq, n_le_t, n_le_f, n_le, n_lt_t, n_lt_f, n_lt, n_sub0, n_sublt, n_suble, n_negsub, m_up_hit, m_up_miss, m_row_hit, m_row_miss, n_eqm, n_meq, n_meqm, n_ltm, n_lem, n_mlt, n_mle, n_sub, n_div, n_and1, n_shl, n_shr, n_inc, n_mul, n_rem, z_lt, z_le, z_nlt, z_nle, Nat.not_lt_zero, Nat.le_zero_eq, Nat.zero_le, if_true, if_false, hs0, hs1, hs2, hs3, hs4, hs5, hs6, hs7, hs8, hs9, hs10, hs11, hs12, hs13, hs14, hs15, hs16, hs17, hs18, hs19, hs20, hs21, hs22, hs23, hs24, hs25, hs26]
      exact hQ _ h Off_refl
  · unfold q_set at hQ
    rw [if_neg (by intro hh; have := hh.1; rw [n_g2 h' (by omega)] at this; exact this)] at hQ
    simp (disch := first | omega | assumption) only [e12_0, e12_1, e12_4, e12_5, e12_6, e12_9, e12_11, e12_12, e12_13, e12_14, e12_17, e12_18, e12_21, e12_22, e12_23, e12_24, e12_25, e12_28, e12_30, e12_33, e12_35, e12_37, e12_38, e12_39, e12_42, e12_43, e12_45, e12_48, e12_50, e12_51, e12_51N, e12_52, e12_55, e12_56, e12_57, e12_59, e12_59N, e12_60, e12_63, e12_64, e12_65, e12_66, e12_68, true_or, m_psh_s, m_psh_n, m_kl_i, m_kl_f, m_kl_r, m_kl_n, m_kl_j, m_kl_l, m_kl_d, c_i, c_f, c_r, c_n, List.length_nil, List.length_cons, true_and, and_true, Nat.reduceAdd, Nat.reduceLeDiff, Nat.reduceSub, Nat.reduceEqDiff, Nat.reduceLT, ge_iff_le, gt_iff_lt, n_lit, m_in, m_nar0, m_nar1, and_self, not_false_eq_true, not_true_eq_false, ne_eq, reduceIte, ite_self, Nat.reduceMul, Nat.reduceDiv, Nat.reduceMod, Nat.reducePow, Nat.zero_add, Nat.add_zero, Nat.one_mul, Nat.mul_one, n_g1, n_g2, n_g3, n_g4, n_g5, hs0, hs1, hs2, hs3, hs4, hs5, hs6, hs7, hs8, hs9, hs10, hs11, hs12, hs13, hs14, hs15, hs16, hs17, hs18, hs19, hs20, hs21, hs22, hs23, hs24, hs25, hs26]
    exact hQ _ h Off_refl
end SHEDB
