section BITF
variable {lay : mL} {d n : Nat} {I : mI} {F : mF} {R : mR} {Q : mP} {w : UInt64}
theorem f_nan {X : Nat} (hX : X < 2139095040) : FP.fIsNaN (fl X) = false := by
  obtain ⟨c, t, e1, -⟩ := fp_rep fGd32 (fl_G.mpr hX)
  show decide (FP.Core.decode FP.Core.b32 (fl X).toNat = .nan) = false
  rw [fl_n hX, e1]
  exact decide_eq_false nofun
theorem f2d_W {X Y : Nat} (hX : X < 2139095040) (hY : Y < 9218868437227405312) (e : fW FP.Core.b64 Y = fW FP.Core.b32 X * 2 ^ 925) : FP.f2d (fl X) = dl Y := by
  have hn : FP.Core.fIsNaN (fl X) = false := f_nan hX
  unfold FP.f2d
  rw [hn, if_neg (by decide)]
  show UInt64.ofNat (FP.Core.convert FP.Core.b32 FP.Core.b64 (fl X).toNat) = dl Y
  rw [fl_n hX]
  rw [← fl_V hX, ← dl_V hY] at e
  have r := rd_conv (k := 925) fGd32 fGd64 (fl_G.mpr hX) (by rw [fl_fu, dl_fu]) ⟨_, fRp_of fGd64 (dl_G.mpr hY), Nat.le_of_eq e.symm⟩
  rw [rd_eq r (by decide) fGd64 (dl_G.mpr hY) (by rw [e, Nat.mul_one])]
  rfl
theorem f2d_n {E T : Nat} (h1 : 1 ≤ E) (h2 : E ≤ 254) (hT : T < 8388608) : FP.f2d (fl (E * 8388608 + T)) = dl ((E + 896) * 4503599627370496 + T * 536870912) := by
  refine f2d_W (by omega) (by omega) ?_
  rw [dl_at (by omega) (by omega), fl_at h1 hT, Nat.mul_assoc, ← Nat.pow_add, show E - 1 + 925 = 29 + (E + 896 - 1) by omega, Nat.pow_add, ← Nat.mul_assoc]
  congr 1
  omega
theorem lg_of {x : Nat} (h : 0 < x) : 2 ^ x.log2 ≤ x ∧ x < 2 * 2 ^ x.log2 := ⟨Nat.log2_self_le (by omega), by
  have := Nat.lt_log2_self (n := x)
  rw [Nat.pow_succ] at this
  omega⟩
theorem p_split {a b m : Nat} (h : a + b = m) : 2 ^ a * 2 ^ b = 2 ^ m := by rw [← Nat.pow_add, h]
theorem f2d_s {x l : Nat} (h0 : 2 ^ l ≤ x) (h1 : x < 2 * 2 ^ l) (hl : l ≤ 22) (h2 : x < 8388608) : (x - 2 ^ l) * 2 ^ (52 - l) < 4503599627370496 ∧ 4503599627370496 + (x - 2 ^ l) * 2 ^ (52 - l) = x * 2 ^ (52 - l) ∧ FP.f2d (fl x) = dl ((l + 874) * 4503599627370496 + (x - 2 ^ l) * 2 ^ (52 - l)) := by
  have e1 : 2 ^ l * 2 ^ (52 - l) = 4503599627370496 := by rw [p_split (show l + (52 - l) = 52 by omega)]
  have hp := Nat.two_pow_pos (52 - l)
  have a1 : (x - 2 ^ l) * 2 ^ (52 - l) < 4503599627370496 := by
    rw [← e1]
    exact Nat.mul_lt_mul_of_pos_right (by omega) hp
  have a2 : 4503599627370496 + (x - 2 ^ l) * 2 ^ (52 - l) = x * 2 ^ (52 - l) := by
    rw [← e1, ← Nat.add_mul]
    congr 1
    omega
  refine ⟨a1, a2, ?_⟩
  refine f2d_W (by omega) (by omega) ?_
  rw [dl_at (by omega) a1, a2, fW_sub (by rw [fl_tl]; omega), Nat.mul_assoc, p_split (show 52 - l + (l + 874 - 1) = 925 by omega)]
theorem d_sc2 {T : Nat} (hT : T < 4503599627370496) : ∃ W, W < 9218868437227405312 ∧ FP.dmul (dl (4607182418800017408 + T)) 4710765210229538816 = dl W ∧ FP.d2i (dl W) = nI ((4503599627370496 + T) / 536870912) := by
  have hX : 4607182418800017408 + T < 9218868437227405312 := by omega
  have hY : 4710765210229538816 < 9218868437227405312 := by decide
  have hw : fRp FP.Core.b64 ((4503599627370496 + T) * 2 ^ 1045) := dl_rp (by omega) (by omega)
  have wS : fW FP.Core.b64 4710765210229538816 = 2 ^ 1097 := by decide +kernel
  have h := dl_at (E := 1023) (by decide) hT
  rw [show 1023 - 1 = 1022 from rfl, show 1023 * 4503599627370496 = 4607182418800017408 from rfl] at h
  have e2 : fV FP.Core.b64 (4607182418800017408 + T) * fV FP.Core.b64 4710765210229538816 = (4503599627370496 + T) * 2 ^ 1045 * 2 ^ fu FP.Core.b64 := by
    rw [dl_V hX, dl_V hY, wS, dl_fu, h, Nat.mul_assoc, Nat.mul_assoc, p_split (show 1022 + 1097 = 2119 from rfl), p_split (show 1045 + 1074 = 2119 from rfl)]
  have r := rd_mul dl_gd (dl_G.mpr hX) (dl_G.mpr hY) ⟨_, hw, Nat.le_of_eq e2⟩
  obtain ⟨g1, g2⟩ := rd_exact r (Nat.two_pow_pos _) hw e2
  have hW := dl_G.mp g1
  refine ⟨FP.Core.mul FP.Core.b64 (4607182418800017408 + T) 4710765210229538816, hW, ?_, ?_⟩
  · show UInt64.ofNat (FP.Core.mul FP.Core.b64 (dl (4607182418800017408 + T)).toNat (dl 4710765210229538816).toNat) = _
    rw [dl_n hX, dl_n hY]
    rfl
  · have e3 : fV FP.Core.b64 (FP.Core.mul FP.Core.b64 (4607182418800017408 + T) 4710765210229538816) / 2 ^ fu FP.Core.b64 = (4503599627370496 + T) / 536870912 := by
      rw [g2, dl_fu, ← p_split (show 29 + 1045 = 1074 from rfl), Nat.mul_div_mul_right _ _ (Nat.two_pow_pos _)]
    show Int32.ofInt (FP.Core.toInt _ _ (FP.Core.decode FP.Core.b64 (dl (FP.Core.mul FP.Core.b64 (4607182418800017408 + T) 4710765210229538816)).toNat)) = _
    rw [dl_n hW, fp_toInt dl_gd g1 (by decide) (by rw [e3]; show (((4503599627370496 + T) / 536870912 : Nat) : Int) ≤ 2147483647; omega), e3]
    rfl
theorem s_ofFloat' {x : UInt32} (hx : x.toNat < 2139095040) (hd : 1 ≤ d) : Ev lay d 50 0 [.float x, m_j, m_j] [] I F R n Q ↔ Q (some (.int (nI x.toNat))) I F R n := by
  have ex := fl_of x
  generalize x.toNat = X at hx ex
  subst ex
  by_cases c0 : X = 0
  · subst c0
    simp (disch := omega) only [e50_0, e50_1, e50_2, e50_3, e50_6, e50_7, true_or, m_psh_s, m_psh_n, m_kl_i, m_kl_f, m_kl_r, m_kl_n, m_kl_j, m_kl_l, m_kl_d, c_i, c_f, c_r, c_n, List.length_nil, List.length_cons, true_and, and_true, Nat.reduceAdd, Nat.reduceLeDiff, Nat.reduceSub, Nat.reduceEqDiff, Nat.reduceLT, ge_iff_le, gt_iff_lt, n_lit, m_in, m_nar0, m_nar1, and_self, not_false_eq_true, not_true_eq_false, ne_eq, reduceIte, ite_self, Nat.reduceMul, Nat.reduceDiv, Nat.reduceMod, Nat.reducePow, Nat.zero_add, Nat.add_zero, Nat.one_mul, Nat.mul_one, n_in, n_min, n_clamp, n_eq_t, n_eq_f, n_eq, n_le_t, n_le_f, n_le, n_lt_t, n_lt_f, n_lt, n_sub0, n_sublt, n_suble, n_negsub, m_up_hit, m_up_miss, m_row_hit, m_row_miss, n_eqm, n_meq, n_meqm, n_ltm, n_lem, n_mlt, n_mle, n_sub, n_div, n_and1, n_shl, n_shr, n_inc, n_mul, n_rem, z_lt, z_le, z_nlt, z_nle, Nat.not_lt_zero, Nat.le_zero_eq, Nat.zero_le, if_true, if_false, fl_c0, cv_gt_f]
  have pre : ∀ E T, T < 4503599627370496 → 1 ≤ E → E ≤ 2046 → FP.f2d (fl X) = dl (E * 4503599627370496 + T) → (Ev lay d 50 0 [.float (fl X), m_j, m_j] [] I F R n Q ↔ Ev lay d 50 26 [.float (fl X), .int (eI E), .int (nI ((4503599627370496 + T) / 536870912))] [] I F R n Q) := fun E T hT h1 h2 ef => by
    have k1 : ∀ (d) (Q : mP), _ := fun d Q => s_expo (lay := lay) (d := d) (I := I) (F := F) (R := R) (n := n) (Q := Q) (E := E) hT h1 h2
    have k2 : ∀ (d) (Q : mP), _ := fun d Q => s_scal (lay := lay) (d := d) (I := I) (F := F) (R := R) (n := n) (Q := Q) (E := E) hT h1 h2
    obtain ⟨W, w1, w2, w3⟩ := d_sc2 hT
    have v1 := dl_vf (X := E * 4503599627370496 + T) (by omega)
    have v2 := dl_vf w1
    simp (disch := omega) only [e50_0, e50_1, e50_2, e50_3, e50_8, e50_9, e50_10, e50_13, e50_14, e50_15, e50_16, e50_17, e50_20, e50_23, e50_24, e50_25, true_or, m_psh_s, m_psh_n, m_kl_i, m_kl_f, m_kl_r, m_kl_n, m_kl_j, m_kl_l, m_kl_d, c_i, c_f, c_r, c_n, List.length_nil, List.length_cons, true_and, and_true, Nat.reduceAdd, Nat.reduceLeDiff, Nat.reduceSub, Nat.reduceEqDiff, Nat.reduceLT, ge_iff_le, gt_iff_lt, n_lit, m_in, m_nar0, m_nar1, and_self, not_false_eq_true, not_true_eq_false, ne_eq, reduceIte, ite_self, Nat.reduceMul, Nat.reduceDiv, Nat.reduceMod, Nat.reducePow, Nat.zero_add, Nat.add_zero, Nat.one_mul, Nat.mul_one, n_in, n_min, n_clamp, n_eq_t, n_eq_f, n_eq, n_le_t, n_le_f, n_le, n_lt_t, n_lt_f, n_lt, n_sub0, n_sublt, n_suble, n_negsub, m_up_hit, m_up_miss, m_row_hit, m_row_miss, n_eqm, n_meq, n_meqm, n_ltm, n_lem, n_mlt, n_mle, n_sub, n_div, n_and1, n_shl, n_shr, n_inc, n_mul, n_rem, z_lt, z_le, z_nlt, z_nle, Nat.not_lt_zero, Nat.le_zero_eq, Nat.zero_le, if_true, if_false, fl_c0, cv_gt_t, ef, k1, k2, w2, w3, v1, v2]
  by_cases c : 8388608 ≤ X
  · obtain ⟨E, T, rfl, hT⟩ := ET X (m := 8388608) (by decide)
    have hE : 1 ≤ E ∧ E ≤ 254 := by omega
    have hp := pre (E + 896) (T * 536870912) (Nat.mul_lt_mul_of_pos_right hT (by decide)) (by omega) (by omega) (f2d_n hE.1 hE.2 hT)
    have e2 : (4503599627370496 + T * 536870912) / 536870912 = 8388608 + T := by omega
    clear pre c c0 hx
    rw [hp, e2]
    clear hp e2
    have cE : -nI 126 ≤ eI (E + 896) ↔ True := by
      unfold eI
      split
      · exact n_mle (by omega) (by omega)
      · exact n_mlem_t (by omega) (by omega)
    have e1 := eI_add (E := E + 896) (m := 127) (by omega) (by omega) (by decide)
    rw [show E + 896 + 127 - 1023 = E by omega] at e1
    simp (disch := omega) only [e50_26, e50_27, e50_29, e50_44, e50_45, e50_47, e50_48, e50_50, e50_51, e50_52, e50_54, e50_55, e50_56, true_or, m_psh_s, m_psh_n, m_kl_i, m_kl_f, m_kl_r, m_kl_n, m_kl_j, m_kl_l, m_kl_d, c_i, c_f, c_r, c_n, List.length_nil, List.length_cons, true_and, and_true, Nat.reduceAdd, Nat.reduceLeDiff, Nat.reduceSub, Nat.reduceEqDiff, Nat.reduceLT, ge_iff_le, gt_iff_lt, n_lit, m_in, m_nar0, m_nar1, and_self, not_false_eq_true, not_true_eq_false, ne_eq, reduceIte, ite_self, Nat.reduceMul, Nat.reduceDiv, Nat.reduceMod, Nat.reducePow, Nat.zero_add, Nat.add_zero, Nat.one_mul, Nat.mul_one, n_in, n_min, n_clamp, n_eq_t, n_eq_f, n_eq, n_le_t, n_le_f, n_le, n_lt_t, n_lt_f, n_lt, n_sub0, n_sublt, n_suble, n_negsub, m_up_hit, m_up_miss, m_row_hit, m_row_miss, n_eqm, n_meq, n_meqm, n_ltm, n_lem, n_mlt, n_mle, n_sub, n_div, n_and1, n_shl, n_shr, n_inc, n_mul, n_rem, z_lt, z_le, z_nlt, z_nle, Nat.not_lt_zero, Nat.le_zero_eq, Nat.zero_le, if_true, if_false, cE, e1, Nat.add_sub_cancel_left]
  · obtain ⟨l0, l1⟩ := lg_of (x := X) (by omega)
    have hl : X.log2 ≤ 22 := by
      apply Nat.le_of_lt_succ
      apply (Nat.pow_lt_pow_iff_right (by decide : 1 < 2)).mp
      exact Nat.lt_of_le_of_lt l0 (show X < 8388608 by omega)
    generalize X.log2 = l at l0 l1 hl
    obtain ⟨a1, a2, a3⟩ := f2d_s l0 l1 hl (by omega)
    have hp := Nat.two_pow_pos (23 - l)
    have e2 : (4503599627370496 + (X - 2 ^ l) * 2 ^ (52 - l)) / 536870912 = X * 2 ^ (23 - l) := by
      rw [a2, ← p_split (show 23 - l + 29 = 52 - l by omega), ← Nat.mul_assoc]
      exact Nat.mul_div_cancel _ (by decide)
    have e3 : X * 2 ^ (23 - l) < 16777216 := by
      calc X * 2 ^ (23 - l) < 2 * 2 ^ l * 2 ^ (23 - l) := Nat.mul_lt_mul_of_pos_right l1 hp
        _ = 2 * (2 ^ l * 2 ^ (23 - l)) := Nat.mul_assoc ..
        _ = 16777216 := by rw [p_split (show l + (23 - l) = 23 by omega)]
    have e4 : eI (l + 874) = -nI (149 - l) := by
      unfold eI
      rw [if_neg (by omega), show 1023 - (l + 874) = 149 - l by omega]
    have e5 : -nI 126 - -nI (149 - l) = nI (23 - l) := by
      rw [Int32.sub_eq_add_neg, Int32.neg_neg, Int32.add_comm, ← Int32.sub_eq_add_neg, n_sub (by omega), show 149 - l - 126 = 23 - l by omega]
    have cE : -nI 126 ≤ -nI (149 - l) ↔ False := n_mlem_f (by omega) (by omega)
    have e6 : nI (X * 2 ^ (23 - l)) >>> (nI (23 - l) &&& nI 31) = nI X := by
      rw [n_shr (by omega) (by omega), Nat.mul_div_cancel _ hp]
    rw [pre (l + 874) _ a1 (by omega) (by omega) a3, e2, e4]
    simp (disch := omega) only [e50_26, e50_27, e50_29, e50_32, e50_33, e50_35, e50_36, e50_37, e50_39, e50_42, e50_43, true_or, m_psh_s, m_psh_n, m_kl_i, m_kl_f, m_kl_r, m_kl_n, m_kl_j, m_kl_l, m_kl_d, c_i, c_f, c_r, c_n, List.length_nil, List.length_cons, true_and, and_true, Nat.reduceAdd, Nat.reduceLeDiff, Nat.reduceSub, Nat.reduceEqDiff, Nat.reduceLT, ge_iff_le, gt_iff_lt, n_lit, m_in, m_nar0, m_nar1, and_self, not_false_eq_true, not_true_eq_false, ne_eq, reduceIte, ite_self, Nat.reduceMul, Nat.reduceDiv, Nat.reduceMod, Nat.reducePow, Nat.zero_add, Nat.add_zero, Nat.one_mul, Nat.mul_one, n_in, n_min, n_clamp, n_eq_t, n_eq_f, n_eq, n_le_t, n_le_f, n_le, n_lt_t, n_lt_f, n_lt, n_sub0, n_sublt, n_suble, n_negsub, m_up_hit, m_up_miss, m_row_hit, m_row_miss, n_eqm, n_meq, n_meqm, n_ltm, n_lem, n_mlt, n_mle, n_sub, n_div, n_and1, n_shl, n_shr, n_inc, n_mul, n_rem, z_lt, z_le, z_nlt, z_nle, Nat.not_lt_zero, Nat.le_zero_eq, Nat.zero_le, if_true, if_false, cE, e5, e6]
end BITF
