-- rows wb_* here began as the family of that name in kit/laws/BITS
section PUT
variable {lay : mL} {d a n n' : Nat} {I I' : mI} {F F' : mF} {R R' : mR} {Q : mP} {S : Nat → Nat} {sp : Nat → UInt32} {hi : List Nat} {nx pl : Nat} {hs : List St} {pc : Nat → Nat} {sv : Nat → Option St}
theorem l_lit (n : Nat) : (OfNat.ofNat n : Int64) = lN (OfNat.ofNat n) := rfl
theorem wb_tb (n : Nat) : (lN n).toBitVec = BitVec.ofNat 64 n := rfl
theorem wb_inj {a b : Int64} (h : a.toBitVec = b.toBitVec) : a = b := Int64.toBitVec_inj.mp h
theorem wb_tn {n : Nat} (h : n < 2 ^ 64) : (lN n).toBitVec.toNat = n := by rw [wb_tb, BitVec.toNat_ofNat, Nat.mod_eq_of_lt h]
theorem wb_of (x : Int64) : ∃ n, n < 2 ^ 64 ∧ x = lN n := ⟨x.toBitVec.toNat, x.toBitVec.isLt, wb_inj (by rw [wb_tb]; simp)⟩
theorem wb_cu : ∀ k, k < 64 → ((nI k).toInt64.toUInt64 &&& Int64.toUInt64 63) = UInt64.ofNat k := by decide +kernel
theorem wb_shr {n k : Nat} (hk : k < 64) (hn : n < 18446744073709551616) : ((lN n).toUInt64 >>> ((nI k).toInt64.toUInt64 &&& (lN 63).toUInt64)).toInt64 = lN (n / 2 ^ k) := by
  have e : ((nI k).toInt64.toUInt64 &&& (lN 63).toUInt64) = UInt64.ofNat k := wb_cu k hk
  rw [e]
  apply wb_inj
  apply BitVec.eq_of_toNat_eq
  show ((lN n).toUInt64 >>> UInt64.ofNat k).toNat = (BitVec.ofNat 64 _).toNat
  have h1 : (UInt64.ofNat k).toNat = k := by
    show (BitVec.ofNat 64 k).toNat = k
    rw [BitVec.toNat_ofNat, Nat.mod_eq_of_lt (by omega)]
  have h2 : (lN n).toUInt64.toNat = n := wb_tn hn
  rw [UInt64.toNat_shiftRight, h1, h2, Nat.mod_eq_of_lt hk, Nat.shiftRight_eq_div_pow, BitVec.toNat_ofNat, Nat.mod_eq_of_lt (Nat.lt_of_le_of_lt (Nat.div_le_self _ _) hn)]
theorem wb_and {a b : Nat} (ha : a < 2 ^ 64) (hb : b < 2 ^ 64) : lN a &&& lN b = lN (a &&& b) := by
  apply wb_inj
  rw [Int64.toBitVec_and, wb_tb, wb_tb, wb_tb]
  apply BitVec.eq_of_toNat_eq
  rw [BitVec.toNat_and, BitVec.toNat_ofNat, BitVec.toNat_ofNat, BitVec.toNat_ofNat, Nat.mod_eq_of_lt ha, Nat.mod_eq_of_lt hb, Nat.mod_eq_of_lt (Nat.and_lt_two_pow _ hb)]
theorem l_and {n : Nat} (hn : n < 18446744073709551616) : lN n &&& lN 255 = lN (n % 256) := by
  rw [wb_and hn (by omega), show (255 : Nat) = 2 ^ 8 - 1 from rfl, Nat.and_two_pow_sub_one_eq_mod]
theorem l_cmp {n : Nat} (hn : n < 18446744073709551616) : lg_cmp (lN n) (lN 0) = nI 0 ↔ n = 0 := by
  have key : lN n = lN 0 ↔ n = 0 := by
    constructor
    · intro h
      have : (lN n).toBitVec.toNat = (lN 0).toBitVec.toNat := by rw [h]
      rw [wb_tn hn, wb_tn (by omega)] at this
      exact this
    · intro h; rw [h]
  unfold lg_cmp
  rw [← key]
  constructor
  · intro h
    split at h
    · exact absurd h (by decide)
    · split at h
      · assumption
      · exact absurd h (by decide)
  · intro h
    rw [h]
    rfl
theorem l_toI (n : Nat) : (lN n).toInt32 = nI n := by
  apply Int32.toBitVec_inj.1
  show (lN n).toInt32.toBitVec = BitVec.ofNat 32 n
  rw [Int64.toBitVec_toInt32, wb_tb, BitVec.signExtend_eq_setWidth_of_le _ (by decide)]
  apply BitVec.eq_of_toNat_eq
  rw [BitVec.toNat_setWidth, BitVec.toNat_ofNat, BitVec.toNat_ofNat]
  exact Nat.mod_mod_of_dvd _ (by decide)
def q_scan (u : Nat) : Nat → Nat → Option Nat
  | 0, k => if u / 2 ^ (8 * k) = 0 then some k else none
  | f + 1, k => if u / 2 ^ (8 * k) % 256 = 0 then (if u / 2 ^ (8 * k) = 0 then some k else none) else if 33 ≤ u / 2 ^ (8 * k) % 256 ∧ u / 2 ^ (8 * k) % 256 ≤ 126 then q_scan u f (k + 1) else none
def q_put (pl : Nat) (u : Nat) : Int32 := match q_scan u 8 0 with
  | none => -nI 2
  | some 0 => -nI 2
  | some (m + 1) => if 80 < pl + (m + 1) then -nI 4 else nI (pl + (m + 1))
def q_ptl (pl : Nat) (u : Nat) : Nat := match q_scan u 8 0 with
  | none => pl
  | some 0 => pl
  | some (m + 1) => if 80 < pl + (m + 1) then pl else pl + (m + 1)
def q_ptc (pl : Nat) (pc : Nat → Nat) (u : Nat) : Nat → Nat := match q_scan u 8 0 with
  | none => pc
  | some 0 => pc
  | some (m + 1) => fun k => if pl ≤ k then u / 2 ^ (8 * (pl + m - k)) % 256 else pc k
theorem q_scan_le {u : Nat} (f : Nat) : ∀ k m, q_scan u f k = some m → k ≤ m ∧ m ≤ k + f ∧ (∀ j, k ≤ j → j < m → 33 ≤ u / 2 ^ (8 * j) % 256 ∧ u / 2 ^ (8 * j) % 256 ≤ 126) := by
  induction f with
  | zero =>
    intro k m h
    rw [q_scan] at h
    split at h
    · cases h; exact ⟨Nat.le_refl _, by omega, fun j h1 h2 => by omega⟩
    · cases h
  | succ f ih =>
    intro k m h
    rw [q_scan] at h
    split at h
    · split at h
      · cases h; exact ⟨Nat.le_refl _, by omega, fun j h1 h2 => by omega⟩
      · cases h
    · split at h
      · rename_i c
        obtain ⟨i1, i2, i3⟩ := ih _ _ h
        refine ⟨by omega, by omega, fun j h1 h2 => ?_⟩
        by_cases e : j = k
        · subst e; exact c
        · exact i3 j (by omega) h2
      · cases h
theorem s_scan {u : Nat} (hu : u < 18446744073709551616) (f : Nat) : ∀ (k : Nat) (v6 : Value), k + f = 8 → (q_scan u f k = none → Q (some (.int (-nI 2))) I F R n) → (∀ m v6, q_scan u f k = some m → Ev lay d 74 61 [.ref 33, .long (lN u), m_j, .int (nI m), .long (lN 0), m_j, v6] [] I F R n Q) → Ev lay d 74 5 [.ref 33, .long (lN u), m_j, .int (nI k), .long (lN (u / 2 ^ (8 * k))), m_j, v6] [] I F R n Q := by
  have ex : ∀ (k : Nat) (v6 : Value) (o : Option Nat), k ≤ 8 → o = (if u / 2 ^ (8 * k) = 0 then some k else none) → (o = none → Q (some (.int (-nI 2))) I F R n) → (∀ m v6, o = some m → Ev lay d 74 61 [.ref 33, .long (lN u), m_j, .int (nI m), .long (lN 0), m_j, v6] [] I F R n Q) → Ev lay d 74 61 [.ref 33, .long (lN u), m_j, .int (nI k), .long (lN (u / 2 ^ (8 * k))), m_j, v6] [] I F R n Q := by
    intro k v6 o hk ho hN hS
    have hw : u / 2 ^ (8 * k) < 18446744073709551616 := Nat.lt_of_le_of_lt (Nat.div_le_self _ _) hu
    by_cases c : u / 2 ^ (8 * k) = 0
    · rw [c] at ho ⊢
      exact hS k v6 (by rw [ho, if_pos rfl])
    · have key := hN (by rw [ho, if_neg c])
      by_cases c0 : k = 0
      · subst c0
        simp (disch := omega) only [e74_61, e74_62, e74_65, e74_67, e74_68, e74_69, e74_72, e74_74, true_or, m_psh_s, m_psh_n, m_kl_i, m_kl_f, m_kl_r, m_kl_n, m_kl_j, m_kl_l, m_kl_d, c_i, c_f, c_r, c_n, List.length_nil, List.length_cons, true_and, and_true, Nat.reduceAdd, Nat.reduceLeDiff, Nat.reduceSub, Nat.reduceEqDiff, Nat.reduceLT, ge_iff_le, gt_iff_lt, n_lit, m_in, m_nar0, m_nar1, and_self, not_false_eq_true, not_true_eq_false, ne_eq, reduceIte, ite_self, Nat.reduceMul, Nat.reduceDiv, Nat.reduceMod, Nat.reducePow, Nat.zero_add, Nat.add_zero, Nat.one_mul, Nat.mul_one, n_in, n_min, n_clamp, n_eq_t, n_eq_f, n_eq, n_le_t, n_le_f, n_le, n_lt_t, n_lt_f, n_lt, n_sub0, n_sublt, n_suble, n_negsub, m_up_hit, m_up_miss, m_row_hit, m_row_miss, n_eqm, n_meq, n_meqm, n_ltm, n_lem, n_mlt, n_mle, n_sub, n_div, n_and1, n_shl, n_shr, n_inc, n_mul, n_rem, z_lt, z_le, z_nlt, z_nle, Nat.not_lt_zero, Nat.le_zero_eq, Nat.zero_le, if_true, if_false, l_lit]
        exact key
      · simp (disch := omega) only [e74_61, e74_62, e74_65, e74_67, e74_68, e74_69, e74_72, e74_74, true_or, m_psh_s, m_psh_n, m_kl_i, m_kl_f, m_kl_r, m_kl_n, m_kl_j, m_kl_l, m_kl_d, c_i, c_f, c_r, c_n, List.length_nil, List.length_cons, true_and, and_true, Nat.reduceAdd, Nat.reduceLeDiff, Nat.reduceSub, Nat.reduceEqDiff, Nat.reduceLT, ge_iff_le, gt_iff_lt, n_lit, m_in, m_nar0, m_nar1, and_self, not_false_eq_true, not_true_eq_false, ne_eq, reduceIte, ite_self, Nat.reduceMul, Nat.reduceDiv, Nat.reduceMod, Nat.reducePow, Nat.zero_add, Nat.add_zero, Nat.one_mul, Nat.mul_one, n_in, n_min, n_clamp, n_eq_t, n_eq_f, n_eq, n_le_t, n_le_f, n_le, n_lt_t, n_lt_f, n_lt, n_sub0, n_sublt, n_suble, n_negsub, m_up_hit, m_up_miss, m_row_hit, m_row_miss, n_eqm, n_meq, n_meqm, n_ltm, n_lem, n_mlt, n_mle, n_sub, n_div, n_and1, n_shl, n_shr, n_inc, n_mul, n_rem, z_lt, z_le, z_nlt, z_nle, Nat.not_lt_zero, Nat.le_zero_eq, Nat.zero_le, if_true, if_false, l_lit, l_cmp, c]
        exact key
  induction f with
  | zero =>
    intro k v6 hk hN hS
    have hk2 : k = 8 := by omega
    have key := ex k v6 _ (by omega) rfl (fun e => hN (by rw [q_scan]; exact e)) (fun m v6 e => hS m v6 (by rw [q_scan]; exact e))
    subst hk2
    rw [e74_5]
    simp (disch := omega) only [e74_6, e74_8, e74_11, e74_13, e74_16, e74_17, e74_18, e74_19, e74_22, e74_24, e74_27, e74_28, e74_29, e74_31, e74_33, e74_35, e74_38, e74_40, e74_42, e74_45, e74_47, e74_48, e74_50, e74_52, e74_53, e74_55, e74_58, true_or, m_psh_s, m_psh_n, m_kl_i, m_kl_f, m_kl_r, m_kl_n, m_kl_j, m_kl_l, m_kl_d, c_i, c_f, c_r, c_n, List.length_nil, List.length_cons, true_and, and_true, Nat.reduceAdd, Nat.reduceLeDiff, Nat.reduceSub, Nat.reduceEqDiff, Nat.reduceLT, ge_iff_le, gt_iff_lt, n_lit, m_in, m_nar0, m_nar1, and_self, not_false_eq_true, not_true_eq_false, ne_eq, reduceIte, ite_self, Nat.reduceMul, Nat.reduceDiv, Nat.reduceMod, Nat.reducePow, Nat.zero_add, Nat.add_zero, Nat.one_mul, Nat.mul_one, n_in, n_min, n_clamp, n_eq_t, n_eq_f, n_eq, n_le_t, n_le_f, n_le, n_lt_t, n_lt_f, n_lt, n_sub0, n_sublt, n_suble, n_negsub, m_up_hit, m_up_miss, m_row_hit, m_row_miss, n_eqm, n_meq, n_meqm, n_ltm, n_lem, n_mlt, n_mle, n_sub, n_div, n_and1, n_shl, n_shr, n_inc, n_mul, n_rem, z_lt, z_le, z_nlt, z_nle, Nat.not_lt_zero, Nat.le_zero_eq, Nat.zero_le, if_true, if_false]
    exact key
  | succ f ih =>
    intro k v6 hk hN hS
    have hw : u / 2 ^ (8 * k) < 18446744073709551616 := Nat.lt_of_le_of_lt (Nat.div_le_self _ _) hu
    have hw2 : u / 2 ^ (8 * k) % 256 < 256 := Nat.mod_lt _ (by decide)
    have hw3 : u / 2 ^ (8 * k) % 256 < 18446744073709551616 := by omega
    rw [q_scan] at hN hS
    rw [e74_5]
    by_cases c : u / 2 ^ (8 * k) % 256 = 0
    · rw [if_pos c] at hN hS
      have key := ex k v6 _ (by omega) rfl hN hS
      simp (disch := omega) only [e74_6, e74_8, e74_11, e74_13, e74_16, e74_17, e74_18, e74_19, e74_22, e74_24, e74_27, e74_28, e74_29, e74_31, e74_33, e74_35, e74_38, e74_40, e74_42, e74_45, e74_47, e74_48, e74_50, e74_52, e74_53, e74_55, e74_58, true_or, m_psh_s, m_psh_n, m_kl_i, m_kl_f, m_kl_r, m_kl_n, m_kl_j, m_kl_l, m_kl_d, c_i, c_f, c_r, c_n, List.length_nil, List.length_cons, true_and, and_true, Nat.reduceAdd, Nat.reduceLeDiff, Nat.reduceSub, Nat.reduceEqDiff, Nat.reduceLT, ge_iff_le, gt_iff_lt, n_lit, m_in, m_nar0, m_nar1, and_self, not_false_eq_true, not_true_eq_false, ne_eq, reduceIte, ite_self, Nat.reduceMul, Nat.reduceDiv, Nat.reduceMod, Nat.reducePow, Nat.zero_add, Nat.add_zero, Nat.one_mul, Nat.mul_one, n_in, n_min, n_clamp, n_eq_t, n_eq_f, n_eq, n_le_t, n_le_f, n_le, n_lt_t, n_lt_f, n_lt, n_sub0, n_sublt, n_suble, n_negsub, m_up_hit, m_up_miss, m_row_hit, m_row_miss, n_eqm, n_meq, n_meqm, n_ltm, n_lem, n_mlt, n_mle, n_sub, n_div, n_and1, n_shl, n_shr, n_inc, n_mul, n_rem, z_lt, z_le, z_nlt, z_nle, Nat.not_lt_zero, Nat.le_zero_eq, Nat.zero_le, if_true, if_false, l_lit, l_and, l_cmp, c]
      exact key
    · rw [if_neg c] at hN hS
      by_cases c1 : 33 ≤ u / 2 ^ (8 * k) % 256
      · by_cases c2 : u / 2 ^ (8 * k) % 256 ≤ 126
        · rw [if_pos ⟨c1, c2⟩] at hN hS
          have key := fun v6 => ih (k + 1) v6 (by omega) hN hS
          have e8 : u / 2 ^ (8 * k) / 2 ^ 8 = u / 2 ^ (8 * (k + 1)) := by
            rw [Nat.div_div_eq_div_mul, ← Nat.pow_add]
            congr 2
          have e8' : u / 2 ^ (8 * k) / 256 = u / 2 ^ (8 * (k + 1)) := e8
          simp (disch := omega) only [e74_6, e74_8, e74_11, e74_13, e74_16, e74_17, e74_18, e74_19, e74_22, e74_24, e74_27, e74_28, e74_29, e74_31, e74_33, e74_35, e74_38, e74_40, e74_42, e74_45, e74_47, e74_48, e74_50, e74_52, e74_53, e74_55, e74_58, true_or, m_psh_s, m_psh_n, m_kl_i, m_kl_f, m_kl_r, m_kl_n, m_kl_j, m_kl_l, m_kl_d, c_i, c_f, c_r, c_n, List.length_nil, List.length_cons, true_and, and_true, Nat.reduceAdd, Nat.reduceLeDiff, Nat.reduceSub, Nat.reduceEqDiff, Nat.reduceLT, ge_iff_le, gt_iff_lt, n_lit, m_in, m_nar0, m_nar1, and_self, not_false_eq_true, not_true_eq_false, ne_eq, reduceIte, ite_self, Nat.reduceMul, Nat.reduceDiv, Nat.reduceMod, Nat.reducePow, Nat.zero_add, Nat.add_zero, Nat.one_mul, Nat.mul_one, n_in, n_min, n_clamp, n_eq_t, n_eq_f, n_eq, n_le_t, n_le_f, n_le, n_lt_t, n_lt_f, n_lt, n_sub0, n_sublt, n_suble, n_negsub, m_up_hit, m_up_miss, m_row_hit, m_row_miss, n_eqm, n_meq, n_meqm, n_ltm, n_lem, n_mlt, n_mle, n_sub, n_div, n_and1, n_shl, n_shr, n_inc, n_mul, n_rem, z_lt, z_le, z_nlt, z_nle, Nat.not_lt_zero, Nat.le_zero_eq, Nat.zero_le, if_true, if_false, l_lit, l_and, l_cmp, l_toI, wb_shr, c, e8, e8']
          exact key _
        · rw [if_neg (fun z => c2 z.2)] at hN
          have key := hN rfl
          simp (disch := omega) only [e74_6, e74_8, e74_11, e74_13, e74_16, e74_17, e74_18, e74_19, e74_22, e74_24, e74_27, e74_28, e74_29, e74_31, e74_33, e74_35, e74_38, e74_40, e74_42, e74_45, e74_47, e74_48, e74_50, e74_52, e74_53, e74_55, e74_58, true_or, m_psh_s, m_psh_n, m_kl_i, m_kl_f, m_kl_r, m_kl_n, m_kl_j, m_kl_l, m_kl_d, c_i, c_f, c_r, c_n, List.length_nil, List.length_cons, true_and, and_true, Nat.reduceAdd, Nat.reduceLeDiff, Nat.reduceSub, Nat.reduceEqDiff, Nat.reduceLT, ge_iff_le, gt_iff_lt, n_lit, m_in, m_nar0, m_nar1, and_self, not_false_eq_true, not_true_eq_false, ne_eq, reduceIte, ite_self, Nat.reduceMul, Nat.reduceDiv, Nat.reduceMod, Nat.reducePow, Nat.zero_add, Nat.add_zero, Nat.one_mul, Nat.mul_one, n_in, n_min, n_clamp, n_eq_t, n_eq_f, n_eq, n_le_t, n_le_f, n_le, n_lt_t, n_lt_f, n_lt, n_sub0, n_sublt, n_suble, n_negsub, m_up_hit, m_up_miss, m_row_hit, m_row_miss, n_eqm, n_meq, n_meqm, n_ltm, n_lem, n_mlt, n_mle, n_sub, n_div, n_and1, n_shl, n_shr, n_inc, n_mul, n_rem, z_lt, z_le, z_nlt, z_nle, Nat.not_lt_zero, Nat.le_zero_eq, Nat.zero_le, if_true, if_false, l_lit, l_and, l_cmp, l_toI, c]
          exact key
      · rw [if_neg (fun z => c1 z.1)] at hN
        have key := hN rfl
        simp (disch := omega) only [e74_6, e74_8, e74_11, e74_13, e74_16, e74_17, e74_18, e74_19, e74_22, e74_24, e74_27, e74_28, e74_29, e74_31, e74_33, e74_35, e74_38, e74_40, e74_42, e74_45, e74_47, e74_48, e74_50, e74_52, e74_53, e74_55, e74_58, true_or, m_psh_s, m_psh_n, m_kl_i, m_kl_f, m_kl_r, m_kl_n, m_kl_j, m_kl_l, m_kl_d, c_i, c_f, c_r, c_n, List.length_nil, List.length_cons, true_and, and_true, Nat.reduceAdd, Nat.reduceLeDiff, Nat.reduceSub, Nat.reduceEqDiff, Nat.reduceLT, ge_iff_le, gt_iff_lt, n_lit, m_in, m_nar0, m_nar1, and_self, not_false_eq_true, not_true_eq_false, ne_eq, reduceIte, ite_self, Nat.reduceMul, Nat.reduceDiv, Nat.reduceMod, Nat.reducePow, Nat.zero_add, Nat.add_zero, Nat.one_mul, Nat.mul_one, n_in, n_min, n_clamp, n_eq_t, n_eq_f, n_eq, n_le_t, n_le_f, n_le, n_lt_t, n_lt_f, n_lt, n_sub0, n_sublt, n_suble, n_negsub, m_up_hit, m_up_miss, m_row_hit, m_row_miss, n_eqm, n_meq, n_meqm, n_ltm, n_lem, n_mlt, n_mle, n_sub, n_div, n_and1, n_shl, n_shr, n_inc, n_mul, n_rem, z_lt, z_le, z_nlt, z_nle, Nat.not_lt_zero, Nat.le_zero_eq, Nat.zero_le, if_true, if_false, l_lit, l_and, l_cmp, l_toI, c]
        exact key
def q_sg : Nat → Int32
  | 0 => -nI 1
  | j + 1 => nI j
theorem s_app0 {u m : Nat} {v3 v4 : Value} (h33 : lay 33 = (9, 0)) (h34 : lay 34 = (3, 80)) (r0 : m_rv (R 33 0) = .ref 34) (hu : u < 18446744073709551616) (hm : pl + (m + 1) ≤ 80) (hm8 : m < 8) (j : Nat) : ∀ (I : mI), j ≤ m + 1 → I 33 3 = nI (pl + (m + 1 - j)) → (∀ k, k < pl + (m + 1 - j) → I 34 k = nI (if pl ≤ k then u / 2 ^ (8 * (pl + m - k)) % 256 else pc k)) → (∀ I', PD I' (pl + (m + 1)) (fun k => if pl ≤ k then u / 2 ^ (8 * (pl + m - k)) % 256 else pc k) → Off 33 35 I F R I' F R → Q (some (.int (nI (pl + (m + 1))))) I' F R n) → Ev lay d 74 94 [.ref 33, .long (lN u), m_j, v3, v4, m_j, .int (q_sg j)] [] I F R n Q := by
  induction j with
  | zero =>
    intro I hj h3 h4 hQ
    rw [Nat.sub_zero] at h3 h4
    have key := hQ I ⟨h3, hm, h4⟩ Off_refl
    rw [e74_94]
    simp (disch := omega) only [e74_96, e74_99, e74_99N, e74_100, e74_103, e74_103N, e74_104, e74_107, e74_108, e74_110, e74_112, e74_113, e74_114, e74_117, e74_118, e74_119, e74_120, e74_121, e74_121N, e74_122, e74_123, e74_126, e74_127, e74_128, e74_131, e74_134, e74_137, e74_137N, e74_138, e74_141, true_or, m_psh_s, m_psh_n, m_kl_i, m_kl_f, m_kl_r, m_kl_n, m_kl_j, m_kl_l, m_kl_d, c_i, c_f, c_r, c_n, List.length_nil, List.length_cons, true_and, and_true, Nat.reduceAdd, Nat.reduceLeDiff, Nat.reduceSub, Nat.reduceEqDiff, Nat.reduceLT, ge_iff_le, gt_iff_lt, n_lit, m_in, m_nar0, m_nar1, and_self, not_false_eq_true, not_true_eq_false, ne_eq, reduceIte, ite_self, Nat.reduceMul, Nat.reduceDiv, Nat.reduceMod, Nat.reducePow, Nat.zero_add, Nat.add_zero, Nat.one_mul, Nat.mul_one, n_in, n_min, n_clamp, n_eq_t, n_eq_f, n_eq, n_le_t, n_le_f, n_le, n_lt_t, n_lt_f, n_lt, n_sub0, n_sublt, n_suble, n_negsub, m_up_hit, m_up_miss, m_row_hit, m_row_miss, n_eqm, n_meq, n_meqm, n_ltm, n_lem, n_mlt, n_mle, n_sub, n_div, n_and1, n_shl, n_shr, n_inc, n_mul, n_rem, z_lt, z_le, z_nlt, z_nle, Nat.not_lt_zero, Nat.le_zero_eq, Nat.zero_le, if_true, if_false, h33, h3, q_sg]
    exact key
  | succ j ih =>
    intro I hj h3 h4 hQ
    have hw2 : u / 2 ^ (8 * j) % 256 < 256 := Nat.mod_lt _ (by decide)
    have hw3 : u / 2 ^ (8 * j) < 18446744073709551616 := Nat.lt_of_le_of_lt (Nat.div_le_self _ _) hu
    have e1 : m + 1 - (j + 1) = m - j := by omega
    have e2 : m + 1 - j = m - j + 1 := by omega
    rw [e1] at h3 h4
    rw [e2] at ih
    have key := ih (m_up (m_up I 34 (pl + (m - j)) (nI (u / 2 ^ (8 * j) % 256))) 33 3 (nI (pl + (m - j) + 1))) (by omega) (by rw [m_up_at]; rfl) (fun k hk => by
      rw [m_up_miss (by omega)]
      by_cases e : k = pl + (m - j)
      · subst e
        rw [m_up_at, if_pos (by omega), show pl + m - (pl + (m - j)) = j by omega]
      · rw [m_up_miss (by omega)]
        exact h4 k (by omega)) (fun I' k1 k2 => hQ I' k1 (Off_trans (Off_trans (Off_I (by omega) (by omega)) (Off_I (by omega) (by omega))) k2))
    rw [e74_94]
    cases j with
    | zero =>
      have en : nI 0 + -nI 1 = -nI 1 := rfl
      simp (disch := omega) only [e74_96, e74_99, e74_99N, e74_100, e74_103, e74_103N, e74_104, e74_107, e74_108, e74_110, e74_112, e74_113, e74_114, e74_117, e74_118, e74_119, e74_120, e74_121, e74_121N, e74_122, e74_123, e74_126, e74_127, e74_128, e74_131, e74_134, true_or, m_psh_s, m_psh_n, m_kl_i, m_kl_f, m_kl_r, m_kl_n, m_kl_j, m_kl_l, m_kl_d, c_i, c_f, c_r, c_n, List.length_nil, List.length_cons, true_and, and_true, Nat.reduceAdd, Nat.reduceLeDiff, Nat.reduceSub, Nat.reduceEqDiff, Nat.reduceLT, ge_iff_le, gt_iff_lt, n_lit, m_in, m_nar0, m_nar1, and_self, not_false_eq_true, not_true_eq_false, ne_eq, reduceIte, ite_self, Nat.reduceMul, Nat.reduceDiv, Nat.reduceMod, Nat.reducePow, Nat.zero_add, Nat.add_zero, Nat.one_mul, Nat.mul_one, n_in, n_min, n_clamp, n_eq_t, n_eq_f, n_eq, n_le_t, n_le_f, n_le, n_lt_t, n_lt_f, n_lt, n_sub0, n_sublt, n_suble, n_negsub, m_up_hit, m_up_miss, m_row_hit, m_row_miss, n_eqm, n_meq, n_meqm, n_ltm, n_lem, n_mlt, n_mle, n_sub, n_div, n_and1, n_shl, n_shr, n_inc, n_mul, n_rem, z_lt, z_le, z_nlt, z_nle, Nat.not_lt_zero, Nat.le_zero_eq, Nat.zero_le, if_true, if_false, h33, h34, r0, h3, q_sg, l_lit, l_and, l_toI, wb_shr, ch_i2c, ch_st, en]
      exact key
    | succ j =>
      have e3 : nI (j + 1) + -nI 1 = nI j := by rw [n_dec (by omega)]; rfl
      simp (disch := omega) only [e74_96, e74_99, e74_99N, e74_100, e74_103, e74_103N, e74_104, e74_107, e74_108, e74_110, e74_112, e74_113, e74_114, e74_117, e74_118, e74_119, e74_120, e74_121, e74_121N, e74_122, e74_123, e74_126, e74_127, e74_128, e74_131, e74_134, true_or, m_psh_s, m_psh_n, m_kl_i, m_kl_f, m_kl_r, m_kl_n, m_kl_j, m_kl_l, m_kl_d, c_i, c_f, c_r, c_n, List.length_nil, List.length_cons, true_and, and_true, Nat.reduceAdd, Nat.reduceLeDiff, Nat.reduceSub, Nat.reduceEqDiff, Nat.reduceLT, ge_iff_le, gt_iff_lt, n_lit, m_in, m_nar0, m_nar1, and_self, not_false_eq_true, not_true_eq_false, ne_eq, reduceIte, ite_self, Nat.reduceMul, Nat.reduceDiv, Nat.reduceMod, Nat.reducePow, Nat.zero_add, Nat.add_zero, Nat.one_mul, Nat.mul_one, n_in, n_min, n_clamp, n_eq_t, n_eq_f, n_eq, n_le_t, n_le_f, n_le, n_lt_t, n_lt_f, n_lt, n_sub0, n_sublt, n_suble, n_negsub, m_up_hit, m_up_miss, m_row_hit, m_row_miss, n_eqm, n_meq, n_meqm, n_ltm, n_lem, n_mlt, n_mle, n_sub, n_div, n_and1, n_shl, n_shr, n_inc, n_mul, n_rem, z_lt, z_le, z_nlt, z_nle, Nat.not_lt_zero, Nat.le_zero_eq, Nat.zero_le, if_true, if_false, h33, h34, r0, h3, q_sg, l_lit, l_and, l_toI, wb_shr, ch_i2c, ch_st, e3]
      exact key
end PUT
