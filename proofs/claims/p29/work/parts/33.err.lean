section ERR
-- how many bits are set: the library's way, checked over all sets of goods
def q_bc (b : Nat) : Nat :=
  let s1 := b - Nat.land (b / 2) 1431655765
  let s2 := Nat.land s1 858993459 + Nat.land (s1 / 4) 858993459
  let s3 := Nat.land (s2 + s2 / 16) 252645135
  let s4 := s3 + s3 / 256
  let s5 := s4 + s4 / 65536
  Nat.land s5 63
def q_tree (f : Nat → Nat → Bool) : Nat → Nat → Nat → Bool
  | 0, b, s => f b s
  | k + 1, b, s => q_tree f k b s && q_tree f k (b + 2 ^ k) (s + 1)
theorem q_on_eq {x y k : Nat} (h : ∀ j, j < k → x / 2 ^ j % 2 = y / 2 ^ j % 2) : q_on x k = q_on y k := by
  induction k with
  | zero => rfl
  | succ k ih => rw [q_on_s, q_on_s, ih (fun j hj => h j (by omega)), h k (by omega)]
theorem q_tree_of {f : Nat → Nat → Bool} (k : Nat) : ∀ b s, q_tree f k b s = true → ∀ x, x < 2 ^ k → f (b + x) (s + q_on x k) = true := by
  induction k with
  | zero =>
    intro b s h x hx
    have : x = 0 := by simpa using hx
    subst this
    exact h
  | succ k ih =>
    intro b s h x hx
    rw [q_tree, Bool.and_eq_true] at h
    rw [q_on_s]
    by_cases c : x < 2 ^ k
    · rw [Nat.div_eq_of_lt c]
      exact ih b s h.1 x c
    · obtain ⟨y, rfl⟩ := Nat.exists_eq_add_of_le (Nat.not_lt.mp c)
      have hy : y < 2 ^ k := by rw [Nat.pow_succ] at hx; omega
      have e1 : (2 ^ k + y) / 2 ^ k = 1 := by rw [Nat.add_div_left _ (Nat.two_pow_pos k), Nat.div_eq_of_lt hy]
      have e2 : q_on (2 ^ k + y) k = q_on y k := q_on_eq fun j hj => by
        obtain ⟨i, rfl⟩ : ∃ i, k = j + (i + 1) := ⟨k - j - 1, by omega⟩
        rw [Nat.pow_add, Nat.mul_add_div (Nat.two_pow_pos j), Nat.pow_succ]
        omega
      have := ih (b + 2 ^ k) (s + 1) h.2 y hy
      rw [e1, e2]
      rw [show b + (2 ^ k + y) = b + 2 ^ k + y by omega, show s + (q_on y k + 1 % 2) = s + 1 + q_on y k by omega]
      exact this
theorem q_bc_tree : q_tree (fun b s => Nat.beq (q_bc b) s && Nat.ble (Nat.land (b / 2) 1431655765) b) 16 0 0 = true := by decide +kernel
theorem q_bc_on {b : Nat} (h : b < 65536) : q_bc b = q_on b 16 ∧ Nat.land (b / 2) 1431655765 ≤ b := by
  have := q_tree_of 16 0 0 q_bc_tree b h
  rw [Bool.and_eq_true, Nat.zero_add, Nat.zero_add] at this
  exact ⟨Nat.eq_of_beq_eq_true this.1, Nat.le_of_ble_eq_true this.2⟩
theorem n_usl : ∀ n, n < 32 → (((nI n).toUInt32 &&& Int32.toUInt32 31).toBitVec % 32).toNat = n := by decide +kernel
theorem n_ushr {x k : Nat} (hk : k < 32) (h : x < 4294967296) : ((nI x).toUInt32 >>> ((nI k).toUInt32 &&& (nI 31).toUInt32)).toInt32 = nI (x / 2 ^ k) := pk_ushrN h _ k (n_usl k hk)
variable {lay : mL} {d a n : Nat} {I : mI} {F : mF} {R : mR} {Q : mP} {S : Nat → Nat} {sp : Nat → UInt32} {hi : List Nat}
theorem s_bitCount {b : Nat} (h : b < 65536) : Ev lay d 30 0 [.int (nI b)] [] I F R n Q ↔ Q (some (.int (nI (q_on b 16)))) I F R n := by
  obtain ⟨h1, h2⟩ := q_bc_on h
  have l1 : Nat.land (b - Nat.land (b / 2) 1431655765) 858993459 ≤ 858993459 := Nat.and_le_right
  have l2 : Nat.land ((b - Nat.land (b / 2) 1431655765) / 4) 858993459 ≤ 858993459 := Nat.and_le_right
  have l3 : ∀ x, Nat.land x 252645135 ≤ 252645135 := fun x => Nat.and_le_right
  have l3' := l3 (Nat.land (b - Nat.land (b / 2) 1431655765) 858993459 + Nat.land ((b - Nat.land (b / 2) 1431655765) / 4) 858993459 + (Nat.land (b - Nat.land (b / 2) 1431655765) 858993459 + Nat.land ((b - Nat.land (b / 2) 1431655765) / 4) 858993459) / 16)
  have an : ∀ x y, nI x &&& nI y = nI (Nat.land x y) := fun x y => n_and x y
  rw [← h1]
  simp (disch := omega) only [e30_0, e30_1, e30_2, e30_3, e30_4, e30_7, e30_8, e30_9, e30_10, e30_11, e30_14, e30_15, e30_16, e30_17, e30_18, e30_21, e30_22, e30_23, e30_24, e30_25, e30_26, e30_27, e30_28, e30_29, e30_32, e30_33, e30_34, e30_35, e30_36, e30_38, e30_39, e30_40, e30_41, e30_42, e30_43, e30_45, e30_46, e30_47, e30_48, e30_49, e30_51, e30_52, true_or, m_psh_s, m_psh_n, m_kl_i, m_kl_f, m_kl_r, m_kl_n, m_kl_j, m_kl_l, m_kl_d, c_i, c_f, c_r, c_n, List.length_nil, List.length_cons, true_and, and_true, Nat.reduceAdd, Nat.reduceLeDiff, Nat.reduceSub, Nat.reduceEqDiff, Nat.reduceLT, ge_iff_le, gt_iff_lt, n_lit, m_in, m_nar0, m_nar1, and_self, not_false_eq_true, not_true_eq_false, ne_eq, reduceIte, ite_self, Nat.reduceMul, Nat.reduceDiv, Nat.reduceMod, Nat.reducePow, Nat.zero_add, Nat.add_zero, Nat.one_mul, Nat.mul_one, n_ushr, n_sub, n_inc, an]
  rfl
-- why a set is no basket
def q_err (S : Nat → Nat) (x : Int32) : Int32 := if x < nI 0 ∨ 2 ^ S 3 ≤ q_N x then -nI 1 else if q_on (q_N x) 16 < 1 ∨ 6 < q_on (q_N x) 16 then -nI 2 else nI 0
theorem q_err_ok {x : Int32} (w1 : S 3 ≤ 16) (h : q_err S x = nI 0) : bOK S (q_N x) ∧ x = nI (q_N x) ∧ 1 ≤ q_on (q_N x) 16 := by
  unfold q_err at h
  split at h
  · exact absurd h (by decide)
  · rename_i h1
    split at h
    · exact absurd h (by decide)
    · rename_i h2
      rcases n_g x with ⟨k, hk, rfl⟩ | hx
      · rw [q_N_n hk] at *
        have hk2 : k < 2 ^ S 3 := by omega
        have hle : 2 ^ S 3 ≤ 2 ^ 16 := Nat.pow_le_pow_right (by decide) w1
        refine ⟨⟨by omega, by omega, fun g hg hb => Nat.not_le.mp fun hle2 => ?_⟩, rfl, by omega⟩
        have : k < 2 ^ g := Nat.lt_of_lt_of_le hk2 (Nat.pow_le_pow_right (by decide) hle2)
        rw [Nat.div_eq_of_lt this] at hb
        omega
      · exact absurd (Or.inl hx) h1
theorem n_shrneg {x : Int32} {k : Nat} (hx : x < nI 0) (hk : k < 32) : x >>> (nI k &&& nI 31) = nI 0 ↔ False := by
  refine iff_false_intro fun e => ?_
  have h1 : (x >>> (nI k &&& nI 31)).toInt = x.toInt >>> k := by
    show (x.toBitVec.sshiftRight ((nI k &&& nI 31).toBitVec.smod 32).toNat).toInt = _
    rw [show ((nI k &&& nI 31).toBitVec.smod 32).toNat = k from n_sl k hk, BitVec.toInt_sshiftRight]
    rfl
  rw [Int32.lt_iff_toInt_lt, nI_toInt (by omega)] at hx
  rw [e, nI_toInt (by omega), Int.shiftRight_eq_div_pow] at h1
  have : x.toInt / ((2 ^ k : Nat) : Int) < 0 := Int.ediv_neg_of_neg_of_pos hx (by exact_mod_cast Nat.two_pow_pos k)
  omega
theorem s_err {x : Int32} (h : CSh lay I F R n 2 S sp hi) (h1 : lay 1 = (13, 0)) (hr : m_rv (R 1 0) = .ref 2) (w1 : S 3 ≤ 16) (hd : 1 ≤ d) : Ev lay d 29 0 [.ref 1, .int x, m_j] [] I F R n Q ↔ Q (some (.int (q_err S x))) I F R n := by
  have h3 := CSh_0 h cS_0_11
  unfold q_err
  rcases n_g x with ⟨k, hk, rfl⟩ | hx
  · rw [q_N_n hk]
    have z := n_lt_f (Nat.zero_le k) hk
    simp only [z, false_or]
    by_cases c : 2 ^ S 3 ≤ k
    · have e : k / 2 ^ S 3 ≠ 0 := by
        have := Nat.div_pos c (Nat.two_pow_pos _)
        omega
      have e2 : k / 2 ^ S 3 ≤ k := Nat.div_le_self _ _
      obtain ⟨hs0, hs1, hs2, hs3, hs4, hs5, hs6, hs7, hs8, hs9, hs10, hs11, hs12, hs13, hs14, hs15, hs16, hs17, hs18, hs19, hs20, hs21, hs22, hs23, hs24, hs25, hs26⟩ := h.1
      rw [if_pos c]
      simp (disch := omega) only [e29_0, e29_1, e29_1N, e29_2, e29_5, e29_8, e29_9, e29_12, e29_13, e29_14, e29_15, e29_18, e29_19, e29_20, e29_21, e29_24, e29_25, e29_27, e29_30, e29_32, e29_35, e29_36, true_or, m_psh_s, m_psh_n, m_kl_i, m_kl_f, m_kl_r, m_kl_n, m_kl_j, m_kl_l, m_kl_d, c_i, c_f, c_r, c_n, List.length_nil, List.length_cons, true_and, and_true, Nat.reduceAdd, Nat.reduceLeDiff, Nat.reduceSub, Nat.reduceEqDiff, Nat.reduceLT, ge_iff_le, gt_iff_lt, n_lit, m_in, m_nar0, m_nar1, and_self, not_false_eq_true, not_true_eq_false, ne_eq, reduceIte, ite_self, Nat.reduceMul, Nat.reduceDiv, Nat.reduceMod, Nat.reducePow, Nat.zero_add, Nat.add_zero, Nat.one_mul, Nat.mul_one, n_in, n_min, n_clamp, n_eq_t, n_eq_f, n_eq, n_le_t, n_le_f, n_le, n_lt_t, n_lt_f, n_lt, n_sub0, n_sublt, n_suble, n_negsub, m_up_hit, m_up_miss, m_row_hit, m_row_miss, n_eqm, n_meq, n_meqm, n_ltm, n_lem, n_mlt, n_mle, n_sub, n_div, n_and1, n_shl, n_shr, n_inc, n_mul, n_rem, z_lt, z_le, z_nlt, z_nle, Nat.not_lt_zero, Nat.le_zero_eq, Nat.zero_le, if_true, if_false, hs0, hs1, hs2, hs3, hs4, hs5, hs6, hs7, hs8, hs9, hs10, hs11, hs12, hs13, hs14, hs15, hs16, hs17, hs18, hs19, hs20, hs21, hs22, hs23, hs24, hs25, hs26, h1, hr, h3, e]
    · have e : k / 2 ^ S 3 = 0 := Nat.div_eq_of_lt (by omega)
      have hle : 2 ^ S 3 ≤ 2 ^ 16 := Nat.pow_le_pow_right (by decide) w1
      have hk2 : k < 65536 := by omega
      have hon : q_on k 16 ≤ 16 := by
        have : ∀ j, q_on k j ≤ j := fun j => by
          induction j with
          | zero => exact Nat.le_refl _
          | succ j ih => rw [q_on_s]; omega
        exact this 16
      obtain ⟨hs0, hs1, hs2, hs3, hs4, hs5, hs6, hs7, hs8, hs9, hs10, hs11, hs12, hs13, hs14, hs15, hs16, hs17, hs18, hs19, hs20, hs21, hs22, hs23, hs24, hs25, hs26⟩ := h.1
      rw [if_neg c]
      by_cases c1 : q_on k 16 < 1
      · rw [if_pos (Or.inl c1)]
        simp (disch := omega) only [e29_0, e29_1, e29_1N, e29_2, e29_5, e29_8, e29_9, e29_12, e29_13, e29_14, e29_15, e29_18, e29_19, e29_20, e29_21, e29_24, e29_25, e29_27, e29_30, e29_32, e29_35, e29_36, true_or, m_psh_s, m_psh_n, m_kl_i, m_kl_f, m_kl_r, m_kl_n, m_kl_j, m_kl_l, m_kl_d, c_i, c_f, c_r, c_n, List.length_nil, List.length_cons, true_and, and_true, Nat.reduceAdd, Nat.reduceLeDiff, Nat.reduceSub, Nat.reduceEqDiff, Nat.reduceLT, ge_iff_le, gt_iff_lt, n_lit, m_in, m_nar0, m_nar1, and_self, not_false_eq_true, not_true_eq_false, ne_eq, reduceIte, ite_self, Nat.reduceMul, Nat.reduceDiv, Nat.reduceMod, Nat.reducePow, Nat.zero_add, Nat.add_zero, Nat.one_mul, Nat.mul_one, n_in, n_min, n_clamp, n_eq_t, n_eq_f, n_eq, n_le_t, n_le_f, n_le, n_lt_t, n_lt_f, n_lt, n_sub0, n_sublt, n_suble, n_negsub, m_up_hit, m_up_miss, m_row_hit, m_row_miss, n_eqm, n_meq, n_meqm, n_ltm, n_lem, n_mlt, n_mle, n_sub, n_div, n_and1, n_shl, n_shr, n_inc, n_mul, n_rem, z_lt, z_le, z_nlt, z_nle, Nat.not_lt_zero, Nat.le_zero_eq, Nat.zero_le, if_true, if_false, hs0, hs1, hs2, hs3, hs4, hs5, hs6, hs7, hs8, hs9, hs10, hs11, hs12, hs13, hs14, hs15, hs16, hs17, hs18, hs19, hs20, hs21, hs22, hs23, hs24, hs25, hs26, h1, hr, h3, e, s_bitCount hk2]
      · by_cases c2 : 6 < q_on k 16
        · rw [if_pos (Or.inr c2)]
          simp (disch := omega) only [e29_0, e29_1, e29_1N, e29_2, e29_5, e29_8, e29_9, e29_12, e29_13, e29_14, e29_15, e29_18, e29_19, e29_20, e29_21, e29_24, e29_25, e29_27, e29_30, e29_32, e29_35, e29_36, true_or, m_psh_s, m_psh_n, m_kl_i, m_kl_f, m_kl_r, m_kl_n, m_kl_j, m_kl_l, m_kl_d, c_i, c_f, c_r, c_n, List.length_nil, List.length_cons, true_and, and_true, Nat.reduceAdd, Nat.reduceLeDiff, Nat.reduceSub, Nat.reduceEqDiff, Nat.reduceLT, ge_iff_le, gt_iff_lt, n_lit, m_in, m_nar0, m_nar1, and_self, not_false_eq_true, not_true_eq_false, ne_eq, reduceIte, ite_self, Nat.reduceMul, Nat.reduceDiv, Nat.reduceMod, Nat.reducePow, Nat.zero_add, Nat.add_zero, Nat.one_mul, Nat.mul_one, n_in, n_min, n_clamp, n_eq_t, n_eq_f, n_eq, n_le_t, n_le_f, n_le, n_lt_t, n_lt_f, n_lt, n_sub0, n_sublt, n_suble, n_negsub, m_up_hit, m_up_miss, m_row_hit, m_row_miss, n_eqm, n_meq, n_meqm, n_ltm, n_lem, n_mlt, n_mle, n_sub, n_div, n_and1, n_shl, n_shr, n_inc, n_mul, n_rem, z_lt, z_le, z_nlt, z_nle, Nat.not_lt_zero, Nat.le_zero_eq, Nat.zero_le, if_true, if_false, hs0, hs1, hs2, hs3, hs4, hs5, hs6, hs7, hs8, hs9, hs10, hs11, hs12, hs13, hs14, hs15, hs16, hs17, hs18, hs19, hs20, hs21, hs22, hs23, hs24, hs25, hs26, h1, hr, h3, e, s_bitCount hk2]
        · rw [if_neg (by omega)]
          simp (disch := omega) only [e29_0, e29_1, e29_1N, e29_2, e29_5, e29_8, e29_9, e29_12, e29_13, e29_14, e29_15, e29_18, e29_19, e29_20, e29_21, e29_24, e29_25, e29_27, e29_30, e29_32, e29_35, e29_36, true_or, m_psh_s, m_psh_n, m_kl_i, m_kl_f, m_kl_r, m_kl_n, m_kl_j, m_kl_l, m_kl_d, c_i, c_f, c_r, c_n, List.length_nil, List.length_cons, true_and, and_true, Nat.reduceAdd, Nat.reduceLeDiff, Nat.reduceSub, Nat.reduceEqDiff, Nat.reduceLT, ge_iff_le, gt_iff_lt, n_lit, m_in, m_nar0, m_nar1, and_self, not_false_eq_true, not_true_eq_false, ne_eq, reduceIte, ite_self, Nat.reduceMul, Nat.reduceDiv, Nat.reduceMod, Nat.reducePow, Nat.zero_add, Nat.add_zero, Nat.one_mul, Nat.mul_one, n_in, n_min, n_clamp, n_eq_t, n_eq_f, n_eq, n_le_t, n_le_f, n_le, n_lt_t, n_lt_f, n_lt, n_sub0, n_sublt, n_suble, n_negsub, m_up_hit, m_up_miss, m_row_hit, m_row_miss, n_eqm, n_meq, n_meqm, n_ltm, n_lem, n_mlt, n_mle, n_sub, n_div, n_and1, n_shl, n_shr, n_inc, n_mul, n_rem, z_lt, z_le, z_nlt, z_nle, Nat.not_lt_zero, Nat.le_zero_eq, Nat.zero_le, if_true, if_false, hs0, hs1, hs2, hs3, hs4, hs5, hs6, hs7, hs8, hs9, hs10, hs11, hs12, hs13, hs14, hs15, hs16, hs17, hs18, hs19, hs20, hs21, hs22, hs23, hs24, hs25, hs26, h1, hr, h3, e, s_bitCount hk2]
  · rw [if_pos (Or.inl hx)]
    obtain ⟨hs0, hs1, hs2, hs3, hs4, hs5, hs6, hs7, hs8, hs9, hs10, hs11, hs12, hs13, hs14, hs15, hs16, hs17, hs18, hs19, hs20, hs21, hs22, hs23, hs24, hs25, hs26⟩ := h.1
    simp (disch := omega) only [e29_0, e29_1, e29_1N, e29_2, e29_5, e29_8, e29_9, e29_12, e29_13, e29_14, e29_15, e29_18, e29_19, e29_20, e29_21, e29_24, e29_25, e29_27, e29_30, e29_32, e29_35, e29_36, true_or, m_psh_s, m_psh_n, m_kl_i, m_kl_f, m_kl_r, m_kl_n, m_kl_j, m_kl_l, m_kl_d, c_i, c_f, c_r, c_n, List.length_nil, List.length_cons, true_and, and_true, Nat.reduceAdd, Nat.reduceLeDiff, Nat.reduceSub, Nat.reduceEqDiff, Nat.reduceLT, ge_iff_le, gt_iff_lt, n_lit, m_in, m_nar0, m_nar1, and_self, not_false_eq_true, not_true_eq_false, ne_eq, reduceIte, ite_self, Nat.reduceMul, Nat.reduceDiv, Nat.reduceMod, Nat.reducePow, Nat.zero_add, Nat.add_zero, Nat.one_mul, Nat.mul_one, n_in, n_min, n_clamp, n_eq_t, n_eq_f, n_eq, n_le_t, n_le_f, n_le, n_lt_t, n_lt_f, n_lt, n_sub0, n_sublt, n_suble, n_negsub, m_up_hit, m_up_miss, m_row_hit, m_row_miss, n_eqm, n_meq, n_meqm, n_ltm, n_lem, n_mlt, n_mle, n_sub, n_div, n_and1, n_shl, n_shr, n_inc, n_mul, n_rem, z_lt, z_le, z_nlt, z_nle, Nat.not_lt_zero, Nat.le_zero_eq, Nat.zero_le, if_true, if_false, hs0, hs1, hs2, hs3, hs4, hs5, hs6, hs7, hs8, hs9, hs10, hs11, hs12, hs13, hs14, hs15, hs16, hs17, hs18, hs19, hs20, hs21, hs22, hs23, hs24, hs25, hs26, h1, hr, h3, n_shrneg hx, hx]
end ERR
