section MODELF
variable {lay : mL} {d a n n' : Nat} {I I' : mI} {F F' : mF} {R R' : mR} {Q : mP} {S : Nat → Nat} {sp : Nat → UInt32} {hi : List Nat}
theorem wb_of32 (x : Int32) : ∃ n, n < 4294967296 ∧ x = nI n := ⟨x.toBitVec.toNat, x.toBitVec.isLt, Int32.toBitVec_inj.mp (by show _ = BitVec.ofNat 32 _; simp)⟩
theorem n_inj32 {a b : Nat} (ha : a < 4294967296) (hb : b < 4294967296) (h : nI a = nI b) : a = b := by
  have := congrArg (fun x : Int32 => x.toBitVec.toNat) h
  have h2 : (BitVec.ofNat 32 a).toNat = (BitVec.ofNat 32 b).toNat := this
  rw [BitVec.toNat_ofNat, BitVec.toNat_ofNat, Nat.mod_eq_of_lt ha, Nat.mod_eq_of_lt hb] at h2
  exact h2
theorem n_neg2 {g : Nat} (hg : g < 32) : -(nI (2 ^ g)) = nI (4294967296 - 2 ^ g) := by
  have h1 : (2 : Nat) ^ g < 2 ^ 32 := Nat.pow_lt_pow_right (by decide) hg
  have h2 : nI (4294967296 - 2 ^ g) + nI (2 ^ g) = nI 0 := by
    rw [n_inc, show 4294967296 - 2 ^ g + 2 ^ g = 4294967296 by omega]
    decide
  have h3 : nI 0 = -(nI (2 ^ g)) + nI (2 ^ g) := by rw [Int32.add_left_neg]; rfl
  rw [h3] at h2
  exact ((Int32.add_left_inj _).mp h2).symm
theorem n_mask {u g : Nat} (hu : u < 4294967296) (hg : g < 32) : nI u &&& -(nI (2 ^ g)) = nI 0 ↔ u < 2 ^ g := by
  have h1 : (2 : Nat) ^ g < 2 ^ 32 := Nat.pow_lt_pow_right (by decide) hg
  rw [n_neg2 hg, n_and]
  have e : 4294967296 - 2 ^ g = 2 ^ 32 - ((2 ^ g - 1) + 1) := by
    have := Nat.two_pow_pos g
    omega
  have tb : ∀ i, (4294967296 - 2 ^ g).testBit i = (decide (i < 32) && !(decide (i < g))) := by
    intro i
    rw [e, Nat.testBit_two_pow_sub_succ (by have := Nat.two_pow_pos g; omega), Nat.testBit_two_pow_sub_one]
  constructor
  · intro h
    have hz : u &&& (4294967296 - 2 ^ g) = 0 := n_inj32 (Nat.lt_of_le_of_lt Nat.and_le_left hu) (by omega) h
    rcases Nat.lt_or_ge u (2 ^ g) with c | c
    · exact c
    · obtain ⟨i, hi, hb⟩ := Nat.exists_ge_and_testBit_of_ge_two_pow c
      have hi32 : i < 32 := by
        rcases Nat.lt_or_ge i 32 with c2 | c2
        · exact c2
        · rw [Nat.testBit_lt_two_pow (Nat.lt_of_lt_of_le hu (Nat.pow_le_pow_right (n := 2) (by decide) c2))] at hb
          cases hb
      have := congrArg (fun x => Nat.testBit x i) hz
      simp only [Nat.testBit_and, hb, tb, Nat.zero_testBit] at this
      simp [hi32, Nat.not_lt.mpr hi] at this
  · intro h
    congr 1
    refine Nat.eq_of_testBit_eq fun i => ?_
    rw [Nat.testBit_and, tb, Nat.zero_testBit]
    by_cases c : i < g
    · simp [c]
    · rw [Nat.testBit_lt_two_pow (Nat.lt_of_lt_of_le h (Nat.pow_le_pow_right (n := 2) (by decide) (show g ≤ i by omega)))]
      rfl
theorem r_errorOf {x : Int32} (hl : ML lay R) (h : MS I F S sp) (w1 : S 3 ≤ 16) (hd : 1 ≤ d) : Ev lay d 118 0 [.ref 166, .int x] [] I F R n Q ↔ Q (some (.int (q_err S x))) I F R n := by
  have h3 := h.1 3 (by omega)
  have hle : 2 ^ S 3 ≤ 2 ^ 16 := Nat.pow_le_pow_right (by decide) w1
  have esh : nI 1 <<< (nI (S 3) &&& nI 31) = nI (2 ^ S 3) := by
    have := n_shl (x := 1) (k := S 3) (by omega) (by omega)
    rw [Nat.one_mul] at this
    exact this
  unfold q_err
  rcases n_g x with ⟨k, hk, rfl⟩ | hx
  · rw [q_N_n hk]
    have z := n_lt_f (Nat.zero_le k) hk
    simp only [z, false_or]
    have hm := n_mask (u := k) (g := S 3) (by omega) (by omega)
    by_cases c : 2 ^ S 3 ≤ k
    · have hm' : (nI k &&& -(nI (2 ^ S 3)) = nI 0) = False := eq_false fun e => by have := hm.mp e; omega
      obtain ⟨hm0, hm1, hm2, hm3, hm4, hm5, hm6, hm7, hm8, hm9, hm10, hm11, hm12, hm13, hm14, hm15, hm16, hm17, hm18, hm19, hm20, hm21, hm22, hm23, hm24, hm25, hm26⟩ := hl
      rw [if_pos c]
      simp (disch := omega) only [e118_0, e118_1, e118_2, e118_2N, e118_3, e118_6, e118_7, e118_8, e118_9, e118_10, e118_11, e118_14, e118_15, e118_16, e118_17, e118_20, e118_21, e118_24, e118_26, e118_29, e118_31, e118_34, e118_35, true_or, m_psh_s, m_psh_n, m_kl_i, m_kl_f, m_kl_r, m_kl_n, m_kl_j, m_kl_l, m_kl_d, c_i, c_f, c_r, c_n, List.length_nil, List.length_cons, true_and, and_true, Nat.reduceAdd, Nat.reduceLeDiff, Nat.reduceSub, Nat.reduceEqDiff, Nat.reduceLT, ge_iff_le, gt_iff_lt, n_lit, m_in, m_nar0, m_nar1, and_self, not_false_eq_true, not_true_eq_false, ne_eq, reduceIte, ite_self, Nat.reduceMul, Nat.reduceDiv, Nat.reduceMod, Nat.reducePow, Nat.zero_add, Nat.add_zero, Nat.one_mul, Nat.mul_one, n_in, n_min, n_clamp, n_eq_t, n_eq_f, n_eq, n_le_t, n_le_f, n_le, n_lt_t, n_lt_f, n_lt, n_sub0, n_sublt, n_suble, n_negsub, m_up_hit, m_up_miss, m_row_hit, m_row_miss, n_eqm, n_meq, n_meqm, n_ltm, n_lem, n_mlt, n_mle, n_sub, n_div, n_and1, n_shl, n_shr, n_inc, n_mul, n_rem, z_lt, z_le, z_nlt, z_nle, Nat.not_lt_zero, Nat.le_zero_eq, Nat.zero_le, if_true, if_false, hm0, hm1, hm2, hm3, hm4, hm5, hm6, hm7, hm8, hm9, hm10, hm11, hm12, hm13, hm14, hm15, hm16, hm17, hm18, hm19, hm20, hm21, hm22, hm23, hm24, hm25, hm26, h3, esh, hm']
    · have hm' : (nI k &&& -(nI (2 ^ S 3)) = nI 0) = True := eq_true (hm.mpr (by omega))
      have hk2 : k < 65536 := by omega
      have hon : q_on k 16 ≤ 16 := by
        have : ∀ j, q_on k j ≤ j := fun j => by
          induction j with
          | zero => exact Nat.le_refl _
          | succ j ih => rw [q_on_s]; omega
        exact this 16
      obtain ⟨hm0, hm1, hm2, hm3, hm4, hm5, hm6, hm7, hm8, hm9, hm10, hm11, hm12, hm13, hm14, hm15, hm16, hm17, hm18, hm19, hm20, hm21, hm22, hm23, hm24, hm25, hm26⟩ := hl
      rw [if_neg c]
      by_cases c0 : k = 0
      · subst c0
        rw [if_pos (Or.inl (by decide))]
        simp (disch := omega) only [e118_0, e118_1, e118_2, e118_2N, e118_3, e118_6, e118_7, e118_8, e118_9, e118_10, e118_11, e118_14, e118_15, e118_16, e118_17, e118_20, e118_21, e118_24, e118_26, e118_29, e118_31, e118_34, e118_35, true_or, m_psh_s, m_psh_n, m_kl_i, m_kl_f, m_kl_r, m_kl_n, m_kl_j, m_kl_l, m_kl_d, c_i, c_f, c_r, c_n, List.length_nil, List.length_cons, true_and, and_true, Nat.reduceAdd, Nat.reduceLeDiff, Nat.reduceSub, Nat.reduceEqDiff, Nat.reduceLT, ge_iff_le, gt_iff_lt, n_lit, m_in, m_nar0, m_nar1, and_self, not_false_eq_true, not_true_eq_false, ne_eq, reduceIte, ite_self, Nat.reduceMul, Nat.reduceDiv, Nat.reduceMod, Nat.reducePow, Nat.zero_add, Nat.add_zero, Nat.one_mul, Nat.mul_one, n_in, n_min, n_clamp, n_eq_t, n_eq_f, n_eq, n_le_t, n_le_f, n_le, n_lt_t, n_lt_f, n_lt, n_sub0, n_sublt, n_suble, n_negsub, m_up_hit, m_up_miss, m_row_hit, m_row_miss, n_eqm, n_meq, n_meqm, n_ltm, n_lem, n_mlt, n_mle, n_sub, n_div, n_and1, n_shl, n_shr, n_inc, n_mul, n_rem, z_lt, z_le, z_nlt, z_nle, Nat.not_lt_zero, Nat.le_zero_eq, Nat.zero_le, if_true, if_false, hm0, hm1, hm2, hm3, hm4, hm5, hm6, hm7, hm8, hm9, hm10, hm11, hm12, hm13, hm14, hm15, hm16, hm17, hm18, hm19, hm20, hm21, hm22, hm23, hm24, hm25, hm26, h3, esh, hm']
      · have c1 : ¬ q_on k 16 < 1 := fun e => c0 (q_on_0 hk2 (by omega))
        by_cases c2 : 6 < q_on k 16
        · rw [if_pos (Or.inr c2)]
          simp (disch := omega) only [e118_0, e118_1, e118_2, e118_2N, e118_3, e118_6, e118_7, e118_8, e118_9, e118_10, e118_11, e118_14, e118_15, e118_16, e118_17, e118_20, e118_21, e118_24, e118_26, e118_29, e118_31, e118_34, e118_35, true_or, m_psh_s, m_psh_n, m_kl_i, m_kl_f, m_kl_r, m_kl_n, m_kl_j, m_kl_l, m_kl_d, c_i, c_f, c_r, c_n, List.length_nil, List.length_cons, true_and, and_true, Nat.reduceAdd, Nat.reduceLeDiff, Nat.reduceSub, Nat.reduceEqDiff, Nat.reduceLT, ge_iff_le, gt_iff_lt, n_lit, m_in, m_nar0, m_nar1, and_self, not_false_eq_true, not_true_eq_false, ne_eq, reduceIte, ite_self, Nat.reduceMul, Nat.reduceDiv, Nat.reduceMod, Nat.reducePow, Nat.zero_add, Nat.add_zero, Nat.one_mul, Nat.mul_one, n_in, n_min, n_clamp, n_eq_t, n_eq_f, n_eq, n_le_t, n_le_f, n_le, n_lt_t, n_lt_f, n_lt, n_sub0, n_sublt, n_suble, n_negsub, m_up_hit, m_up_miss, m_row_hit, m_row_miss, n_eqm, n_meq, n_meqm, n_ltm, n_lem, n_mlt, n_mle, n_sub, n_div, n_and1, n_shl, n_shr, n_inc, n_mul, n_rem, z_lt, z_le, z_nlt, z_nle, Nat.not_lt_zero, Nat.le_zero_eq, Nat.zero_le, if_true, if_false, hm0, hm1, hm2, hm3, hm4, hm5, hm6, hm7, hm8, hm9, hm10, hm11, hm12, hm13, hm14, hm15, hm16, hm17, hm18, hm19, hm20, hm21, hm22, hm23, hm24, hm25, hm26, h3, esh, hm', r_ones hk2]
        · rw [if_neg (by omega)]
          simp (disch := omega) only [e118_0, e118_1, e118_2, e118_2N, e118_3, e118_6, e118_7, e118_8, e118_9, e118_10, e118_11, e118_14, e118_15, e118_16, e118_17, e118_20, e118_21, e118_24, e118_26, e118_29, e118_31, e118_34, e118_35, true_or, m_psh_s, m_psh_n, m_kl_i, m_kl_f, m_kl_r, m_kl_n, m_kl_j, m_kl_l, m_kl_d, c_i, c_f, c_r, c_n, List.length_nil, List.length_cons, true_and, and_true, Nat.reduceAdd, Nat.reduceLeDiff, Nat.reduceSub, Nat.reduceEqDiff, Nat.reduceLT, ge_iff_le, gt_iff_lt, n_lit, m_in, m_nar0, m_nar1, and_self, not_false_eq_true, not_true_eq_false, ne_eq, reduceIte, ite_self, Nat.reduceMul, Nat.reduceDiv, Nat.reduceMod, Nat.reducePow, Nat.zero_add, Nat.add_zero, Nat.one_mul, Nat.mul_one, n_in, n_min, n_clamp, n_eq_t, n_eq_f, n_eq, n_le_t, n_le_f, n_le, n_lt_t, n_lt_f, n_lt, n_sub0, n_sublt, n_suble, n_negsub, m_up_hit, m_up_miss, m_row_hit, m_row_miss, n_eqm, n_meq, n_meqm, n_ltm, n_lem, n_mlt, n_mle, n_sub, n_div, n_and1, n_shl, n_shr, n_inc, n_mul, n_rem, z_lt, z_le, z_nlt, z_nle, Nat.not_lt_zero, Nat.le_zero_eq, Nat.zero_le, if_true, if_false, hm0, hm1, hm2, hm3, hm4, hm5, hm6, hm7, hm8, hm9, hm10, hm11, hm12, hm13, hm14, hm15, hm16, hm17, hm18, hm19, hm20, hm21, hm22, hm23, hm24, hm25, hm26, h3, esh, hm', r_ones hk2]
  · rw [if_pos (Or.inl hx)]
    obtain ⟨u, hu, rfl⟩ := wb_of32 x
    have hu2 : 2147483648 ≤ u := by
      rcases Nat.lt_or_ge u 2147483648 with c | c
      · rw [n_lt_f (Nat.zero_le u) c] at hx
        exact hx.elim
      · exact c
    have hm := n_mask (u := u) (g := S 3) hu (by omega)
    have hm' : (nI u &&& -(nI (2 ^ S 3)) = nI 0) = False := eq_false fun e => by have := hm.mp e; omega
    obtain ⟨hm0, hm1, hm2, hm3, hm4, hm5, hm6, hm7, hm8, hm9, hm10, hm11, hm12, hm13, hm14, hm15, hm16, hm17, hm18, hm19, hm20, hm21, hm22, hm23, hm24, hm25, hm26⟩ := hl
    simp (disch := omega) only [e118_0, e118_1, e118_2, e118_2N, e118_3, e118_6, e118_7, e118_8, e118_9, e118_10, e118_11, e118_14, e118_15, e118_16, e118_17, e118_20, e118_21, e118_24, e118_26, e118_29, e118_31, e118_34, e118_35, true_or, m_psh_s, m_psh_n, m_kl_i, m_kl_f, m_kl_r, m_kl_n, m_kl_j, m_kl_l, m_kl_d, c_i, c_f, c_r, c_n, List.length_nil, List.length_cons, true_and, and_true, Nat.reduceAdd, Nat.reduceLeDiff, Nat.reduceSub, Nat.reduceEqDiff, Nat.reduceLT, ge_iff_le, gt_iff_lt, n_lit, m_in, m_nar0, m_nar1, and_self, not_false_eq_true, not_true_eq_false, ne_eq, reduceIte, ite_self, Nat.reduceMul, Nat.reduceDiv, Nat.reduceMod, Nat.reducePow, Nat.zero_add, Nat.add_zero, Nat.one_mul, Nat.mul_one, n_in, n_min, n_clamp, n_eq_t, n_eq_f, n_eq, n_le_t, n_le_f, n_le, n_lt_t, n_lt_f, n_lt, n_sub0, n_sublt, n_suble, n_negsub, m_up_hit, m_up_miss, m_row_hit, m_row_miss, n_eqm, n_meq, n_meqm, n_ltm, n_lem, n_mlt, n_mle, n_sub, n_div, n_and1, n_shl, n_shr, n_inc, n_mul, n_rem, z_lt, z_le, z_nlt, z_nle, Nat.not_lt_zero, Nat.le_zero_eq, Nat.zero_le, if_true, if_false, hm0, hm1, hm2, hm3, hm4, hm5, hm6, hm7, hm8, hm9, hm10, hm11, hm12, hm13, hm14, hm15, hm16, hm17, hm18, hm19, hm20, hm21, hm22, hm23, hm24, hm25, hm26, h3, esh, hm']
-- the past
def Mch (I : mI) (pm : Nat) : Int32 → List Nat → Prop
  | p, [] => p = -nI 6
  | p, b :: r => ∃ k, p = nI k ∧ k < pm ∧ I 176 k = nI b ∧ Mch I pm (I 177 k) r
theorem Mch_off {p : Int32} {pm pm' : Nat} (h : Mch I pm p hi) (hp : pm ≤ pm') (h1 : ∀ k, k < pm → I' 176 k = I 176 k ∧ I' 177 k = I 177 k) : Mch I' pm' p hi := by
  induction hi generalizing p with
  | nil => exact h
  | cons b r ih =>
    obtain ⟨k, e1, e2, e3, e4⟩ := h
    obtain ⟨u1, u2⟩ := h1 k e2
    exact ⟨k, e1, by omega, by rw [u1]; exact e3, by rw [u2]; exact ih e4⟩
theorem r_often0 {b pm : Nat} (hl : ML lay R) (hb : b < 65536) (hhi : ∀ x, x ∈ hi → x < 65536) (hpm : pm ≤ 2048) : ∀ (acc : Nat) (p : Int32), Mch I pm p hi → (Ev lay d 124 10 [.ref 166, .int (nI b), .int (nI acc), .int p] [] I F R n Q ↔ Q (some (.int (nI (acc + q_cnt b hi)))) I F R n) := by
  have hl' := hl
  obtain ⟨hm0, hm1, hm2, hm3, hm4, hm5, hm6, hm7, hm8, hm9, hm10, hm11, hm12, hm13, hm14, hm15, hm16, hm17, hm18, hm19, hm20, hm21, hm22, hm23, hm24, hm25, hm26⟩ := hl
  induction hi with
  | nil =>
    intro acc p h
    have hp : p = -nI 6 := h
    subst hp
    rw [e124_10]
    simp (disch := omega) only [e124_11, e124_13, e124_16, e124_17, e124_17N, e124_18, e124_21, e124_22, e124_23, e124_24, e124_27, e124_28, e124_31, e124_32, e124_33, e124_34, e124_34N, e124_35, e124_38, e124_39, e124_40, e124_41, e124_44, e124_45, true_or, m_psh_s, m_psh_n, m_kl_i, m_kl_f, m_kl_r, m_kl_n, m_kl_j, m_kl_l, m_kl_d, c_i, c_f, c_r, c_n, List.length_nil, List.length_cons, true_and, and_true, Nat.reduceAdd, Nat.reduceLeDiff, Nat.reduceSub, Nat.reduceEqDiff, Nat.reduceLT, ge_iff_le, gt_iff_lt, n_lit, m_in, m_nar0, m_nar1, and_self, not_false_eq_true, not_true_eq_false, ne_eq, reduceIte, ite_self, Nat.reduceMul, Nat.reduceDiv, Nat.reduceMod, Nat.reducePow, Nat.zero_add, Nat.add_zero, Nat.one_mul, Nat.mul_one, n_in, n_min, n_clamp, n_eq_t, n_eq_f, n_eq, n_le_t, n_le_f, n_le, n_lt_t, n_lt_f, n_lt, n_sub0, n_sublt, n_suble, n_negsub, m_up_hit, m_up_miss, m_row_hit, m_row_miss, n_eqm, n_meq, n_meqm, n_ltm, n_lem, n_mlt, n_mle, n_sub, n_div, n_and1, n_shl, n_shr, n_inc, n_mul, n_rem, z_lt, z_le, z_nlt, z_nle, Nat.not_lt_zero, Nat.le_zero_eq, Nat.zero_le, if_true, if_false]
    rfl
  | cons x r ih =>
    intro acc p h
    obtain ⟨k, e1, e2, e3, e4⟩ := h
    subst e1
    have hx := hhi x (List.mem_cons_self ..)
    have key := fun acc => ih (fun y hy => hhi y (List.mem_cons_of_mem _ hy)) acc (I 177 k) e4
    have eq : q_cnt b (x :: r) = q_cnt b r + (if x = b then 1 else 0) := rfl
    rw [e124_10, eq]
    by_cases c : x = b
    · have kk := key (acc + 1)
      rw [if_pos c, show acc + (q_cnt b r + 1) = acc + 1 + q_cnt b r by omega]
      simp (disch := omega) only [e124_11, e124_13, e124_16, e124_17, e124_17N, e124_18, e124_21, e124_22, e124_23, e124_24, e124_27, e124_28, e124_31, e124_32, e124_33, e124_34, e124_34N, e124_35, e124_38, e124_39, e124_40, e124_41, e124_44, e124_45, true_or, m_psh_s, m_psh_n, m_kl_i, m_kl_f, m_kl_r, m_kl_n, m_kl_j, m_kl_l, m_kl_d, c_i, c_f, c_r, c_n, List.length_nil, List.length_cons, true_and, and_true, Nat.reduceAdd, Nat.reduceLeDiff, Nat.reduceSub, Nat.reduceEqDiff, Nat.reduceLT, ge_iff_le, gt_iff_lt, n_lit, m_in, m_nar0, m_nar1, and_self, not_false_eq_true, not_true_eq_false, ne_eq, reduceIte, ite_self, Nat.reduceMul, Nat.reduceDiv, Nat.reduceMod, Nat.reducePow, Nat.zero_add, Nat.add_zero, Nat.one_mul, Nat.mul_one, n_in, n_min, n_clamp, n_eq_t, n_eq_f, n_eq, n_le_t, n_le_f, n_le, n_lt_t, n_lt_f, n_lt, n_sub0, n_sublt, n_suble, n_negsub, m_up_hit, m_up_miss, m_row_hit, m_row_miss, n_eqm, n_meq, n_meqm, n_ltm, n_lem, n_mlt, n_mle, n_sub, n_div, n_and1, n_shl, n_shr, n_inc, n_mul, n_rem, z_lt, z_le, z_nlt, z_nle, Nat.not_lt_zero, Nat.le_zero_eq, Nat.zero_le, if_true, if_false, hm0, hm1, hm2, hm3, hm4, hm5, hm6, hm7, hm8, hm9, hm10, hm11, hm12, hm13, hm14, hm15, hm16, hm17, hm18, hm19, hm20, hm21, hm22, hm23, hm24, hm25, hm26, e3]
      exact kk
    · have kk := key acc
      rw [if_neg c, Nat.add_zero]
      simp (disch := omega) only [e124_11, e124_13, e124_16, e124_17, e124_17N, e124_18, e124_21, e124_22, e124_23, e124_24, e124_27, e124_28, e124_31, e124_32, e124_33, e124_34, e124_34N, e124_35, e124_38, e124_39, e124_40, e124_41, e124_44, e124_45, true_or, m_psh_s, m_psh_n, m_kl_i, m_kl_f, m_kl_r, m_kl_n, m_kl_j, m_kl_l, m_kl_d, c_i, c_f, c_r, c_n, List.length_nil, List.length_cons, true_and, and_true, Nat.reduceAdd, Nat.reduceLeDiff, Nat.reduceSub, Nat.reduceEqDiff, Nat.reduceLT, ge_iff_le, gt_iff_lt, n_lit, m_in, m_nar0, m_nar1, and_self, not_false_eq_true, not_true_eq_false, ne_eq, reduceIte, ite_self, Nat.reduceMul, Nat.reduceDiv, Nat.reduceMod, Nat.reducePow, Nat.zero_add, Nat.add_zero, Nat.one_mul, Nat.mul_one, n_in, n_min, n_clamp, n_eq_t, n_eq_f, n_eq, n_le_t, n_le_f, n_le, n_lt_t, n_lt_f, n_lt, n_sub0, n_sublt, n_suble, n_negsub, m_up_hit, m_up_miss, m_row_hit, m_row_miss, n_eqm, n_meq, n_meqm, n_ltm, n_lem, n_mlt, n_mle, n_sub, n_div, n_and1, n_shl, n_shr, n_inc, n_mul, n_rem, z_lt, z_le, z_nlt, z_nle, Nat.not_lt_zero, Nat.le_zero_eq, Nat.zero_le, if_true, if_false, hm0, hm1, hm2, hm3, hm4, hm5, hm6, hm7, hm8, hm9, hm10, hm11, hm12, hm13, hm14, hm15, hm16, hm17, hm18, hm19, hm20, hm21, hm22, hm23, hm24, hm25, hm26, e3]
      exact kk
theorem r_oftenOf {b pm : Nat} (hl : ML lay R) (hb : b < 65536) (hhi : ∀ x, x ∈ hi → x < 65536) (hpm : pm ≤ 2048) (h : Mch I pm (I 167 123) hi) : Ev lay d 124 0 [.ref 166, .int (nI b), m_j, m_j] [] I F R n Q ↔ Q (some (.int (nI (q_cnt b hi)))) I F R n := by
  have key := r_often0 (d := d) (F := F) (n := n) (Q := Q) hl hb hhi hpm 0 _ h
  rw [Nat.zero_add] at key
  obtain ⟨hm0, hm1, hm2, hm3, hm4, hm5, hm6, hm7, hm8, hm9, hm10, hm11, hm12, hm13, hm14, hm15, hm16, hm17, hm18, hm19, hm20, hm21, hm22, hm23, hm24, hm25, hm26⟩ := hl
  simp (disch := omega) only [e124_0, e124_1, e124_2, e124_2N, e124_3, e124_6, e124_8, e124_9, true_or, m_psh_s, m_psh_n, m_kl_i, m_kl_f, m_kl_r, m_kl_n, m_kl_j, m_kl_l, m_kl_d, c_i, c_f, c_r, c_n, List.length_nil, List.length_cons, true_and, and_true, Nat.reduceAdd, Nat.reduceLeDiff, Nat.reduceSub, Nat.reduceEqDiff, Nat.reduceLT, ge_iff_le, gt_iff_lt, n_lit, m_in, m_nar0, m_nar1, and_self, not_false_eq_true, not_true_eq_false, ne_eq, reduceIte, ite_self, Nat.reduceMul, Nat.reduceDiv, Nat.reduceMod, Nat.reducePow, Nat.zero_add, Nat.add_zero, Nat.one_mul, Nat.mul_one, n_in, n_min, n_clamp, n_eq_t, n_eq_f, n_eq, n_le_t, n_le_f, n_le, n_lt_t, n_lt_f, n_lt, n_sub0, n_sublt, n_suble, n_negsub, m_up_hit, m_up_miss, m_row_hit, m_row_miss, n_eqm, n_meq, n_meqm, n_ltm, n_lem, n_mlt, n_mle, n_sub, n_div, n_and1, n_shl, n_shr, n_inc, n_mul, n_rem, z_lt, z_le, z_nlt, z_nle, Nat.not_lt_zero, Nat.le_zero_eq, Nat.zero_le, if_true, if_false, hm0, hm1, hm2, hm3, hm4, hm5, hm6, hm7, hm8, hm9, hm10, hm11, hm12, hm13, hm14, hm15, hm16, hm17, hm18, hm19, hm20, hm21, hm22, hm23, hm24, hm25, hm26]
  exact key
/-- what a pick of the reference leaves alone -/
def Op2 (pm : Nat) (I : mI) (F : mF) (R : mR) (I' : mI) : Prop := (∀ x, x ≠ 166 → x ≠ 167 → x ≠ 168 → x ≠ 176 → x ≠ 177 → I' x = I x) ∧ (∀ k, k ≠ 14 → I' 166 k = I 166 k) ∧ (∀ k, k < pm → I' 176 k = I 176 k ∧ I' 177 k = I 177 k)
theorem r_bits0 {b : Nat} {v2 v3 : Int32} (hl : ML lay R) (hb : b < 65536) (hd : 1 ≤ d) {T : Nat → Nat} (w1 : T 3 ≤ 16) (j : Nat) : ∀ (k : Nat) (I : mI), k + j = T 3 → MS I F (q_bits T b k) sp → (∀ I', MS I' F (q_bits T b (T 3)) sp → Om I F R I' F → Q (some (.int v3)) I' F R n) → Ev lay d 117 172 [.ref 166, .int (nI b), .int v2, .int v3, .int (nI k)] [] I F R n Q := by
  have hl' := hl
  obtain ⟨hm0, hm1, hm2, hm3, hm4, hm5, hm6, hm7, hm8, hm9, hm10, hm11, hm12, hm13, hm14, hm15, hm16, hm17, hm18, hm19, hm20, hm21, hm22, hm23, hm24, hm25, hm26⟩ := hl
  induction j with
  | zero =>
    intro k I hk h hQ
    have hk2 : k = T 3 := by omega
    subst hk2
    have h3 := h.1 3 (by omega)
    rw [q_bits_o (by omega)] at h3
    have key := hQ I h Om_refl
    rw [e117_172]
    simp (disch := omega) only [e117_174, e117_174N, e117_175, e117_178, e117_179, e117_180, e117_183, e117_183N, e117_184, e117_187, e117_189, e117_190, e117_193, e117_194, e117_195, e117_196, e117_198, e117_199, e117_200, e117_201, e117_202, e117_203, e117_203N, e117_204, e117_207, e117_209, e117_210, e117_213, e117_214, e117_215, e117_216, e117_218, e117_219, e117_220, e117_221, e117_222, e117_223, e117_226, e117_229, e117_230, true_or, m_psh_s, m_psh_n, m_kl_i, m_kl_f, m_kl_r, m_kl_n, m_kl_j, m_kl_l, m_kl_d, c_i, c_f, c_r, c_n, List.length_nil, List.length_cons, true_and, and_true, Nat.reduceAdd, Nat.reduceLeDiff, Nat.reduceSub, Nat.reduceEqDiff, Nat.reduceLT, ge_iff_le, gt_iff_lt, n_lit, m_in, m_nar0, m_nar1, and_self, not_false_eq_true, not_true_eq_false, ne_eq, reduceIte, ite_self, Nat.reduceMul, Nat.reduceDiv, Nat.reduceMod, Nat.reducePow, Nat.zero_add, Nat.add_zero, Nat.one_mul, Nat.mul_one, n_in, n_min, n_clamp, n_eq_t, n_eq_f, n_eq, n_le_t, n_le_f, n_le, n_lt_t, n_lt_f, n_lt, n_sub0, n_sublt, n_suble, n_negsub, m_up_hit, m_up_miss, m_row_hit, m_row_miss, n_eqm, n_meq, n_meqm, n_ltm, n_lem, n_mlt, n_mle, n_sub, n_div, n_and1, n_shl, n_shr, n_inc, n_mul, n_rem, z_lt, z_le, z_nlt, z_nle, Nat.not_lt_zero, Nat.le_zero_eq, Nat.zero_le, if_true, if_false, hm0, hm1, hm2, hm3, hm4, hm5, hm6, hm7, hm8, hm9, hm10, hm11, hm12, hm13, hm14, hm15, hm16, hm17, hm18, hm19, hm20, hm21, hm22, hm23, hm24, hm25, hm26, h3]
    exact key
  | succ j ih =>
    intro k I hk h hQ
    have h3 := h.1 3 (by omega)
    rw [q_bits_o (by omega)] at h3
    have e5 : 4 + 4 * k + 1 = 5 + 4 * k := by omega
    have e6 : 4 + 4 * k + 2 = 6 + 4 * k := by omega
    have p5 := h.1 (5 + 4 * k) (by omega)
    have p6 := h.1 (6 + 4 * k) (by omega)
    have hM := MS_up (k := 6 + 4 * k) (v := q_bits T b k (6 + 4 * k) + b / 2 ^ k % 2) (MS_up (k := 5 + 4 * k) (v := q_bits T b k (5 + 4 * k) + b / 2 ^ k % 2) h)
    rw [q_bits_s] at hM
    have key := ih (k + 1) _ (by omega) hM (fun I' t1 t2 => hQ I' t1 (Om_trans (Om_trans (Om_up (by omega)) (Om_up (by omega))) t2))
    rw [e117_172]
    simp (disch := omega) only [e117_174, e117_174N, e117_175, e117_178, e117_179, e117_180, e117_183, e117_183N, e117_184, e117_187, e117_189, e117_190, e117_193, e117_194, e117_195, e117_196, e117_198, e117_199, e117_200, e117_201, e117_202, e117_203, e117_203N, e117_204, e117_207, e117_209, e117_210, e117_213, e117_214, e117_215, e117_216, e117_218, e117_219, e117_220, e117_221, e117_222, e117_223, e117_226, e117_229, e117_230, true_or, m_psh_s, m_psh_n, m_kl_i, m_kl_f, m_kl_r, m_kl_n, m_kl_j, m_kl_l, m_kl_d, c_i, c_f, c_r, c_n, List.length_nil, List.length_cons, true_and, and_true, Nat.reduceAdd, Nat.reduceLeDiff, Nat.reduceSub, Nat.reduceEqDiff, Nat.reduceLT, ge_iff_le, gt_iff_lt, n_lit, m_in, m_nar0, m_nar1, and_self, not_false_eq_true, not_true_eq_false, ne_eq, reduceIte, ite_self, Nat.reduceMul, Nat.reduceDiv, Nat.reduceMod, Nat.reducePow, Nat.zero_add, Nat.add_zero, Nat.one_mul, Nat.mul_one, n_in, n_min, n_clamp, n_eq_t, n_eq_f, n_eq, n_le_t, n_le_f, n_le, n_lt_t, n_lt_f, n_lt, n_sub0, n_sublt, n_suble, n_negsub, m_up_hit, m_up_miss, m_row_hit, m_row_miss, n_eqm, n_meq, n_meqm, n_ltm, n_lem, n_mlt, n_mle, n_sub, n_div, n_and1, n_shl, n_shr, n_inc, n_mul, n_rem, z_lt, z_le, z_nlt, z_nle, Nat.not_lt_zero, Nat.le_zero_eq, Nat.zero_le, if_true, if_false, hm0, hm1, hm2, hm3, hm4, hm5, hm6, hm7, hm8, hm9, hm10, hm11, hm12, hm13, hm14, hm15, hm16, hm17, hm18, hm19, hm20, hm21, hm22, hm23, hm24, hm25, hm26, h3, r_ofGood, e5, e6, p5, p6]
    exact key
end MODELF
