section MORDER
variable {lay : mL} {d a n n' : Nat} {I I' : mI} {F F' : mF} {R R' : mR} {Q : mP} {S : Nat → Nat} {sp : Nat → UInt32} {hi : List Nat} {pm pm' pl : Nat} {hs : List St} {pc : Nat → Nat} {sv : Nat → Option St}
/-- what the reference holds of an order that it has read -/
def OR (I : mI) (l f g t w : Nat) : Prop := I 166 19 = nI l ∧ (l ≠ 98 → l ≠ 110 → I 166 20 = nI f) ∧ (l = 109 → I 166 21 = nI g) ∧ (l = 98 → I 166 22 = nI t ∧ I 166 23 = nI w)
theorem r_bask0 (hl : ML lay R) (h80 : pl ≤ 80) (hp : padOK pl pc) (hd : 4 ≤ d) (f : Nat) : ∀ (s ft t w : Nat) (I : mI), PM I pl pc → RD I s ft → s ≤ pl → ft ≤ 1 → t < 65536 → w ≤ 1 → I 166 22 = nI t → I 166 23 = nI w → pl < s + f → (ft = 0 ∨ f = 1) →
    (∀ I', F7 I I' → (∀ k, k < 22 → k ≠ 17 → k ≠ 18 → I' 166 k = I 166 k) → (ft = 0 → match q_bk pl pc f s t w with
      | .inl p => RD I' p 1
      | .inr (t', w', s1) => RD I' s1 0 ∧ I' 166 22 = nI t' ∧ I' 166 23 = nI w') → (ft = 1 → RD I' s 1) → Q none I' F R n) →
    (∀ (I1 : mI), F7 I I1 → (∀ k, k < 22 → k ≠ 17 → k ≠ 18 → I1 166 k = I 166 k) → RD I1 (q_nb pl pc s ft).2.1 (q_nb pl pc s ft).2.2 → I1 166 22 = nI (if (q_nb pl pc s ft).1 < 16 then t ||| 2 ^ (q_nb pl pc s ft).1 else t) → I1 166 23 = nI (if (q_nb pl pc s ft).1 < 16 then w else 1) → Ev lay d 157 133 [.ref 166] [] I1 F R n Q) := by
  have m0 := hl.1
  induction f with
  | zero => intro s ft t w I hP hr hs hft ht hw h22 h23 hf hff; omega
  | succ f ih =>
    intro s ft t w I hP hr hs hft ht hw h22 h23 hf hff hQ I1 f1 g1 rd1 i22 i23
    have P1 := PM_7 hP f1
    have nb := q_nb_le (pc := pc) (ft := ft) hs
    have kn : ∀ (Q : mP), _ := fun Q => r_isNext (d := d - 1) (F := F) (n := n) (Q := Q) (lo := 44) (hi' := 44) hl P1 h80 hp rd1 nb.1 nb.2.1 (by omega) (by omega) (by omega)
    rw [e157_133]
    by_cases c0 : ft = 0
    · subst c0
      have hQ' := fun I' a1 a2 a3 => hQ I' a1 a2 (fun _ => a3) (fun e => by omega)
      cases e : q_nm pl pc s with
      | inl p =>
        have enb : q_nb pl pc s 0 = (0, s, 1) := by unfold q_nb; rw [if_pos rfl, e]
        rw [enb] at rd1 kn
        rw [if_neg (fun z => absurd z.1 (show ¬ (1 : Nat) = 0 by decide))] at kn
        have ep : p = s := by
          unfold q_nm at e
          split at e
          · split at e
            · cases e
            · split at e <;> cases e
          · cases e; rfl
        have key := hQ' I1 f1 g1 (by rw [q_bk, e]; dsimp only; rw [ep]; exact rd1)
        simp (disch := omega) only [e157_134, e157_136, e157_138, e157_141, e157_144, e157_144N, e157_145, e157_146, e157_149, e157_150, e157_151, e157_154, e157_154N, e157_155, e157_158, e157_201, true_or, m_psh_s, m_psh_n, m_kl_i, m_kl_f, m_kl_r, m_kl_n, m_kl_j, m_kl_l, m_kl_d, c_i, c_f, c_r, c_n, List.length_nil, List.length_cons, true_and, and_true, Nat.reduceAdd, Nat.reduceLeDiff, Nat.reduceSub, Nat.reduceEqDiff, Nat.reduceLT, ge_iff_le, gt_iff_lt, n_lit, m_in, m_nar0, m_nar1, and_self, not_false_eq_true, not_true_eq_false, ne_eq, reduceIte, ite_self, Nat.reduceMul, Nat.reduceDiv, Nat.reduceMod, Nat.reducePow, Nat.zero_add, Nat.add_zero, Nat.one_mul, Nat.mul_one, n_in, n_min, n_clamp, n_eq_t, n_eq_f, n_eq, n_le_t, n_le_f, n_le, n_lt_t, n_lt_f, n_lt, n_sub0, n_sublt, n_suble, n_negsub, m_up_hit, m_up_miss, m_row_hit, m_row_miss, n_eqm, n_meq, n_meqm, n_ltm, n_lem, n_mlt, n_mle, n_sub, n_div, n_and1, n_shl, n_shr, n_inc, n_mul, n_rem, z_lt, z_le, z_nlt, z_nle, Nat.not_lt_zero, Nat.le_zero_eq, Nat.zero_le, if_true, if_false, m0, kn]
        exact key
      | inr x =>
        obtain ⟨v, s1⟩ := x
        have e1 := q_nm_lt e
        have enb : q_nb pl pc s 0 = (v, s1, 0) := by unfold q_nb; rw [if_pos rfl, e]
        rw [enb] at rd1 i22 i23 kn
        dsimp only at rd1 i22 i23 kn
        by_cases c : s1 < pl ∧ pc s1 = 44
        · rw [if_pos ⟨rfl, c.1, by omega, by omega⟩] at kn
          have ht2 : (if v < 16 then t ||| 2 ^ v else t) < 65536 := by
            split
            · rename_i c
              exact Nat.or_lt_two_pow (n := 16) ht (Nat.pow_lt_pow_right (by decide) c)
            · exact ht
          have hw2 : (if v < 16 then w else 1) ≤ 1 := by split <;> omega
          have f2 : F7 I1 (m_up I1 166 17 (nI (s1 + 1))) := F7_up (by omega)
          have rd2 : RD (m_up I1 166 17 (nI (s1 + 1))) (s1 + 1) 0 := ⟨m_up_at, by rw [m_up_ne (by omega)]; exact rd1.2⟩
          have P2 := PM_7 P1 f2
          have kg : ∀ (Q : mP), _ → _ := fun Q hQ => r_readGood (d := d - 1) (F := F) (n := n) (Q := Q) (t := if v < 16 then t ||| 2 ^ v else t) (w := if v < 16 then w else 1) hl P2 h80 hp rd2 c.1 (by omega) (by rw [m_up_ne (by omega)]; exact i22) (by rw [m_up_ne (by omega)]; exact i23) hw2 ht2 (by omega) hQ
          simp (disch := omega) only [e157_134, e157_136, e157_138, e157_141, e157_144, e157_144N, e157_145, e157_146, e157_149, e157_150, e157_151, e157_154, e157_154N, e157_155, true_or, m_psh_s, m_psh_n, m_kl_i, m_kl_f, m_kl_r, m_kl_n, m_kl_j, m_kl_l, m_kl_d, c_i, c_f, c_r, c_n, List.length_nil, List.length_cons, true_and, and_true, Nat.reduceAdd, Nat.reduceLeDiff, Nat.reduceSub, Nat.reduceEqDiff, Nat.reduceLT, ge_iff_le, gt_iff_lt, n_lit, m_in, m_nar0, m_nar1, and_self, not_false_eq_true, not_true_eq_false, ne_eq, reduceIte, ite_self, Nat.reduceMul, Nat.reduceDiv, Nat.reduceMod, Nat.reducePow, Nat.zero_add, Nat.add_zero, Nat.one_mul, Nat.mul_one, n_in, n_min, n_clamp, n_eq_t, n_eq_f, n_eq, n_le_t, n_le_f, n_le, n_lt_t, n_lt_f, n_lt, n_sub0, n_sublt, n_suble, n_negsub, m_up_hit, m_up_miss, m_row_hit, m_row_miss, n_eqm, n_meq, n_meqm, n_ltm, n_lem, n_mlt, n_mle, n_sub, n_div, n_and1, n_shl, n_shr, n_inc, n_mul, n_rem, z_lt, z_le, z_nlt, z_nle, Nat.not_lt_zero, Nat.le_zero_eq, Nat.zero_le, if_true, if_false, m0, kn, rd1.1]
          apply kg
          intro I3 f3 g3 rd3 j22 j23
          have key := ih (s1 + 1) 0 _ _ (m_up I1 166 17 (nI (s1 + 1))) P2 rd2 c.1 (by omega) ht2 hw2 (by rw [m_up_ne (by omega)]; exact i22) (by rw [m_up_ne (by omega)]; exact i23) (by omega) (Or.inl rfl) (fun I' b1 b2 b3 b4 => hQ' I' (F7_trans f1 (F7_trans f2 b1)) (fun k a1 a2 a3 => by rw [b2 k a1 a2 a3, m_up_ne a2, g1 k a1 a2 a3]) (by rw [q_bk, e]; dsimp only; rw [if_pos c]; exact b3 rfl)) I3 f3 g3 rd3 j22 j23
          simp (disch := omega) only [e157_158, true_or, m_psh_s, m_psh_n, m_kl_i, m_kl_f, m_kl_r, m_kl_n, m_kl_j, m_kl_l, m_kl_d, c_i, c_f, c_r, c_n, List.length_nil, List.length_cons, true_and, and_true, Nat.reduceAdd, Nat.reduceLeDiff, Nat.reduceSub, Nat.reduceEqDiff, Nat.reduceLT, ge_iff_le, gt_iff_lt, n_lit, m_in, m_nar0, m_nar1, and_self, not_false_eq_true, not_true_eq_false, ne_eq, reduceIte, ite_self, Nat.reduceMul, Nat.reduceDiv, Nat.reduceMod, Nat.reducePow, Nat.zero_add, Nat.add_zero, Nat.one_mul, Nat.mul_one, n_in, n_min, n_clamp, n_eq_t, n_eq_f, n_eq, n_le_t, n_le_f, n_le, n_lt_t, n_lt_f, n_lt, n_sub0, n_sublt, n_suble, n_negsub, m_up_hit, m_up_miss, m_row_hit, m_row_miss, n_eqm, n_meq, n_meqm, n_ltm, n_lem, n_mlt, n_mle, n_sub, n_div, n_and1, n_shl, n_shr, n_inc, n_mul, n_rem, z_lt, z_le, z_nlt, z_nle, Nat.not_lt_zero, Nat.le_zero_eq, Nat.zero_le, if_true, if_false]
          exact key
        · rw [if_neg (fun z => c ⟨z.2.1, by omega⟩)] at kn
          have key := hQ' I1 f1 g1 (by rw [q_bk, e]; dsimp only; rw [if_neg c]; exact ⟨rd1, i22, i23⟩)
          simp (disch := omega) only [e157_134, e157_136, e157_138, e157_141, e157_144, e157_144N, e157_145, e157_146, e157_149, e157_150, e157_151, e157_154, e157_154N, e157_155, e157_158, e157_201, true_or, m_psh_s, m_psh_n, m_kl_i, m_kl_f, m_kl_r, m_kl_n, m_kl_j, m_kl_l, m_kl_d, c_i, c_f, c_r, c_n, List.length_nil, List.length_cons, true_and, and_true, Nat.reduceAdd, Nat.reduceLeDiff, Nat.reduceSub, Nat.reduceEqDiff, Nat.reduceLT, ge_iff_le, gt_iff_lt, n_lit, m_in, m_nar0, m_nar1, and_self, not_false_eq_true, not_true_eq_false, ne_eq, reduceIte, ite_self, Nat.reduceMul, Nat.reduceDiv, Nat.reduceMod, Nat.reducePow, Nat.zero_add, Nat.add_zero, Nat.one_mul, Nat.mul_one, n_in, n_min, n_clamp, n_eq_t, n_eq_f, n_eq, n_le_t, n_le_f, n_le, n_lt_t, n_lt_f, n_lt, n_sub0, n_sublt, n_suble, n_negsub, m_up_hit, m_up_miss, m_row_hit, m_row_miss, n_eqm, n_meq, n_meqm, n_ltm, n_lem, n_mlt, n_mle, n_sub, n_div, n_and1, n_shl, n_shr, n_inc, n_mul, n_rem, z_lt, z_le, z_nlt, z_nle, Nat.not_lt_zero, Nat.le_zero_eq, Nat.zero_le, if_true, if_false, m0, kn]
          exact key
    · have c1 : ft = 1 := by omega
      subst c1
      have enb : q_nb pl pc s 1 = (0, s, 1) := by unfold q_nb; rw [if_neg (by decide)]
      rw [enb] at rd1 kn
      rw [if_neg (fun z => absurd z.1 (show ¬ (1 : Nat) = 0 by decide))] at kn
      have key := hQ I1 f1 g1 (fun e => by omega) (fun _ => rd1)
      simp (disch := omega) only [e157_134, e157_136, e157_138, e157_141, e157_144, e157_144N, e157_145, e157_146, e157_149, e157_150, e157_151, e157_154, e157_154N, e157_155, e157_158, e157_201, true_or, m_psh_s, m_psh_n, m_kl_i, m_kl_f, m_kl_r, m_kl_n, m_kl_j, m_kl_l, m_kl_d, c_i, c_f, c_r, c_n, List.length_nil, List.length_cons, true_and, and_true, Nat.reduceAdd, Nat.reduceLeDiff, Nat.reduceSub, Nat.reduceEqDiff, Nat.reduceLT, ge_iff_le, gt_iff_lt, n_lit, m_in, m_nar0, m_nar1, and_self, not_false_eq_true, not_true_eq_false, ne_eq, reduceIte, ite_self, Nat.reduceMul, Nat.reduceDiv, Nat.reduceMod, Nat.reducePow, Nat.zero_add, Nat.add_zero, Nat.one_mul, Nat.mul_one, n_in, n_min, n_clamp, n_eq_t, n_eq_f, n_eq, n_le_t, n_le_f, n_le, n_lt_t, n_lt_f, n_lt, n_sub0, n_sublt, n_suble, n_negsub, m_up_hit, m_up_miss, m_row_hit, m_row_miss, n_eqm, n_meq, n_meqm, n_ltm, n_lem, n_mlt, n_mle, n_sub, n_div, n_and1, n_shl, n_shr, n_inc, n_mul, n_rem, z_lt, z_le, z_nlt, z_nle, Nat.not_lt_zero, Nat.le_zero_eq, Nat.zero_le, if_true, if_false, m0, kn]
      exact key
theorem r_readOrder {s : Nat} (hl : ML lay R) (hP : PM I pl pc) (h80 : pl ≤ 80) (hp : padOK pl pc) (hr : RD I s 0) (hs : s ≤ pl) (hd : 4 ≤ d)
    (hQ : ∀ I', F7 I I' → (match q_od pl pc s with
      | .inl p => RD I' p 1
      | .inr (l, f, g, t, w, s1) => RD I' s1 0 ∧ OR I' l f g t w) → Q none I' F R n) : Ev lay d 157 0 [.ref 166] [] I F R n Q := by
  have m0 := hl.1
  have m9 : lay 175 = (0, 80) := by obtain ⟨hm0, hm1, hm2, hm3, hm4, hm5, hm6, hm7, hm8, hm9, hm10, hm11, hm12, hm13, hm14, hm15, hm16, hm17, hm18, hm19, hm20, hm21, hm22, hm23, hm24, hm25, hm26⟩ := hl; assumption
  have r10 : m_rv (R 166 10) = .ref 175 := by obtain ⟨hm0, hm1, hm2, hm3, hm4, hm5, hm6, hm7, hm8, hm9, hm10, hm11, hm12, hm13, hm14, hm15, hm16, hm17, hm18, hm19, hm20, hm21, hm22, hm23, hm24, hm25, hm26⟩ := hl; assumption
  obtain ⟨p1, p2⟩ := hP
  obtain ⟨r1, r2⟩ := hr
  -- the state behind the letter
  have st : ∀ (l s1 ft : Nat), F7 I (m_up (m_up (m_up (m_up (m_up I 166 19 (nI l)) 166 18 (nI ft)) 166 17 (nI s1)) 166 22 (nI 0)) 166 23 (nI 0)) ∧ RD (m_up (m_up (m_up (m_up (m_up I 166 19 (nI l)) 166 18 (nI ft)) 166 17 (nI s1)) 166 22 (nI 0)) 166 23 (nI 0)) s1 ft ∧ (m_up (m_up (m_up (m_up (m_up I 166 19 (nI l)) 166 18 (nI ft)) 166 17 (nI s1)) 166 22 (nI 0)) 166 23 (nI 0)) 166 19 = nI l ∧ (m_up (m_up (m_up (m_up (m_up I 166 19 (nI l)) 166 18 (nI ft)) 166 17 (nI s1)) 166 22 (nI 0)) 166 23 (nI 0)) 166 22 = nI 0 ∧ (m_up (m_up (m_up (m_up (m_up I 166 19 (nI l)) 166 18 (nI ft)) 166 17 (nI s1)) 166 22 (nI 0)) 166 23 (nI 0)) 166 23 = nI 0 := fun l s1 ft =>
    ⟨F7_trans (F7_up (by omega)) (F7_trans (F7_up (by omega)) (F7_trans (F7_up (by omega)) (F7_trans (F7_up (by omega)) (F7_up (by omega))))), ⟨by simp (disch := omega) only [m_up_miss, m_up_hit], by simp (disch := omega) only [m_up_miss, m_up_hit]⟩, by simp (disch := omega) only [m_up_miss, m_up_hit], by simp (disch := omega) only [m_up_miss, m_up_hit], by simp (disch := omega) only [m_up_miss, m_up_hit]⟩
  have two : ∀ (l s1 ft : Nat) (I2 : mI), l < 256 → (l = 109 ∨ l = 103 ∨ l = 120 ∨ ft = 1) → ft ≤ 1 → l ≠ 98 → l ≠ 110 → s1 ≤ pl → F7 I I2 → RD I2 s1 ft → I2 166 19 = nI l → (∀ I', F7 I I' → RD I' (if l = 109 then (if (q_nb pl pc s1 ft).2.2 = 0 ∧ (q_nb pl pc s1 ft).2.1 < pl ∧ pc (q_nb pl pc s1 ft).2.1 = 45 then (q_nb pl pc ((q_nb pl pc s1 ft).2.1 + 1) 0).2.1 else (q_nb pl pc s1 ft).2.1) else (q_nb pl pc s1 ft).2.1) (if l = 109 then (if (q_nb pl pc s1 ft).2.2 = 0 ∧ (q_nb pl pc s1 ft).2.1 < pl ∧ pc (q_nb pl pc s1 ft).2.1 = 45 then (q_nb pl pc ((q_nb pl pc s1 ft).2.1 + 1) 0).2.2 else 1) else (q_nb pl pc s1 ft).2.2) → I' 166 19 = nI l → I' 166 20 = nI (q_nb pl pc s1 ft).1 → (l = 109 → (q_nb pl pc s1 ft).2.2 = 0 ∧ (q_nb pl pc s1 ft).2.1 < pl ∧ pc (q_nb pl pc s1 ft).2.1 = 45 → I' 166 21 = nI (q_nb pl pc ((q_nb pl pc s1 ft).2.1 + 1) 0).1) → Q none I' F R n) → Ev lay d 157 161 [.ref 166] [] I2 F R n Q := by
    intro l s1 ft I2 hl256 hlf hft hl98 hl110 hs1 f2 rd2 i19 hQ
    have P2 := PM_7 ⟨p1, p2⟩ f2
    have kn : ∀ (Q : mP), _ → _ := fun Q hQ => r_number (d := d - 1) (F := F) (n := n) (Q := Q) hl P2 h80 hp rd2 hs1 hft (by omega) hQ
    have nb := q_nb_le (pc := pc) (ft := ft) hs1
    generalize q_nb pl pc s1 ft = q at *
    simp (disch := omega) only [e157_161, e157_161N, e157_162, e157_165, e157_167, e157_170, e157_170N, e157_171, e157_171N, e157_172, true_or, m_psh_s, m_psh_n, m_kl_i, m_kl_f, m_kl_r, m_kl_n, m_kl_j, m_kl_l, m_kl_d, c_i, c_f, c_r, c_n, List.length_nil, List.length_cons, true_and, and_true, Nat.reduceAdd, Nat.reduceLeDiff, Nat.reduceSub, Nat.reduceEqDiff, Nat.reduceLT, ge_iff_le, gt_iff_lt, n_lit, m_in, m_nar0, m_nar1, and_self, not_false_eq_true, not_true_eq_false, ne_eq, reduceIte, ite_self, Nat.reduceMul, Nat.reduceDiv, Nat.reduceMod, Nat.reducePow, Nat.zero_add, Nat.add_zero, Nat.one_mul, Nat.mul_one, n_in, n_min, n_clamp, n_eq_t, n_eq_f, n_eq, n_le_t, n_le_f, n_le, n_lt_t, n_lt_f, n_lt, n_sub0, n_sublt, n_suble, n_negsub, m_up_hit, m_up_miss, m_row_hit, m_row_miss, n_eqm, n_meq, n_meqm, n_ltm, n_lem, n_mlt, n_mle, n_sub, n_div, n_and1, n_shl, n_shr, n_inc, n_mul, n_rem, z_lt, z_le, z_nlt, z_nle, Nat.not_lt_zero, Nat.le_zero_eq, Nat.zero_le, if_true, if_false, m0, i19]
    apply kn
    intro I3 f3 rd3
    have i19' : I3 166 19 = nI l := by rw [f3.2 19 (by omega) (by omega)]; exact i19
    have f4 : F7 I3 (m_up I3 166 20 (nI q.1)) := F7_up (by omega)
    have rd4 : RD (m_up I3 166 20 (nI q.1)) q.2.1 q.2.2 := ⟨by rw [m_up_ne (by omega)]; exact rd3.1, by rw [m_up_ne (by omega)]; exact rd3.2⟩
    have f24 : F7 I (m_up I3 166 20 (nI q.1)) := F7_trans f2 (F7_trans (F2_7 f3) f4)
    by_cases c9 : l = 109
    · rw [if_pos c9, if_pos c9] at hQ
      subst c9
      have P4 := PM_7 P2 (F7_trans (F2_7 f3) f4)
      have kt : ∀ (Q : mP), _ → _ := fun Q hQ => r_takes (d := d - 1) (F := F) (n := n) (Q := Q) (x := 45) hl P4 h80 hp rd4 nb.1 nb.2.1 (by omega) (by omega) hQ
      simp (disch := omega) only [e157_175, e157_178, e157_178N, e157_179, e157_182, e157_184, e157_187, e157_187N, e157_188, e157_190, true_or, m_psh_s, m_psh_n, m_kl_i, m_kl_f, m_kl_r, m_kl_n, m_kl_j, m_kl_l, m_kl_d, c_i, c_f, c_r, c_n, List.length_nil, List.length_cons, true_and, and_true, Nat.reduceAdd, Nat.reduceLeDiff, Nat.reduceSub, Nat.reduceEqDiff, Nat.reduceLT, ge_iff_le, gt_iff_lt, n_lit, m_in, m_nar0, m_nar1, and_self, not_false_eq_true, not_true_eq_false, ne_eq, reduceIte, ite_self, Nat.reduceMul, Nat.reduceDiv, Nat.reduceMod, Nat.reducePow, Nat.zero_add, Nat.add_zero, Nat.one_mul, Nat.mul_one, n_in, n_min, n_clamp, n_eq_t, n_eq_f, n_eq, n_le_t, n_le_f, n_le, n_lt_t, n_lt_f, n_lt, n_sub0, n_sublt, n_suble, n_negsub, m_up_hit, m_up_miss, m_row_hit, m_row_miss, n_eqm, n_meq, n_meqm, n_ltm, n_lem, n_mlt, n_mle, n_sub, n_div, n_and1, n_shl, n_shr, n_inc, n_mul, n_rem, z_lt, z_le, z_nlt, z_nle, Nat.not_lt_zero, Nat.le_zero_eq, Nat.zero_le, if_true, if_false, m0, i19']
      apply kt
      intro I5 f5 rd5
      have P5 := PM_7 P4 (F2_7 f5)
      by_cases c : q.2.2 = 0 ∧ q.2.1 < pl ∧ pc q.2.1 = 45
      · rw [if_pos c, if_pos c] at hQ rd5
        have kn2 : ∀ (Q : mP), _ → _ := fun Q hQ => r_number (d := d - 1) (F := F) (n := n) (Q := Q) hl P5 h80 hp rd5 (by have := c.2.1; omega) (by omega) (by omega) hQ
        simp (disch := omega) only [e157_193, e157_193N, e157_194, e157_194N, e157_195, true_or, m_psh_s, m_psh_n, m_kl_i, m_kl_f, m_kl_r, m_kl_n, m_kl_j, m_kl_l, m_kl_d, c_i, c_f, c_r, c_n, List.length_nil, List.length_cons, true_and, and_true, Nat.reduceAdd, Nat.reduceLeDiff, Nat.reduceSub, Nat.reduceEqDiff, Nat.reduceLT, ge_iff_le, gt_iff_lt, n_lit, m_in, m_nar0, m_nar1, and_self, not_false_eq_true, not_true_eq_false, ne_eq, reduceIte, ite_self, Nat.reduceMul, Nat.reduceDiv, Nat.reduceMod, Nat.reducePow, Nat.zero_add, Nat.add_zero, Nat.one_mul, Nat.mul_one, n_in, n_min, n_clamp, n_eq_t, n_eq_f, n_eq, n_le_t, n_le_f, n_le, n_lt_t, n_lt_f, n_lt, n_sub0, n_sublt, n_suble, n_negsub, m_up_hit, m_up_miss, m_row_hit, m_row_miss, n_eqm, n_meq, n_meqm, n_ltm, n_lem, n_mlt, n_mle, n_sub, n_div, n_and1, n_shl, n_shr, n_inc, n_mul, n_rem, z_lt, z_le, z_nlt, z_nle, Nat.not_lt_zero, Nat.le_zero_eq, Nat.zero_le, if_true, if_false, m0]
        apply kn2
        intro I6 f6 rd6
        have key := hQ (m_up I6 166 21 (nI (q_nb pl pc (q.2.1 + 1) 0).1)) (F7_trans f24 (F7_trans (F2_7 f5) (F7_trans (F2_7 f6) (F7_up (by omega))))) ⟨by rw [m_up_ne (by omega)]; exact rd6.1, by rw [m_up_ne (by omega)]; exact rd6.2⟩ (by rw [m_up_ne (by omega), f6.2 19 (by omega) (by omega), f5.2 19 (by omega) (by omega), m_up_ne (by omega)]; exact i19') (by rw [m_up_ne (by omega), f6.2 20 (by omega) (by omega), f5.2 20 (by omega) (by omega), m_up_at]) (fun _ _ => m_up_at)
        simp (disch := omega) only [e157_198, e157_201, true_or, m_psh_s, m_psh_n, m_kl_i, m_kl_f, m_kl_r, m_kl_n, m_kl_j, m_kl_l, m_kl_d, c_i, c_f, c_r, c_n, List.length_nil, List.length_cons, true_and, and_true, Nat.reduceAdd, Nat.reduceLeDiff, Nat.reduceSub, Nat.reduceEqDiff, Nat.reduceLT, ge_iff_le, gt_iff_lt, n_lit, m_in, m_nar0, m_nar1, and_self, not_false_eq_true, not_true_eq_false, ne_eq, reduceIte, ite_self, Nat.reduceMul, Nat.reduceDiv, Nat.reduceMod, Nat.reducePow, Nat.zero_add, Nat.add_zero, Nat.one_mul, Nat.mul_one, n_in, n_min, n_clamp, n_eq_t, n_eq_f, n_eq, n_le_t, n_le_f, n_le, n_lt_t, n_lt_f, n_lt, n_sub0, n_sublt, n_suble, n_negsub, m_up_hit, m_up_miss, m_row_hit, m_row_miss, n_eqm, n_meq, n_meqm, n_ltm, n_lem, n_mlt, n_mle, n_sub, n_div, n_and1, n_shl, n_shr, n_inc, n_mul, n_rem, z_lt, z_le, z_nlt, z_nle, Nat.not_lt_zero, Nat.le_zero_eq, Nat.zero_le, if_true, if_false, m0]
        exact key
      · rw [if_neg c, if_neg c] at hQ rd5
        have kn2 : ∀ (Q : mP), _ → _ := fun Q hQ => r_number (d := d - 1) (F := F) (n := n) (Q := Q) hl P5 h80 hp rd5 nb.1 (by omega) (by omega) hQ
        have en : q_nb pl pc q.2.1 1 = (0, q.2.1, 1) := by unfold q_nb; rw [if_neg (by decide)]
        rw [en] at kn2
        simp (disch := omega) only [e157_193, e157_193N, e157_194, e157_194N, e157_195, true_or, m_psh_s, m_psh_n, m_kl_i, m_kl_f, m_kl_r, m_kl_n, m_kl_j, m_kl_l, m_kl_d, c_i, c_f, c_r, c_n, List.length_nil, List.length_cons, true_and, and_true, Nat.reduceAdd, Nat.reduceLeDiff, Nat.reduceSub, Nat.reduceEqDiff, Nat.reduceLT, ge_iff_le, gt_iff_lt, n_lit, m_in, m_nar0, m_nar1, and_self, not_false_eq_true, not_true_eq_false, ne_eq, reduceIte, ite_self, Nat.reduceMul, Nat.reduceDiv, Nat.reduceMod, Nat.reducePow, Nat.zero_add, Nat.add_zero, Nat.one_mul, Nat.mul_one, n_in, n_min, n_clamp, n_eq_t, n_eq_f, n_eq, n_le_t, n_le_f, n_le, n_lt_t, n_lt_f, n_lt, n_sub0, n_sublt, n_suble, n_negsub, m_up_hit, m_up_miss, m_row_hit, m_row_miss, n_eqm, n_meq, n_meqm, n_ltm, n_lem, n_mlt, n_mle, n_sub, n_div, n_and1, n_shl, n_shr, n_inc, n_mul, n_rem, z_lt, z_le, z_nlt, z_nle, Nat.not_lt_zero, Nat.le_zero_eq, Nat.zero_le, if_true, if_false, m0]
        apply kn2
        intro I6 f6 rd6
        have key := hQ (m_up I6 166 21 (nI 0)) (F7_trans f24 (F7_trans (F2_7 f5) (F7_trans (F2_7 f6) (F7_up (by omega))))) ⟨by rw [m_up_ne (by omega)]; exact rd6.1, by rw [m_up_ne (by omega)]; exact rd6.2⟩ (by rw [m_up_ne (by omega), f6.2 19 (by omega) (by omega), f5.2 19 (by omega) (by omega), m_up_ne (by omega)]; exact i19') (by rw [m_up_ne (by omega), f6.2 20 (by omega) (by omega), f5.2 20 (by omega) (by omega), m_up_at]) (fun _ z => absurd z c)
        simp (disch := omega) only [e157_198, e157_201, true_or, m_psh_s, m_psh_n, m_kl_i, m_kl_f, m_kl_r, m_kl_n, m_kl_j, m_kl_l, m_kl_d, c_i, c_f, c_r, c_n, List.length_nil, List.length_cons, true_and, and_true, Nat.reduceAdd, Nat.reduceLeDiff, Nat.reduceSub, Nat.reduceEqDiff, Nat.reduceLT, ge_iff_le, gt_iff_lt, n_lit, m_in, m_nar0, m_nar1, and_self, not_false_eq_true, not_true_eq_false, ne_eq, reduceIte, ite_self, Nat.reduceMul, Nat.reduceDiv, Nat.reduceMod, Nat.reducePow, Nat.zero_add, Nat.add_zero, Nat.one_mul, Nat.mul_one, n_in, n_min, n_clamp, n_eq_t, n_eq_f, n_eq, n_le_t, n_le_f, n_le, n_lt_t, n_lt_f, n_lt, n_sub0, n_sublt, n_suble, n_negsub, m_up_hit, m_up_miss, m_row_hit, m_row_miss, n_eqm, n_meq, n_meqm, n_ltm, n_lem, n_mlt, n_mle, n_sub, n_div, n_and1, n_shl, n_shr, n_inc, n_mul, n_rem, z_lt, z_le, z_nlt, z_nle, Nat.not_lt_zero, Nat.le_zero_eq, Nat.zero_le, if_true, if_false, m0]
        exact key
    · rw [if_neg c9, if_neg c9] at hQ
      have key := hQ _ f24 rd4 (by rw [m_up_ne (by omega)]; exact i19') m_up_at (fun e => absurd e c9)
      simp (disch := omega) only [e157_175, e157_178, e157_178N, e157_179, e157_182, e157_184, e157_201, true_or, m_psh_s, m_psh_n, m_kl_i, m_kl_f, m_kl_r, m_kl_n, m_kl_j, m_kl_l, m_kl_d, c_i, c_f, c_r, c_n, List.length_nil, List.length_cons, true_and, and_true, Nat.reduceAdd, Nat.reduceLeDiff, Nat.reduceSub, Nat.reduceEqDiff, Nat.reduceLT, ge_iff_le, gt_iff_lt, n_lit, m_in, m_nar0, m_nar1, and_self, not_false_eq_true, not_true_eq_false, ne_eq, reduceIte, ite_self, Nat.reduceMul, Nat.reduceDiv, Nat.reduceMod, Nat.reducePow, Nat.zero_add, Nat.add_zero, Nat.one_mul, Nat.mul_one, n_in, n_min, n_clamp, n_eq_t, n_eq_f, n_eq, n_le_t, n_le_f, n_le, n_lt_t, n_lt_f, n_lt, n_sub0, n_sublt, n_suble, n_negsub, m_up_hit, m_up_miss, m_row_hit, m_row_miss, n_eqm, n_meq, n_meqm, n_ltm, n_lem, n_mlt, n_mle, n_sub, n_div, n_and1, n_shl, n_shr, n_inc, n_mul, n_rem, z_lt, z_le, z_nlt, z_nle, Nat.not_lt_zero, Nat.le_zero_eq, Nat.zero_le, if_true, if_false, m0, i19']
      exact key
  have bad : ∀ (l : Nat) (ft : Nat) (I2 : mI), l < 256 → ft = 1 → l ≠ 98 → l ≠ 109 → l ≠ 110 → q_od pl pc s = .inl s → F7 I I2 → RD I2 s ft → I2 166 19 = nI l → Ev lay d 157 161 [.ref 166] [] I2 F R n Q := by
    intro l ft I2 h1 h2 h3 h4 h5 h6 f2 rd2 i19
    subst h2
    rw [h6] at hQ
    refine two l s 1 I2 h1 (Or.inr (Or.inr (Or.inr rfl))) (by omega) h3 h5 hs f2 rd2 i19 fun I' a1 a2 a3 a4 a5 => ?_
    have en : q_nb pl pc s 1 = (0, s, 1) := by unfold q_nb; rw [if_neg (by decide)]
    rw [if_neg h4, if_neg h4, en] at a2
    exact hQ I' a1 a2
  by_cases c : s < pl
  · have p := p2 s c
    have px := hp s c
    by_cases c1 : pc s = 110
    · have eo : q_od pl pc s = .inr (110, 0, 0, 0, 0, s + 1) := by unfold q_od; rw [if_pos c, if_pos c1]
      rw [eo] at hQ
      obtain ⟨a1, a2, a3, a4, a5⟩ := st 110 (s + 1) 0
      have key := hQ _ a1 ⟨a2, a3, fun _ h => absurd rfl h, fun h => by omega, fun h => by omega⟩
      rw [c1] at p
      simp (disch := omega) only [e157_0, e157_0N, e157_1, e157_1N, e157_2, e157_5, e157_5N, e157_6, e157_9, e157_12, e157_12N, e157_13, e157_16, e157_16N, e157_17, e157_20, e157_21, e157_24, e157_25, e157_28, e157_28N, e157_29, e157_29N, e157_30, e157_33, e157_36, e157_36N, e157_37, e157_40, e157_42, e157_45, e157_45N, e157_46, e157_49, e157_51, e157_54, e157_54N, e157_55, e157_58, e157_60, e157_63, e157_63N, e157_64, e157_67, e157_69, e157_72, e157_72N, e157_73, e157_76, e157_78, e157_81, e157_82, e157_85, e157_86, e157_89, e157_89N, e157_90, e157_91, e157_94, e157_94N, e157_95, e157_98, e157_101, e157_102, e157_105, e157_106, e157_107, e157_110, e157_110N, e157_111, e157_112, e157_115, e157_115N, e157_116, e157_117, e157_120, e157_120N, e157_121, e157_124, e157_126, e157_129, e157_129N, e157_161, e157_161N, e157_162, e157_165, e157_167, e157_201, true_or, m_psh_s, m_psh_n, m_kl_i, m_kl_f, m_kl_r, m_kl_n, m_kl_j, m_kl_l, m_kl_d, c_i, c_f, c_r, c_n, List.length_nil, List.length_cons, true_and, and_true, Nat.reduceAdd, Nat.reduceLeDiff, Nat.reduceSub, Nat.reduceEqDiff, Nat.reduceLT, ge_iff_le, gt_iff_lt, n_lit, m_in, m_nar0, m_nar1, and_self, not_false_eq_true, not_true_eq_false, ne_eq, reduceIte, ite_self, Nat.reduceMul, Nat.reduceDiv, Nat.reduceMod, Nat.reducePow, Nat.zero_add, Nat.add_zero, Nat.one_mul, Nat.mul_one, n_in, n_min, n_clamp, n_eq_t, n_eq_f, n_eq, n_le_t, n_le_f, n_le, n_lt_t, n_lt_f, n_lt, n_sub0, n_sublt, n_suble, n_negsub, m_up_hit, m_up_miss, m_row_hit, m_row_miss, n_eqm, n_meq, n_meqm, n_ltm, n_lem, n_mlt, n_mle, n_sub, n_div, n_and1, n_shl, n_shr, n_inc, n_mul, n_rem, z_lt, z_le, z_nlt, z_nle, Nat.not_lt_zero, Nat.le_zero_eq, Nat.zero_le, if_true, if_false, m0, m9, r10, p, p1, r1, r2, true_or, or_true]
      exact key
    · by_cases c2 : pc s = 98
      · obtain ⟨a1, a2, a3, a4, a5⟩ := st 98 (s + 1) 0
        have P2 := PM_7 ⟨p1, p2⟩ a1
        have kg : ∀ (Q : mP), _ → _ := fun Q hQ => r_readGood (d := d - 1) (F := F) (n := n) (Q := Q) (t := 0) (w := 0) hl P2 h80 hp a2 (show s + 1 ≤ pl from c) (by omega) a4 a5 (by omega) (by omega) (by omega) hQ
        rw [c2] at p
        simp (disch := omega) only [e157_0, e157_0N, e157_1, e157_1N, e157_2, e157_5, e157_5N, e157_6, e157_9, e157_12, e157_12N, e157_13, e157_16, e157_16N, e157_17, e157_20, e157_21, e157_24, e157_25, e157_28, e157_28N, e157_29, e157_29N, e157_30, e157_33, e157_36, e157_36N, e157_37, e157_40, e157_42, e157_45, e157_45N, e157_46, e157_49, e157_51, e157_54, e157_54N, e157_55, e157_58, e157_60, e157_63, e157_63N, e157_64, e157_67, e157_69, e157_72, e157_72N, e157_73, e157_76, e157_78, e157_81, e157_82, e157_85, e157_86, e157_89, e157_89N, e157_90, e157_91, e157_94, e157_94N, e157_95, e157_98, e157_101, e157_102, e157_105, e157_106, e157_107, e157_110, e157_110N, e157_111, e157_112, e157_115, e157_115N, e157_116, e157_117, e157_120, e157_120N, e157_121, e157_124, e157_126, e157_129, e157_129N, e157_130, true_or, m_psh_s, m_psh_n, m_kl_i, m_kl_f, m_kl_r, m_kl_n, m_kl_j, m_kl_l, m_kl_d, c_i, c_f, c_r, c_n, List.length_nil, List.length_cons, true_and, and_true, Nat.reduceAdd, Nat.reduceLeDiff, Nat.reduceSub, Nat.reduceEqDiff, Nat.reduceLT, ge_iff_le, gt_iff_lt, n_lit, m_in, m_nar0, m_nar1, and_self, not_false_eq_true, not_true_eq_false, ne_eq, reduceIte, ite_self, Nat.reduceMul, Nat.reduceDiv, Nat.reduceMod, Nat.reducePow, Nat.zero_add, Nat.add_zero, Nat.one_mul, Nat.mul_one, n_in, n_min, n_clamp, n_eq_t, n_eq_f, n_eq, n_le_t, n_le_f, n_le, n_lt_t, n_lt_f, n_lt, n_sub0, n_sublt, n_suble, n_negsub, m_up_hit, m_up_miss, m_row_hit, m_row_miss, n_eqm, n_meq, n_meqm, n_ltm, n_lem, n_mlt, n_mle, n_sub, n_div, n_and1, n_shl, n_shr, n_inc, n_mul, n_rem, z_lt, z_le, z_nlt, z_nle, Nat.not_lt_zero, Nat.le_zero_eq, Nat.zero_le, if_true, if_false, m0, m9, r10, p, p1, r1, r2, true_or, or_true]
        apply kg
        intro I3 f3 g3 rd3 j22 j23
        refine r_bask0 (lay := lay) (d := d) (n := n) (F := F) (R := R) (Q := Q) (pl := pl) (pc := pc) hl h80 hp hd 81 (s + 1) 0 0 0 _ P2 a2 c (by omega) (by omega) (by omega) a4 a5 (by omega) (Or.inl rfl) (fun I' b1 b2 b3 b4 => hQ I' (F7_trans a1 b1) ?_) I3 f3 g3 rd3 j22 j23
        have b3 := b3 rfl
        have eo : q_od pl pc s = match q_bk pl pc 81 (s + 1) 0 0 with
          | .inl p => .inl p
          | .inr (t, w, s1) => .inr (98, 0, 0, t, w, s1) := by
          unfold q_od
          rw [if_pos c, if_neg c1, if_pos c2]
          rfl
        rw [eo]
        cases e : q_bk pl pc 81 (s + 1) 0 0 with
        | inl q => rw [e] at b3; exact b3
        | inr x =>
          obtain ⟨t', w', s1⟩ := x
          rw [e] at b3
          exact ⟨b3.1, by rw [b2 19 (by omega) (by omega) (by omega)]; exact a3, fun h _ => absurd rfl h, fun h => by omega, fun _ => b3.2⟩
      · by_cases c3 : pc s = 109
        · obtain ⟨a1, a2, a3, a4, a5⟩ := st 109 (s + 1) 0
          have key := two 109 (s + 1) 0 _ (by omega) (Or.inl rfl) (by omega) (by omega) (by omega) c a1 a2 a3 (fun I' b1 b2 b3 b4 b5 => hQ I' b1 (by
            rw [if_pos rfl, if_pos rfl] at b2
            have b5 := b5 rfl
            have eo : q_od pl pc s = match q_nm pl pc (s + 1) with
              | .inl p => .inl p
              | .inr (v, s1) => if s1 < pl ∧ pc s1 = 45 then (match q_nm pl pc (s1 + 1) with
                | .inl p => .inl p
                | .inr (v2, s2) => .inr (109, v, v2, 0, 0, s2)) else .inl s1 := by
              unfold q_od
              rw [if_pos c, if_neg c1, if_neg c2, if_pos c3]
              rfl
            have inl_s : ∀ i q, q_nm pl pc i = .inl q → q = i := fun i q e => by
              unfold q_nm at e
              split at e
              · split at e
                · cases e
                · split at e <;> cases e
              · cases e; rfl
            rw [eo]
            cases e : q_nm pl pc (s + 1) with
            | inl q =>
              have en : q_nb pl pc (s + 1) 0 = (0, s + 1, 1) := by unfold q_nb; rw [if_pos rfl, e]
              rw [en, if_neg (fun z => absurd z.1 (show ¬ (1 : Nat) = 0 by decide)), if_neg (fun z => absurd z.1 (show ¬ (1 : Nat) = 0 by decide))] at b2
              dsimp only
              rw [inl_s _ _ e]
              exact b2
            | inr x =>
              obtain ⟨v, s1⟩ := x
              have en : q_nb pl pc (s + 1) 0 = (v, s1, 0) := by unfold q_nb; rw [if_pos rfl, e]
              rw [en] at b2 b4 b5
              dsimp only at b2 b4 b5 ⊢
              by_cases d1 : s1 < pl ∧ pc s1 = 45
              · rw [if_pos d1]
                rw [if_pos ⟨rfl, d1⟩, if_pos ⟨rfl, d1⟩] at b2
                have b5 := b5 ⟨rfl, d1⟩
                cases e2 : q_nm pl pc (s1 + 1) with
                | inl q =>
                  have en2 : q_nb pl pc (s1 + 1) 0 = (0, s1 + 1, 1) := by unfold q_nb; rw [if_pos rfl, e2]
                  rw [en2] at b2
                  dsimp only
                  rw [inl_s _ _ e2]
                  exact b2
                | inr y =>
                  obtain ⟨v2, s2⟩ := y
                  have en2 : q_nb pl pc (s1 + 1) 0 = (v2, s2, 0) := by unfold q_nb; rw [if_pos rfl, e2]
                  rw [en2] at b2 b5
                  exact ⟨b2, b3, fun _ _ => b4, fun _ => b5, fun h => by omega⟩
              · rw [if_neg d1]
                rw [if_neg (fun z => d1 z.2), if_neg (fun z => d1 z.2)] at b2
                exact b2))
          rw [c3] at p
          simp (disch := omega) only [e157_0, e157_0N, e157_1, e157_1N, e157_2, e157_5, e157_5N, e157_6, e157_9, e157_12, e157_12N, e157_13, e157_16, e157_16N, e157_17, e157_20, e157_21, e157_24, e157_25, e157_28, e157_28N, e157_29, e157_29N, e157_30, e157_33, e157_36, e157_36N, e157_37, e157_40, e157_42, e157_45, e157_45N, e157_46, e157_49, e157_51, e157_54, e157_54N, e157_55, e157_58, e157_60, e157_63, e157_63N, e157_64, e157_67, e157_69, e157_72, e157_72N, e157_73, e157_76, e157_78, e157_81, e157_82, e157_85, e157_86, e157_89, e157_89N, e157_90, e157_91, e157_94, e157_94N, e157_95, e157_98, e157_101, e157_102, e157_105, e157_106, e157_107, e157_110, e157_110N, e157_111, e157_112, e157_115, e157_115N, e157_116, e157_117, e157_120, e157_120N, e157_121, e157_124, e157_126, e157_129, e157_129N, true_or, m_psh_s, m_psh_n, m_kl_i, m_kl_f, m_kl_r, m_kl_n, m_kl_j, m_kl_l, m_kl_d, c_i, c_f, c_r, c_n, List.length_nil, List.length_cons, true_and, and_true, Nat.reduceAdd, Nat.reduceLeDiff, Nat.reduceSub, Nat.reduceEqDiff, Nat.reduceLT, ge_iff_le, gt_iff_lt, n_lit, m_in, m_nar0, m_nar1, and_self, not_false_eq_true, not_true_eq_false, ne_eq, reduceIte, ite_self, Nat.reduceMul, Nat.reduceDiv, Nat.reduceMod, Nat.reducePow, Nat.zero_add, Nat.add_zero, Nat.one_mul, Nat.mul_one, n_in, n_min, n_clamp, n_eq_t, n_eq_f, n_eq, n_le_t, n_le_f, n_le, n_lt_t, n_lt_f, n_lt, n_sub0, n_sublt, n_suble, n_negsub, m_up_hit, m_up_miss, m_row_hit, m_row_miss, n_eqm, n_meq, n_meqm, n_ltm, n_lem, n_mlt, n_mle, n_sub, n_div, n_and1, n_shl, n_shr, n_inc, n_mul, n_rem, z_lt, z_le, z_nlt, z_nle, Nat.not_lt_zero, Nat.le_zero_eq, Nat.zero_le, if_true, if_false, m0, m9, r10, p, p1, r1, r2, true_or, or_true]
          exact key
        · by_cases c4 : pc s = 103 ∨ pc s = 120
          · obtain ⟨a1, a2, a3, a4, a5⟩ := st (pc s) (s + 1) 0
            have key := two (pc s) (s + 1) 0 _ (by omega) (by omega) (by omega) c2 c1 c a1 a2 a3 (fun I' b1 b2 b3 b4 b5 => hQ I' b1 (by
              rw [if_neg c3, if_neg c3] at b2
              have eo : q_od pl pc s = match q_nm pl pc (s + 1) with
                | .inl p => .inl p
                | .inr (v, s1) => .inr (pc s, v, 0, 0, 0, s1) := by
                unfold q_od
                rw [if_pos c, if_neg c1, if_neg c2, if_neg c3, if_pos c4]
                rfl
              rw [eo]
              cases e : q_nm pl pc (s + 1) with
              | inl q =>
                have en : q_nb pl pc (s + 1) 0 = (0, s + 1, 1) := by unfold q_nb; rw [if_pos rfl, e]
                have eq : q = s + 1 := by
                  unfold q_nm at e
                  split at e
                  · split at e
                    · cases e
                    · split at e <;> cases e
                  · cases e; rfl
                rw [en] at b2
                dsimp only
                rw [eq]
                exact b2
              | inr x =>
                obtain ⟨v, s1⟩ := x
                have en : q_nb pl pc (s + 1) 0 = (v, s1, 0) := by unfold q_nb; rw [if_pos rfl, e]
                rw [en] at b2 b4
                exact ⟨b2, b3, fun _ _ => b4, fun h => absurd h c3, fun h => absurd h c2⟩))
            rcases c4 with c4 | c4
            · rw [c4] at p key
              simp (disch := omega) only [e157_0, e157_0N, e157_1, e157_1N, e157_2, e157_5, e157_5N, e157_6, e157_9, e157_12, e157_12N, e157_13, e157_16, e157_16N, e157_17, e157_20, e157_21, e157_24, e157_25, e157_28, e157_28N, e157_29, e157_29N, e157_30, e157_33, e157_36, e157_36N, e157_37, e157_40, e157_42, e157_45, e157_45N, e157_46, e157_49, e157_51, e157_54, e157_54N, e157_55, e157_58, e157_60, e157_63, e157_63N, e157_64, e157_67, e157_69, e157_72, e157_72N, e157_73, e157_76, e157_78, e157_81, e157_82, e157_85, e157_86, e157_89, e157_89N, e157_90, e157_91, e157_94, e157_94N, e157_95, e157_98, e157_101, e157_102, e157_105, e157_106, e157_107, e157_110, e157_110N, e157_111, e157_112, e157_115, e157_115N, e157_116, e157_117, e157_120, e157_120N, e157_121, e157_124, e157_126, e157_129, e157_129N, true_or, m_psh_s, m_psh_n, m_kl_i, m_kl_f, m_kl_r, m_kl_n, m_kl_j, m_kl_l, m_kl_d, c_i, c_f, c_r, c_n, List.length_nil, List.length_cons, true_and, and_true, Nat.reduceAdd, Nat.reduceLeDiff, Nat.reduceSub, Nat.reduceEqDiff, Nat.reduceLT, ge_iff_le, gt_iff_lt, n_lit, m_in, m_nar0, m_nar1, and_self, not_false_eq_true, not_true_eq_false, ne_eq, reduceIte, ite_self, Nat.reduceMul, Nat.reduceDiv, Nat.reduceMod, Nat.reducePow, Nat.zero_add, Nat.add_zero, Nat.one_mul, Nat.mul_one, n_in, n_min, n_clamp, n_eq_t, n_eq_f, n_eq, n_le_t, n_le_f, n_le, n_lt_t, n_lt_f, n_lt, n_sub0, n_sublt, n_suble, n_negsub, m_up_hit, m_up_miss, m_row_hit, m_row_miss, n_eqm, n_meq, n_meqm, n_ltm, n_lem, n_mlt, n_mle, n_sub, n_div, n_and1, n_shl, n_shr, n_inc, n_mul, n_rem, z_lt, z_le, z_nlt, z_nle, Nat.not_lt_zero, Nat.le_zero_eq, Nat.zero_le, if_true, if_false, m0, m9, r10, p, p1, r1, r2, true_or, or_true]
              exact key
            · rw [c4] at p key
              simp (disch := omega) only [e157_0, e157_0N, e157_1, e157_1N, e157_2, e157_5, e157_5N, e157_6, e157_9, e157_12, e157_12N, e157_13, e157_16, e157_16N, e157_17, e157_20, e157_21, e157_24, e157_25, e157_28, e157_28N, e157_29, e157_29N, e157_30, e157_33, e157_36, e157_36N, e157_37, e157_40, e157_42, e157_45, e157_45N, e157_46, e157_49, e157_51, e157_54, e157_54N, e157_55, e157_58, e157_60, e157_63, e157_63N, e157_64, e157_67, e157_69, e157_72, e157_72N, e157_73, e157_76, e157_78, e157_81, e157_82, e157_85, e157_86, e157_89, e157_89N, e157_90, e157_91, e157_94, e157_94N, e157_95, e157_98, e157_101, e157_102, e157_105, e157_106, e157_107, e157_110, e157_110N, e157_111, e157_112, e157_115, e157_115N, e157_116, e157_117, e157_120, e157_120N, e157_121, e157_124, e157_126, e157_129, e157_129N, true_or, m_psh_s, m_psh_n, m_kl_i, m_kl_f, m_kl_r, m_kl_n, m_kl_j, m_kl_l, m_kl_d, c_i, c_f, c_r, c_n, List.length_nil, List.length_cons, true_and, and_true, Nat.reduceAdd, Nat.reduceLeDiff, Nat.reduceSub, Nat.reduceEqDiff, Nat.reduceLT, ge_iff_le, gt_iff_lt, n_lit, m_in, m_nar0, m_nar1, and_self, not_false_eq_true, not_true_eq_false, ne_eq, reduceIte, ite_self, Nat.reduceMul, Nat.reduceDiv, Nat.reduceMod, Nat.reducePow, Nat.zero_add, Nat.add_zero, Nat.one_mul, Nat.mul_one, n_in, n_min, n_clamp, n_eq_t, n_eq_f, n_eq, n_le_t, n_le_f, n_le, n_lt_t, n_lt_f, n_lt, n_sub0, n_sublt, n_suble, n_negsub, m_up_hit, m_up_miss, m_row_hit, m_row_miss, n_eqm, n_meq, n_meqm, n_ltm, n_lem, n_mlt, n_mle, n_sub, n_div, n_and1, n_shl, n_shr, n_inc, n_mul, n_rem, z_lt, z_le, z_nlt, z_nle, Nat.not_lt_zero, Nat.le_zero_eq, Nat.zero_le, if_true, if_false, m0, m9, r10, p, p1, r1, r2, true_or, or_true]
              exact key
          · obtain ⟨a1, a2, a3, a4, a5⟩ := st (pc s) s 1
            have eo : q_od pl pc s = .inl s := by
              unfold q_od
              rw [if_pos c, if_neg c1, if_neg c2, if_neg c3, if_neg c4]
            have key := bad (pc s) 1 _ (by omega) rfl c2 c3 c1 eo a1 a2 a3
            have n1 : (nI (pc s) = nI 103) = False := eq_false (fun z => c4 (Or.inl ((n_eq (by omega) (by omega)).mp z)))
            have n2 : (nI (pc s) = nI 120) = False := eq_false (fun z => c4 (Or.inr ((n_eq (by omega) (by omega)).mp z)))
            simp (disch := omega) only [e157_0, e157_0N, e157_1, e157_1N, e157_2, e157_5, e157_5N, e157_6, e157_9, e157_12, e157_12N, e157_13, e157_16, e157_16N, e157_17, e157_20, e157_21, e157_24, e157_25, e157_28, e157_28N, e157_29, e157_29N, e157_30, e157_33, e157_36, e157_36N, e157_37, e157_40, e157_42, e157_45, e157_45N, e157_46, e157_49, e157_51, e157_54, e157_54N, e157_55, e157_58, e157_60, e157_63, e157_63N, e157_64, e157_67, e157_69, e157_72, e157_72N, e157_73, e157_76, e157_78, e157_81, e157_82, e157_85, e157_86, e157_89, e157_89N, e157_90, e157_91, e157_94, e157_94N, e157_95, e157_98, e157_101, e157_102, e157_105, e157_106, e157_107, e157_110, e157_110N, e157_111, e157_112, e157_115, e157_115N, e157_116, e157_117, e157_120, e157_120N, e157_121, e157_124, e157_126, e157_129, e157_129N, true_or, m_psh_s, m_psh_n, m_kl_i, m_kl_f, m_kl_r, m_kl_n, m_kl_j, m_kl_l, m_kl_d, c_i, c_f, c_r, c_n, List.length_nil, List.length_cons, true_and, and_true, Nat.reduceAdd, Nat.reduceLeDiff, Nat.reduceSub, Nat.reduceEqDiff, Nat.reduceLT, ge_iff_le, gt_iff_lt, n_lit, m_in, m_nar0, m_nar1, and_self, not_false_eq_true, not_true_eq_false, ne_eq, reduceIte, ite_self, Nat.reduceMul, Nat.reduceDiv, Nat.reduceMod, Nat.reducePow, Nat.zero_add, Nat.add_zero, Nat.one_mul, Nat.mul_one, n_in, n_min, n_clamp, n_eq_t, n_eq_f, n_eq, n_le_t, n_le_f, n_le, n_lt_t, n_lt_f, n_lt, n_sub0, n_sublt, n_suble, n_negsub, m_up_hit, m_up_miss, m_row_hit, m_row_miss, n_eqm, n_meq, n_meqm, n_ltm, n_lem, n_mlt, n_mle, n_sub, n_div, n_and1, n_shl, n_shr, n_inc, n_mul, n_rem, z_lt, z_le, z_nlt, z_nle, Nat.not_lt_zero, Nat.le_zero_eq, Nat.zero_le, if_true, if_false, m0, m9, r10, p, p1, r1, r2, n1, n2, true_or, or_true]
            exact key
  · obtain ⟨a1, a2, a3, a4, a5⟩ := st 0 s 1
    have eo : q_od pl pc s = .inl s := by
      unfold q_od
      rw [if_neg c]
    have key := bad 0 1 _ (by omega) rfl (by omega) (by omega) (by omega) eo a1 a2 a3
    simp (disch := omega) only [e157_0, e157_0N, e157_1, e157_1N, e157_2, e157_5, e157_5N, e157_6, e157_9, e157_12, e157_12N, e157_13, e157_16, e157_16N, e157_17, e157_20, e157_21, e157_24, e157_25, e157_28, e157_28N, e157_29, e157_29N, e157_30, e157_33, e157_36, e157_36N, e157_37, e157_40, e157_42, e157_45, e157_45N, e157_46, e157_49, e157_51, e157_54, e157_54N, e157_55, e157_58, e157_60, e157_63, e157_63N, e157_64, e157_67, e157_69, e157_72, e157_72N, e157_73, e157_76, e157_78, e157_81, e157_82, e157_85, e157_86, e157_89, e157_89N, e157_90, e157_91, e157_94, e157_94N, e157_95, e157_98, e157_101, e157_102, e157_105, e157_106, e157_107, e157_110, e157_110N, e157_111, e157_112, e157_115, e157_115N, e157_116, e157_117, e157_120, e157_120N, e157_121, e157_124, e157_126, e157_129, e157_129N, true_or, m_psh_s, m_psh_n, m_kl_i, m_kl_f, m_kl_r, m_kl_n, m_kl_j, m_kl_l, m_kl_d, c_i, c_f, c_r, c_n, List.length_nil, List.length_cons, true_and, and_true, Nat.reduceAdd, Nat.reduceLeDiff, Nat.reduceSub, Nat.reduceEqDiff, Nat.reduceLT, ge_iff_le, gt_iff_lt, n_lit, m_in, m_nar0, m_nar1, and_self, not_false_eq_true, not_true_eq_false, ne_eq, reduceIte, ite_self, Nat.reduceMul, Nat.reduceDiv, Nat.reduceMod, Nat.reducePow, Nat.zero_add, Nat.add_zero, Nat.one_mul, Nat.mul_one, n_in, n_min, n_clamp, n_eq_t, n_eq_f, n_eq, n_le_t, n_le_f, n_le, n_lt_t, n_lt_f, n_lt, n_sub0, n_sublt, n_suble, n_negsub, m_up_hit, m_up_miss, m_row_hit, m_row_miss, n_eqm, n_meq, n_meqm, n_ltm, n_lem, n_mlt, n_mle, n_sub, n_div, n_and1, n_shl, n_shr, n_inc, n_mul, n_rem, z_lt, z_le, z_nlt, z_nle, Nat.not_lt_zero, Nat.le_zero_eq, Nat.zero_le, if_true, if_false, m0, m9, r10, p1, r1, r2, true_or, or_true]
    exact key
end MORDER
