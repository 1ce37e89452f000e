section EXCH
variable {lay : mL} {d a n : Nat} {I : mI} {F : mF} {R : mR} {Q : mP} {S : Nat → Nat} {sp : Nat → UInt32} {hi : List Nat}
theorem CSh_I {I' : mI} {S' : Nat → Nat} (h : CSh lay I F R n a S sp hi) (hc : CC I' a S') (hg : GI I' a S') (he : ∀ p, 180 ≤ p → p < n → I' p = I p) (hk : I' a 10 = I a 10) : CSh lay I' F R n a S' sp hi := by
  obtain ⟨h1, h2, h3, h4, h5, h6⟩ := h
  exact ⟨h1, hc, hg, h4, Cch_off h5 (Nat.le_refl _) (fun p hp hp2 => ⟨he p hp hp2, rfl⟩), by rw [hk]; exact h6⟩
theorem CC_3 {I : mI} {k : Nat} {v : Int32} (h : CC I a S) : CC (m_up I (a + 3) k v) a S := CC_off h fun x k i hx => m_up_miss (by unfold cS at hx; omega)
theorem CC_mv {I : mI} {g : Option Nat} {s : Nat} (h : CC I a S) (hg : ∀ x, g = some x → x < 16) : CC (match g with | none => I | some g => m_up I (a + 2) g (nI s)) a (q_mv S g s) := by
  cases g with
  | none => exact h
  | some g => exact CC_up h (cS_2 (hg g rfl))
/-- what a stand writes -/
def q_std (I : mI) (a : Nat) (g : Option Nat) (s : Nat) : mI := match g with
  | none => m_up I (a + 3) s (-nI 6)
  | some g => m_up (m_up I (a + 3) s (nI g)) (a + 2) g (nI s)
theorem s_std {s : Nat} {g : Option Nat} (h : ISh lay R a) (hs : s < 30) (hg : ∀ x, g = some x → x < 16) : Ev lay d 22 0 [.ref a, .int (q_oI g), .int (nI s)] [] I F R n Q ↔ Q none (q_std I a g s) F R n := by
  cases g with
  | none => exact s_standN h hs
  | some g => exact s_stand h hs (hg g rfl)
theorem q_std_off {g : Option Nat} {s x k : Nat} (h : x ≠ a + 3) (h2 : x ≠ a + 2) : q_std I a g s x k = I x k := by
  cases g with
  | none => exact m_up_miss (by omega)
  | some g => exact (m_up_miss (by omega)).trans (m_up_miss (by omega))
theorem q_std_3 {g : Option Nat} {s k : Nat} : q_std I a g s (a + 3) k = if k = s then q_oI g else I (a + 3) k := by
  have : ∀ v, m_up I (a + 3) s v (a + 3) k = if k = s then v else I (a + 3) k := by
    intro v
    split
    · rename_i e; exact m_up_hit rfl e
    · exact m_up_miss (by omega)
  cases g with
  | none => exact this _
  | some g => exact (m_up_miss (by omega)).trans (this _)
theorem CC_std {g : Option Nat} {s : Nat} (h : CC I a S) (hg : ∀ x, g = some x → x < 16) : CC (q_std I a g s) a (q_mv S g s) := by
  cases g with
  | none => exact CC_3 h
  | some g => exact CC_up (CC_3 h) (cS_2 (hg g rfl))
theorem s_exchange {s o : Nat} (h : CSh lay I F R n a S sp hi) (w : Wsh S) (ha : a + 13 < 180) (hs : s < 30) (ho : o < 30) (hd : 1 ≤ d) (hQ : ∀ I', CSh lay I' F R n a (q_exS S s o) sp hi → Off a (a + 13) I F R I' F R → Q none I' F R n) : Ev lay d 21 0 [.ref a, .int (nI s), .int (nI o), m_j] [] I F R n Q := by
  have hh := h
  obtain ⟨h1, h2, h3, h4, h5, h6⟩ := h
  have hi' := h1
  obtain ⟨hs0, hs1, hs2, hs3, hs4, hs5, hs6, hs7, hs8, hs9, hs10, hs11, hs12, hs13, hs14, hs15, hs16, hs17, hs18, hs19, hs20, hs21, hs22, hs23, hs24, hs25, hs26⟩ := h1
  have k1 := h3 s hs
  have k2 := h3 o ho
  have g1 : ∀ x, q_gi S s = some x → x < 16 := fun x hx => Nat.lt_of_lt_of_le (q_gi_lt hx) w.1
  have g2 : ∀ x, q_gi S o = some x → x < 16 := fun x hx => Nat.lt_of_lt_of_le (q_gi_lt hx) w.1
  change I (a + 3) s = q_oI (q_gi S s) at k1
  change I (a + 3) o = q_oI (q_gi S o) at k2
  simp (disch := omega) only [e21_0, e21_0N, e21_1, e21_4, e21_5, e21_6, e21_7, e21_7N, e21_8, e21_8N, e21_9, e21_12, e21_13, e21_14, e21_15, e21_18, e21_18N, e21_19, e21_20, e21_21, e21_24, true_or, m_psh_s, m_psh_n, m_kl_i, m_kl_f, m_kl_r, m_kl_n, m_kl_j, m_kl_l, m_kl_d, c_i, c_f, c_r, c_n, List.length_nil, List.length_cons, true_and, and_true, Nat.reduceAdd, Nat.reduceLeDiff, Nat.reduceSub, Nat.reduceEqDiff, Nat.reduceLT, ge_iff_le, gt_iff_lt, n_lit, m_in, m_nar0, m_nar1, and_self, not_false_eq_true, not_true_eq_false, ne_eq, reduceIte, ite_self, Nat.reduceMul, Nat.reduceDiv, Nat.reduceMod, Nat.reducePow, Nat.zero_add, Nat.add_zero, Nat.one_mul, Nat.mul_one, n_in, n_min, n_clamp, n_eq_t, n_eq_f, n_eq, n_le_t, n_le_f, n_le, n_lt_t, n_lt_f, n_lt, n_sub0, n_sublt, n_suble, n_negsub, m_up_hit, m_up_miss, m_row_hit, m_row_miss, n_eqm, n_meq, n_meqm, n_ltm, n_lem, n_mlt, n_mle, n_sub, n_div, n_and1, n_shl, n_shr, n_inc, n_mul, n_rem, z_lt, z_le, z_nlt, z_nle, Nat.not_lt_zero, Nat.le_zero_eq, Nat.zero_le, if_true, if_false, hs0, hs1, hs2, hs3, hs4, hs5, hs6, hs7, hs8, hs9, hs10, hs11, hs12, hs13, hs14, hs15, hs16, hs17, hs18, hs19, hs20, hs21, hs22, hs23, hs24, hs25, hs26, k1, k2, s_std hi' hs g2, s_std hi' ho g1]
  refine hQ _ (CSh_I hh ?_ ?_ ?_ ?_) ?_
  · rw [← q_mv_comm]
    exact CC_std (CC_std h2 g2) g1
  · intro x hx
    rw [q_std_3, q_std_3, h3 x hx]
    show _ = q_oI (q_gi (q_exS S s o) x)
    rw [q_gi_ex w]
    unfold q_tau
    repeat' split
    all_goals rfl
  · intro p hp hp2
    funext k
    rw [q_std_off (by omega) (by omega), q_std_off (by omega) (by omega)]
  · rw [q_std_off (by omega) (by omega), q_std_off (by omega) (by omega)]
  · intro x hx
    refine ⟨?_, rfl, rfl⟩
    funext k
    rw [q_std_off (by omega) (by omega), q_std_off (by omega) (by omega)]
def q_ct (S : Nat → Nat) (g : Option Nat) : Nat → Nat := match g with
  | none => S
  | some g => up1 S (7 + 4 * g) (S (7 + 4 * g) + 1)
def q_n1 (g : Option Nat) : Nat := match g with
  | none => 0
  | some _ => 1
/-- a swap that counts: the row behind it -/
def q_swS (S : Nat → Nat) (s o : Nat) : Nat → Nat := q_ct (q_ct (q_exS S s o) (q_gi (q_exS S s o) s)) (q_gi (q_exS S s o) o)
theorem s_count {g : Option Nat} (h : CSh lay I F R n a S sp hi) (ha : a + 13 < 180) (h16 : S 3 ≤ 16) (hg : ∀ x, g = some x → x < S 3) (hQ : ∀ I', CSh lay I' F R n a (q_ct S g) sp hi → Off a (a + 13) I F R I' F R → Q (some (.int (nI (q_n1 g)))) I' F R n) : Ev lay d 23 0 [.ref a, .int (q_oI g)] [] I F R n Q := by
  have hh := h
  obtain ⟨h1, h2, h3, h4, h5, h6⟩ := h
  cases g with
  | none => exact (s_countSwapN h1).mpr (hQ _ hh fun x _ => ⟨rfl, rfl, rfl⟩)
  | some g =>
    have hg := hg g rfl
    refine (s_countSwap h1 hg h16 (h2 _ _ _ cS_0_11) (h2 7 g _ (cS_7 (by omega)))).mpr (hQ _ (CSh_I hh (CC_up h2 (cS_7 (by omega))) ?_ ?_ ?_) ?_)
    · intro x hx
      rw [m_up_miss (by omega), h3 x hx]
      show q_oI (q_gi S x) = q_oI (q_gi (up1 S (7 + 4 * g) (S (7 + 4 * g) + 1)) x)
      unfold q_gi
      rw [up1_miss (by omega)]
      refine congrArg _ (q_gin_eq fun y hy => (up1_miss (by omega)).symm)
    · intro p hp hp2
      exact m_up_off (by omega)
    · exact m_up_miss (by omega)
    · intro x hx
      exact ⟨m_up_off (by omega), rfl, rfl⟩
end EXCH
