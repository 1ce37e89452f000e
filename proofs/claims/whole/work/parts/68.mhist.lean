section MHIST
variable {lay : mL} {d a n n' : Nat} {I I' : mI} {F F' : mF} {R R' : mR} {Q : mP} {S : Nat → Nat} {sp : Nat → UInt32} {hi : List Nat} {pm pm' pl : Nat} {hs : List St} {pc : Nat → Nat} {sv : Nat → Option St}
/-- a state of the reference, at a row and its speeds -/
def MR (I : mI) (F : mF) (pm r rf o og : Nat) (st : St) : Prop := (∀ k, k < 123 → I r (o + k) = nI (st.1 k)) ∧ (∀ g, g < 16 → F rf (og + g) = st.2.1 g) ∧ Mch I pm (I r (o + 123)) st.2.2
theorem MR_cp {r rf o og r' rf' o' og' : Nat} {st : St} (h : MR I F pm r rf o og st) (hp : pm ≤ pm') (h1 : ∀ k, k < 124 → I' r' (o' + k) = I r (o + k)) (h2 : ∀ g, g < 16 → F' rf' (og' + g) = F rf (og + g)) (h3 : ∀ k, k < pm → I' 176 k = I 176 k ∧ I' 177 k = I 177 k) : MR I' F' pm' r' rf' o' og' st :=
  ⟨fun k hk => by rw [h1 k (by omega)]; exact h.1 k hk, fun g hg => by rw [h2 g hg]; exact h.2.1 g hg, by rw [h1 123 (by omega)]; exact Mch_off h.2.2 hp h3⟩
def HM (I : mI) (F : mF) (pm : Nat) (hs : List St) : Prop := I 166 6 = nI hs.length ∧ hs.length ≤ 6 ∧ ∀ (j : Nat) (st : St), hs[j]? = some st → MR I F pm 171 172 (124 * j) (16 * j) st
def VM (I : mI) (F : mF) (pm : Nat) (sv : Nat → Option St) : Prop := ∃ K, K < 4 ∧ I 166 9 = nI K ∧ ∀ k, k < 2 → (K / 2 ^ k % 2 = if (sv k).isSome = true then 1 else 0) ∧ ∀ st : St, sv k = some st → MR I F pm 173 174 (124 * k) (16 * k) st
def PM (I : mI) (pl : Nat) (pc : Nat → Nat) : Prop := I 166 11 = nI pl ∧ ∀ k, k < pl → I 175 k = nI (pc k)
theorem HM_sm (h : HM I F pm hs) (hp : pm ≤ pm') (h6 : I' 166 6 = I 166 6) (h1 : I' 171 = I 171) (h2 : F' 172 = F 172) (h3 : ∀ k, k < pm → I' 176 k = I 176 k ∧ I' 177 k = I 177 k) : HM I' F' pm' hs := ⟨by rw [h6]; exact h.1, h.2.1, fun j st e => MR_cp (h.2.2 j st e) hp (fun k _ => by rw [h1]) (fun g _ => by rw [h2]) h3⟩
theorem VM_sm (h : VM I F pm sv) (hp : pm ≤ pm') (h6 : I' 166 9 = I 166 9) (h1 : I' 173 = I 173) (h2 : F' 174 = F 174) (h3 : ∀ k, k < pm → I' 176 k = I 176 k ∧ I' 177 k = I 177 k) : VM I' F' pm' sv := by
  obtain ⟨K, k1, k2, k3⟩ := h
  exact ⟨K, k1, by rw [h6]; exact k2, fun k hk => ⟨(k3 k hk).1, fun st e => MR_cp ((k3 k hk).2 st e) hp (fun k _ => by rw [h1]) (fun g _ => by rw [h2]) h3⟩⟩
theorem PM_sm (h : PM I pl pc) (h6 : I' 166 11 = I 166 11) (h1 : I' 175 = I 175) : PM I' pl pc := ⟨by rw [h6]; exact h.1, fun k hk => by rw [h1]; exact h.2 k hk⟩
/-- the reference's whole state -/
def MX (lay : mL) (I : mI) (F : mF) (R : mR) (S : Nat → Nat) (sp : Nat → UInt32) (hi : List Nat) (pm : Nat) (hs : List St) (pl : Nat) (pc : Nat → Nat) (sv : Nat → Option St) : Prop :=
  ML lay R ∧ MS I F S sp ∧ Mch I pm (I 167 123) hi ∧ I 166 14 = nI pm ∧ HM I F pm hs ∧ VM I F pm sv ∧ PM I pl pc
/-- what the reference leaves alone -/
def FrR (I : mI) (F : mF) (I' : mI) (F' : mF) : Prop := ∀ x, (x < 166 ∨ 179 < x) → I' x = I x ∧ F' x = F x
theorem FrR_refl : FrR I F I F := fun x _ => ⟨rfl, rfl⟩
theorem FrR_trans {I'' : mI} {F'' : mF} (h : FrR I F I' F') (h' : FrR I' F' I'' F'') : FrR I F I'' F'' := fun x hx => ⟨(h' x hx).1.trans (h x hx).1, (h' x hx).2.trans (h x hx).2⟩
theorem FrR_om (h : Om I F R I' F') : FrR I F I' F' := fun x hx => ⟨(h.1 x (by omega)).1, (h.1 x (by omega)).2.1⟩
theorem FrR_up {x k : Nat} {v : Int32} (h : 166 ≤ x ∧ x ≤ 179) : FrR I F (m_up I x k v) F := fun y hy => ⟨m_up_off (by omega), rfl⟩
theorem MX_om {S' : Nat → Nat} {sp' : Nat → UInt32} (h : MX lay I F R S sp hi pm hs pl pc sv) (hm : MS I' F' S' sp') (ho : Om I F R I' F') : MX lay I' F' R S' sp' hi pm hs pl pc sv := by
  obtain ⟨h1, h2, h3, h4, h5, h6, h7⟩ := h
  have o : ∀ x, x < 167 ∨ 168 < x → I' x = I x ∧ F' x = F x := fun x hx => ⟨(ho.1 x hx).1, (ho.1 x hx).2.1⟩
  have e166 := (o 166 (by omega)).1
  have ch : ∀ k, k < pm → I' 176 k = I 176 k ∧ I' 177 k = I 177 k := fun k _ => by rw [(o 176 (by omega)).1, (o 177 (by omega)).1]; exact ⟨rfl, rfl⟩
  exact ⟨h1, hm, by rw [ho.2]; exact Mch_off h3 (Nat.le_refl _) ch, by rw [e166]; exact h4, HM_sm h5 (Nat.le_refl _) (by rw [e166]) (o 171 (by omega)).1 (o 172 (by omega)).2 ch, VM_sm h6 (Nat.le_refl _) (by rw [e166]) (o 173 (by omega)).1 (o 174 (by omega)).2 ch, PM_sm h7 (by rw [e166]) (o 175 (by omega)).1⟩
/-- what was put aside -/
def AM (I : mI) (F : mF) (pm : Nat) (st : St) : Prop := MR I F pm 169 170 0 0 st
theorem AM_om {st : St} (h : AM I F pm st) (ho : Om I F R I' F') : AM I' F' pm st := MR_cp h (Nat.le_refl _) (fun k _ => by rw [(ho.1 169 (by omega)).1]) (fun g _ => by rw [(ho.1 170 (by omega)).2.1]) (fun k _ => by rw [(ho.1 176 (by omega)).1, (ho.1 177 (by omega)).1]; exact ⟨rfl, rfl⟩)
theorem r_putAside (h : MX lay I F R S sp hi pm hs pl pc sv) (hQ : ∀ I' F', MX lay I' F' R S sp hi pm hs pl pc sv → AM I' F' pm (S, sp, hi) → FrR I F I' F' → Q none I' F' R n) : Ev lay d 98 0 [.ref 166, m_j] [] I F R n Q := by
  obtain ⟨h1, h2, h3, h4, h5, h6, h7⟩ := h
  have key := l_aside (d := d) (n := n) (F := F) (Q := Q) h1 124 0 I rfl (fun W a1 a2 a3 => by
    have key := l_asideF (d := d) (n := n) (I := W) (Q := Q) h1 16 0 F rfl (fun V b1 b2 b3 => by
      have ch : ∀ k, k < pm → W 176 k = I 176 k ∧ W 177 k = I 177 k := fun k _ => by rw [a2 176 (by omega), a2 177 (by omega)]; exact ⟨rfl, rfl⟩
      have key := hQ W V ⟨h1, MS_off h2 (a2 167 (by omega)) (b2 168 (by omega)), by rw [a2 167 (by omega)]; exact Mch_off h3 (Nat.le_refl _) ch, by rw [a2 166 (by omega)]; exact h4, HM_sm h5 (Nat.le_refl _) (by rw [a2 166 (by omega)]) (a2 171 (by omega)) (b2 172 (by omega)) ch, VM_sm h6 (Nat.le_refl _) (by rw [a2 166 (by omega)]) (a2 173 (by omega)) (b2 174 (by omega)) ch, PM_sm h7 (by rw [a2 166 (by omega)]) (a2 175 (by omega))⟩ ⟨fun k hk => by rw [a1 _ (by omega) (by omega), Nat.zero_add]; exact h2.1 k hk, fun g hg => by rw [b1 _ (by omega) (by omega), Nat.zero_add]; exact h2.2 g hg, by rw [a1 _ (by omega) (by omega)]; exact Mch_off h3 (Nat.le_refl _) ch⟩ (fun x hx => ⟨a2 x (by omega), b2 x (by omega)⟩)
      simp (disch := omega) only [e98_52, true_or, m_psh_s, m_psh_n, m_kl_i, m_kl_f, m_kl_r, m_kl_n, m_kl_j, m_kl_l, m_kl_d, c_i, c_f, c_r, c_n, List.length_nil, List.length_cons, true_and, and_true, Nat.reduceAdd, Nat.reduceLeDiff, Nat.reduceSub, Nat.reduceEqDiff, Nat.reduceLT, ge_iff_le, gt_iff_lt, n_lit, m_in, m_nar0, m_nar1, and_self, not_false_eq_true, not_true_eq_false, ne_eq, reduceIte, ite_self, Nat.reduceMul, Nat.reduceDiv, Nat.reduceMod, Nat.reducePow, Nat.zero_add, Nat.add_zero, Nat.one_mul, Nat.mul_one, n_in, n_min, n_clamp, n_eq_t, n_eq_f, n_eq, n_le_t, n_le_f, n_le, n_lt_t, n_lt_f, n_lt, n_sub0, n_sublt, n_suble, n_negsub, m_up_hit, m_up_miss, m_row_hit, m_row_miss, n_eqm, n_meq, n_meqm, n_ltm, n_lem, n_mlt, n_mle, n_sub, n_div, n_and1, n_shl, n_shr, n_inc, n_mul, n_rem, z_lt, z_le, z_nlt, z_nle, Nat.not_lt_zero, Nat.le_zero_eq, Nat.zero_le, if_true, if_false]
      exact key)
    simp (disch := omega) only [e98_26, e98_27, true_or, m_psh_s, m_psh_n, m_kl_i, m_kl_f, m_kl_r, m_kl_n, m_kl_j, m_kl_l, m_kl_d, c_i, c_f, c_r, c_n, List.length_nil, List.length_cons, true_and, and_true, Nat.reduceAdd, Nat.reduceLeDiff, Nat.reduceSub, Nat.reduceEqDiff, Nat.reduceLT, ge_iff_le, gt_iff_lt, n_lit, m_in, m_nar0, m_nar1, and_self, not_false_eq_true, not_true_eq_false, ne_eq, reduceIte, ite_self, Nat.reduceMul, Nat.reduceDiv, Nat.reduceMod, Nat.reducePow, Nat.zero_add, Nat.add_zero, Nat.one_mul, Nat.mul_one, n_in, n_min, n_clamp, n_eq_t, n_eq_f, n_eq, n_le_t, n_le_f, n_le, n_lt_t, n_lt_f, n_lt, n_sub0, n_sublt, n_suble, n_negsub, m_up_hit, m_up_miss, m_row_hit, m_row_miss, n_eqm, n_meq, n_meqm, n_ltm, n_lem, n_mlt, n_mle, n_sub, n_div, n_and1, n_shl, n_shr, n_inc, n_mul, n_rem, z_lt, z_le, z_nlt, z_nle, Nat.not_lt_zero, Nat.le_zero_eq, Nat.zero_le, if_true, if_false]
    exact key)
  simp (disch := omega) only [e98_0, e98_1, true_or, m_psh_s, m_psh_n, m_kl_i, m_kl_f, m_kl_r, m_kl_n, m_kl_j, m_kl_l, m_kl_d, c_i, c_f, c_r, c_n, List.length_nil, List.length_cons, true_and, and_true, Nat.reduceAdd, Nat.reduceLeDiff, Nat.reduceSub, Nat.reduceEqDiff, Nat.reduceLT, ge_iff_le, gt_iff_lt, n_lit, m_in, m_nar0, m_nar1, and_self, not_false_eq_true, not_true_eq_false, ne_eq, reduceIte, ite_self, Nat.reduceMul, Nat.reduceDiv, Nat.reduceMod, Nat.reducePow, Nat.zero_add, Nat.add_zero, Nat.one_mul, Nat.mul_one, n_in, n_min, n_clamp, n_eq_t, n_eq_f, n_eq, n_le_t, n_le_f, n_le, n_lt_t, n_lt_f, n_lt, n_sub0, n_sublt, n_suble, n_negsub, m_up_hit, m_up_miss, m_row_hit, m_row_miss, n_eqm, n_meq, n_meqm, n_ltm, n_lem, n_mlt, n_mle, n_sub, n_div, n_and1, n_shl, n_shr, n_inc, n_mul, n_rem, z_lt, z_le, z_nlt, z_nle, Nat.not_lt_zero, Nat.le_zero_eq, Nat.zero_le, if_true, if_false]
  exact key
theorem r_record {st : St} (h : MX lay I F R S sp hi pm hs pl pc sv) (ha : AM I F pm st) (hQ : ∀ I' F', MX lay I' F' R S sp hi pm (q_rec hs st) pl pc sv → FrR I F I' F' → Q none I' F' R n) : Ev lay d 103 0 [.ref 166, m_j] [] I F R n Q := by
  obtain ⟨h1, h2, h3, h4, h5, h6, h7⟩ := h
  obtain ⟨g1, g2, g3⟩ := h5
  have m0 := h1.1
  -- behind the shifts
  have tail : ∀ (I1 : mI) (F1 : mF) (hs1 : List St) (v1 : Int32), hs1.length ≤ 5 → q_rec hs st = hs1 ++ [st] → (∀ x, x ≠ 171 → x ≠ 166 → I1 x = I x) → (∀ k, k ≠ 6 → I1 166 k = I 166 k) → (∀ x, x ≠ 172 → F1 x = F x) → I1 166 6 = nI hs1.length → (∀ (j : Nat) (su : St), hs1[j]? = some su → MR I1 F1 pm 171 172 (124 * j) (16 * j) su) → ∀ v1 : Value, Ev lay d 103 78 [.ref 166, v1] [] I1 F1 R n Q := by
    intro I1 F1 hs1 _ hl5 hrec i1 i2 f1 i6 hm v1
    have key := l_rec (d := d) (n := n) (F := F1) (Q := Q) h1 hl5 124 0 I1 rfl i6 (fun W a1 a2 a3 => by
      have key := l_recF (d := d) (n := n) (I := W) (Q := Q) h1 hl5 (by rw [a2 166 (by omega)]; exact i6) 16 0 F1 rfl (fun V b1 b2 b3 => by
        have w6 : W 166 6 = nI hs1.length := by rw [a2 166 (by omega)]; exact i6
        have o1 : ∀ x, x ≠ 171 → x ≠ 166 → (m_up W 166 6 (nI (hs1.length + 1))) x = I x := fun x k1 k2 => by rw [m_up_off k2, a2 x k1, i1 x k1 k2]
        have o2 : ∀ k, k ≠ 6 → (m_up W 166 6 (nI (hs1.length + 1))) 166 k = I 166 k := fun k hk => by rw [m_up_ne hk, a2 166 (by omega), i2 k hk]
        have o3 : ∀ x, x ≠ 172 → V x = F x := fun x hx => by rw [b2 x hx, f1 x hx]
        have o4 : (m_up W 166 6 (nI (hs1.length + 1))) 171 = W 171 := m_up_off (by omega)
        have ch : ∀ k, k < pm → (m_up W 166 6 (nI (hs1.length + 1))) 176 k = I 176 k ∧ (m_up W 166 6 (nI (hs1.length + 1))) 177 k = I 177 k := fun k _ => by rw [o1 176 (by omega) (by omega), o1 177 (by omega) (by omega)]; exact ⟨rfl, rfl⟩
        have ch1 : ∀ k, k < pm → (m_up W 166 6 (nI (hs1.length + 1))) 176 k = I1 176 k ∧ (m_up W 166 6 (nI (hs1.length + 1))) 177 k = I1 177 k := fun k _ => by rw [o1 176 (by omega) (by omega), o1 177 (by omega) (by omega), i1 176 (by omega) (by omega), i1 177 (by omega) (by omega)]; exact ⟨rfl, rfl⟩
        have key := hQ (m_up W 166 6 (nI (hs1.length + 1))) V ⟨h1, MS_off h2 (o1 167 (by omega) (by omega)) (o3 168 (by omega)), by rw [o1 167 (by omega) (by omega)]; exact Mch_off h3 (Nat.le_refl _) ch, by rw [o2 14 (by omega)]; exact h4, (by
            rw [hrec]
            refine ⟨by rw [m_up_at, List.length_append]; rfl, by rw [List.length_append]; simp only [List.length_singleton]; omega, fun j su hj => ?_⟩
            rw [List.getElem?_append] at hj
            split at hj
            · rename_i hlt
              exact MR_cp (hm j su hj) (Nat.le_refl _) (fun k hk => by rw [o4, a3 _ (by omega)]) (fun g hg => by rw [b3 _ (by omega)]) ch1
            · rename_i hge
              have hj6 : j = hs1.length := by
                rcases Nat.lt_or_ge (j - hs1.length) [st].length with c2 | c2
                · simp only [List.length_singleton] at c2
                  omega
                · rw [List.getElem?_eq_none c2] at hj; cases hj
              subst hj6
              rw [Nat.sub_self] at hj
              cases hj
              exact MR_cp ha (Nat.le_refl _) (fun k hk => by rw [o4, a1 k (by omega) hk, i1 169 (by omega) (by omega), Nat.zero_add]) (fun g hg => by rw [b1 g (by omega) hg, f1 170 (by omega), Nat.zero_add]) ch), VM_sm h6 (Nat.le_refl _) (o2 9 (by omega)) (o1 173 (by omega) (by omega)) (o3 174 (by omega)) ch, PM_sm h7 (o2 11 (by omega)) (o1 175 (by omega) (by omega))⟩ (fun x hx => ⟨o1 x (by omega) (by omega), o3 x (by omega)⟩)
        simp (disch := omega) only [e103_146, e103_146N, e103_147, e103_148, e103_151, e103_152, e103_153, e103_156, true_or, m_psh_s, m_psh_n, m_kl_i, m_kl_f, m_kl_r, m_kl_n, m_kl_j, m_kl_l, m_kl_d, c_i, c_f, c_r, c_n, List.length_nil, List.length_cons, true_and, and_true, Nat.reduceAdd, Nat.reduceLeDiff, Nat.reduceSub, Nat.reduceEqDiff, Nat.reduceLT, ge_iff_le, gt_iff_lt, n_lit, m_in, m_nar0, m_nar1, and_self, not_false_eq_true, not_true_eq_false, ne_eq, reduceIte, ite_self, Nat.reduceMul, Nat.reduceDiv, Nat.reduceMod, Nat.reducePow, Nat.zero_add, Nat.add_zero, Nat.one_mul, Nat.mul_one, n_in, n_min, n_clamp, n_eq_t, n_eq_f, n_eq, n_le_t, n_le_f, n_le, n_lt_t, n_lt_f, n_lt, n_sub0, n_sublt, n_suble, n_negsub, m_up_hit, m_up_miss, m_row_hit, m_row_miss, n_eqm, n_meq, n_meqm, n_ltm, n_lem, n_mlt, n_mle, n_sub, n_div, n_and1, n_shl, n_shr, n_inc, n_mul, n_rem, z_lt, z_le, z_nlt, z_nle, Nat.not_lt_zero, Nat.le_zero_eq, Nat.zero_le, if_true, if_false, m0, w6]
        exact key)
      simp (disch := omega) only [e103_112, e103_113, true_or, m_psh_s, m_psh_n, m_kl_i, m_kl_f, m_kl_r, m_kl_n, m_kl_j, m_kl_l, m_kl_d, c_i, c_f, c_r, c_n, List.length_nil, List.length_cons, true_and, and_true, Nat.reduceAdd, Nat.reduceLeDiff, Nat.reduceSub, Nat.reduceEqDiff, Nat.reduceLT, ge_iff_le, gt_iff_lt, n_lit, m_in, m_nar0, m_nar1, and_self, not_false_eq_true, not_true_eq_false, ne_eq, reduceIte, ite_self, Nat.reduceMul, Nat.reduceDiv, Nat.reduceMod, Nat.reducePow, Nat.zero_add, Nat.add_zero, Nat.one_mul, Nat.mul_one, n_in, n_min, n_clamp, n_eq_t, n_eq_f, n_eq, n_le_t, n_le_f, n_le, n_lt_t, n_lt_f, n_lt, n_sub0, n_sublt, n_suble, n_negsub, m_up_hit, m_up_miss, m_row_hit, m_row_miss, n_eqm, n_meq, n_meqm, n_ltm, n_lem, n_mlt, n_mle, n_sub, n_div, n_and1, n_shl, n_shr, n_inc, n_mul, n_rem, z_lt, z_le, z_nlt, z_nle, Nat.not_lt_zero, Nat.le_zero_eq, Nat.zero_le, if_true, if_false]
      exact key)
    simp (disch := omega) only [e103_78, e103_79, true_or, m_psh_s, m_psh_n, m_kl_i, m_kl_f, m_kl_r, m_kl_n, m_kl_j, m_kl_l, m_kl_d, c_i, c_f, c_r, c_n, List.length_nil, List.length_cons, true_and, and_true, Nat.reduceAdd, Nat.reduceLeDiff, Nat.reduceSub, Nat.reduceEqDiff, Nat.reduceLT, ge_iff_le, gt_iff_lt, n_lit, m_in, m_nar0, m_nar1, and_self, not_false_eq_true, not_true_eq_false, ne_eq, reduceIte, ite_self, Nat.reduceMul, Nat.reduceDiv, Nat.reduceMod, Nat.reducePow, Nat.zero_add, Nat.add_zero, Nat.one_mul, Nat.mul_one, n_in, n_min, n_clamp, n_eq_t, n_eq_f, n_eq, n_le_t, n_le_f, n_le, n_lt_t, n_lt_f, n_lt, n_sub0, n_sublt, n_suble, n_negsub, m_up_hit, m_up_miss, m_row_hit, m_row_miss, n_eqm, n_meq, n_meqm, n_ltm, n_lem, n_mlt, n_mle, n_sub, n_div, n_and1, n_shl, n_shr, n_inc, n_mul, n_rem, z_lt, z_le, z_nlt, z_nle, Nat.not_lt_zero, Nat.le_zero_eq, Nat.zero_le, if_true, if_false]
    exact key
  by_cases c : hs.length = 6
  · rw [c] at g1
    have key := l_shift (d := d) (n := n) (F := F) (Q := Q) h1 620 0 I rfl (fun W a1 a2 a3 => by
      have key := l_shiftF (d := d) (n := n) (I := W) (Q := Q) h1 80 0 F rfl (fun V b1 b2 b3 => by
        have w6 : W 166 6 = nI 6 := by rw [a2 166 (by omega)]; exact g1
        have hl5 : (hs.drop 1).length = 5 := by rw [List.length_drop, c]
        have key := tail (m_up W 166 6 (nI 5)) V (hs.drop 1) 0 (by omega) (by unfold q_rec; rw [if_pos c]) (fun x k1 k2 => by rw [m_up_off k2, a2 x k1]) (fun k hk => by rw [m_up_ne hk, a2 166 (by omega)]) (fun x hx => b2 x hx) (by rw [m_up_at, hl5]) (fun j su hj => by
          have hjl : j < 5 := by
            rcases Nat.lt_or_ge j 5 with c2 | c2
            · exact c2
            · rw [List.getElem?_eq_none (by omega)] at hj; cases hj
          rw [List.getElem?_drop] at hj
          refine MR_cp (g3 (1 + j) su hj) (Nat.le_refl _) (fun k hk => ?_) (fun g hg => ?_) (fun k _ => ⟨by rw [m_up_off (by omega), a2 176 (by omega)], by rw [m_up_off (by omega), a2 177 (by omega)]⟩)
          · rw [m_up_off (by omega), a1 _ (by omega) (by omega)]
            congr 1; omega
          · rw [b1 _ (by omega) (by omega)]
            congr 1; omega)
        have e5 : (6 : Nat) - 1 = 5 := rfl
        simp (disch := omega) only [e103_68, e103_68N, e103_69, e103_70, e103_73, e103_74, e103_75, true_or, m_psh_s, m_psh_n, m_kl_i, m_kl_f, m_kl_r, m_kl_n, m_kl_j, m_kl_l, m_kl_d, c_i, c_f, c_r, c_n, List.length_nil, List.length_cons, true_and, and_true, Nat.reduceAdd, Nat.reduceLeDiff, Nat.reduceSub, Nat.reduceEqDiff, Nat.reduceLT, ge_iff_le, gt_iff_lt, n_lit, m_in, m_nar0, m_nar1, and_self, not_false_eq_true, not_true_eq_false, ne_eq, reduceIte, ite_self, Nat.reduceMul, Nat.reduceDiv, Nat.reduceMod, Nat.reducePow, Nat.zero_add, Nat.add_zero, Nat.one_mul, Nat.mul_one, n_in, n_min, n_clamp, n_eq_t, n_eq_f, n_eq, n_le_t, n_le_f, n_le, n_lt_t, n_lt_f, n_lt, n_sub0, n_sublt, n_suble, n_negsub, m_up_hit, m_up_miss, m_row_hit, m_row_miss, n_eqm, n_meq, n_meqm, n_ltm, n_lem, n_mlt, n_mle, n_sub, n_div, n_and1, n_shl, n_shr, n_inc, n_mul, n_rem, z_lt, z_le, z_nlt, z_nle, Nat.not_lt_zero, Nat.le_zero_eq, Nat.zero_le, if_true, if_false, m0, w6]
        exact key _)
      simp (disch := omega) only [e103_39, e103_40, true_or, m_psh_s, m_psh_n, m_kl_i, m_kl_f, m_kl_r, m_kl_n, m_kl_j, m_kl_l, m_kl_d, c_i, c_f, c_r, c_n, List.length_nil, List.length_cons, true_and, and_true, Nat.reduceAdd, Nat.reduceLeDiff, Nat.reduceSub, Nat.reduceEqDiff, Nat.reduceLT, ge_iff_le, gt_iff_lt, n_lit, m_in, m_nar0, m_nar1, and_self, not_false_eq_true, not_true_eq_false, ne_eq, reduceIte, ite_self, Nat.reduceMul, Nat.reduceDiv, Nat.reduceMod, Nat.reducePow, Nat.zero_add, Nat.add_zero, Nat.one_mul, Nat.mul_one, n_in, n_min, n_clamp, n_eq_t, n_eq_f, n_eq, n_le_t, n_le_f, n_le, n_lt_t, n_lt_f, n_lt, n_sub0, n_sublt, n_suble, n_negsub, m_up_hit, m_up_miss, m_row_hit, m_row_miss, n_eqm, n_meq, n_meqm, n_ltm, n_lem, n_mlt, n_mle, n_sub, n_div, n_and1, n_shl, n_shr, n_inc, n_mul, n_rem, z_lt, z_le, z_nlt, z_nle, Nat.not_lt_zero, Nat.le_zero_eq, Nat.zero_le, if_true, if_false]
      exact key)
    simp (disch := omega) only [e103_0, e103_0N, e103_1, e103_4, e103_6, e103_9, e103_10, true_or, m_psh_s, m_psh_n, m_kl_i, m_kl_f, m_kl_r, m_kl_n, m_kl_j, m_kl_l, m_kl_d, c_i, c_f, c_r, c_n, List.length_nil, List.length_cons, true_and, and_true, Nat.reduceAdd, Nat.reduceLeDiff, Nat.reduceSub, Nat.reduceEqDiff, Nat.reduceLT, ge_iff_le, gt_iff_lt, n_lit, m_in, m_nar0, m_nar1, and_self, not_false_eq_true, not_true_eq_false, ne_eq, reduceIte, ite_self, Nat.reduceMul, Nat.reduceDiv, Nat.reduceMod, Nat.reducePow, Nat.zero_add, Nat.add_zero, Nat.one_mul, Nat.mul_one, n_in, n_min, n_clamp, n_eq_t, n_eq_f, n_eq, n_le_t, n_le_f, n_le, n_lt_t, n_lt_f, n_lt, n_sub0, n_sublt, n_suble, n_negsub, m_up_hit, m_up_miss, m_row_hit, m_row_miss, n_eqm, n_meq, n_meqm, n_ltm, n_lem, n_mlt, n_mle, n_sub, n_div, n_and1, n_shl, n_shr, n_inc, n_mul, n_rem, z_lt, z_le, z_nlt, z_nle, Nat.not_lt_zero, Nat.le_zero_eq, Nat.zero_le, if_true, if_false, m0, g1]
    exact key
  · have key := tail I F hs 0 (by omega) (by unfold q_rec; rw [if_neg c]) (fun _ _ _ => rfl) (fun _ _ => rfl) (fun _ _ => rfl) g1 g3
    simp (disch := omega) only [e103_0, e103_0N, e103_1, e103_4, e103_6, true_or, m_psh_s, m_psh_n, m_kl_i, m_kl_f, m_kl_r, m_kl_n, m_kl_j, m_kl_l, m_kl_d, c_i, c_f, c_r, c_n, List.length_nil, List.length_cons, true_and, and_true, Nat.reduceAdd, Nat.reduceLeDiff, Nat.reduceSub, Nat.reduceEqDiff, Nat.reduceLT, ge_iff_le, gt_iff_lt, n_lit, m_in, m_nar0, m_nar1, and_self, not_false_eq_true, not_true_eq_false, ne_eq, reduceIte, ite_self, Nat.reduceMul, Nat.reduceDiv, Nat.reduceMod, Nat.reducePow, Nat.zero_add, Nat.add_zero, Nat.one_mul, Nat.mul_one, n_in, n_min, n_clamp, n_eq_t, n_eq_f, n_eq, n_le_t, n_le_f, n_le, n_lt_t, n_lt_f, n_lt, n_sub0, n_sublt, n_suble, n_negsub, m_up_hit, m_up_miss, m_row_hit, m_row_miss, n_eqm, n_meq, n_meqm, n_ltm, n_lem, n_mlt, n_mle, n_sub, n_div, n_and1, n_shl, n_shr, n_inc, n_mul, n_rem, z_lt, z_le, z_nlt, z_nle, Nat.not_lt_zero, Nat.le_zero_eq, Nat.zero_le, if_true, if_false, m0, g1]
    exact key _
theorem r_changed {ans : Int32} {st : St} (h : MX lay I F R S sp hi pm hs pl pc sv) (ha : AM I F pm st) (hd : 1 ≤ d) (hQ : ∀ I' F', MX lay I' F' R S sp hi pm (q_rc ans hs st) pl pc sv → FrR I F I' F' → Q (some (.int ans)) I' F' R n) : Ev lay d 102 0 [.ref 166, .int ans] [] I F R n Q := by
  have m0 := h.1.1
  unfold q_rc at hQ
  rcases n_g ans with ⟨k, hk, rfl⟩ | hx
  · rw [if_neg (by rw [n_lt hk (by omega)]; omega)] at hQ
    have kr : ∀ (Q : mP), _ → _ := fun Q hQ => r_record (d := d - 1) (n := n) (Q := Q) h ha hQ
    simp (disch := omega) only [e102_0, e102_1, e102_4, e102_4N, e102_5, true_or, m_psh_s, m_psh_n, m_kl_i, m_kl_f, m_kl_r, m_kl_n, m_kl_j, m_kl_l, m_kl_d, c_i, c_f, c_r, c_n, List.length_nil, List.length_cons, true_and, and_true, Nat.reduceAdd, Nat.reduceLeDiff, Nat.reduceSub, Nat.reduceEqDiff, Nat.reduceLT, ge_iff_le, gt_iff_lt, n_lit, m_in, m_nar0, m_nar1, and_self, not_false_eq_true, not_true_eq_false, ne_eq, reduceIte, ite_self, Nat.reduceMul, Nat.reduceDiv, Nat.reduceMod, Nat.reducePow, Nat.zero_add, Nat.add_zero, Nat.one_mul, Nat.mul_one, n_in, n_min, n_clamp, n_eq_t, n_eq_f, n_eq, n_le_t, n_le_f, n_le, n_lt_t, n_lt_f, n_lt, n_sub0, n_sublt, n_suble, n_negsub, m_up_hit, m_up_miss, m_row_hit, m_row_miss, n_eqm, n_meq, n_meqm, n_ltm, n_lem, n_mlt, n_mle, n_sub, n_div, n_and1, n_shl, n_shr, n_inc, n_mul, n_rem, z_lt, z_le, z_nlt, z_nle, Nat.not_lt_zero, Nat.le_zero_eq, Nat.zero_le, if_true, if_false, m0]
    apply kr
    intro I1 F1 h1 o1
    have key := hQ I1 F1 h1 o1
    simp (disch := omega) only [e102_8, e102_9, true_or, m_psh_s, m_psh_n, m_kl_i, m_kl_f, m_kl_r, m_kl_n, m_kl_j, m_kl_l, m_kl_d, c_i, c_f, c_r, c_n, List.length_nil, List.length_cons, true_and, and_true, Nat.reduceAdd, Nat.reduceLeDiff, Nat.reduceSub, Nat.reduceEqDiff, Nat.reduceLT, ge_iff_le, gt_iff_lt, n_lit, m_in, m_nar0, m_nar1, and_self, not_false_eq_true, not_true_eq_false, ne_eq, reduceIte, ite_self, Nat.reduceMul, Nat.reduceDiv, Nat.reduceMod, Nat.reducePow, Nat.zero_add, Nat.add_zero, Nat.one_mul, Nat.mul_one, n_in, n_min, n_clamp, n_eq_t, n_eq_f, n_eq, n_le_t, n_le_f, n_le, n_lt_t, n_lt_f, n_lt, n_sub0, n_sublt, n_suble, n_negsub, m_up_hit, m_up_miss, m_row_hit, m_row_miss, n_eqm, n_meq, n_meqm, n_ltm, n_lem, n_mlt, n_mle, n_sub, n_div, n_and1, n_shl, n_shr, n_inc, n_mul, n_rem, z_lt, z_le, z_nlt, z_nle, Nat.not_lt_zero, Nat.le_zero_eq, Nat.zero_le, if_true, if_false]
    exact key
  · rw [if_pos hx] at hQ
    have key := hQ I F h FrR_refl
    simp (disch := omega) only [e102_0, e102_1, e102_4, e102_4N, e102_5, e102_8, e102_9, true_or, m_psh_s, m_psh_n, m_kl_i, m_kl_f, m_kl_r, m_kl_n, m_kl_j, m_kl_l, m_kl_d, c_i, c_f, c_r, c_n, List.length_nil, List.length_cons, true_and, and_true, Nat.reduceAdd, Nat.reduceLeDiff, Nat.reduceSub, Nat.reduceEqDiff, Nat.reduceLT, ge_iff_le, gt_iff_lt, n_lit, m_in, m_nar0, m_nar1, and_self, not_false_eq_true, not_true_eq_false, ne_eq, reduceIte, ite_self, Nat.reduceMul, Nat.reduceDiv, Nat.reduceMod, Nat.reducePow, Nat.zero_add, Nat.add_zero, Nat.one_mul, Nat.mul_one, n_in, n_min, n_clamp, n_eq_t, n_eq_f, n_eq, n_le_t, n_le_f, n_le, n_lt_t, n_lt_f, n_lt, n_sub0, n_sublt, n_suble, n_negsub, m_up_hit, m_up_miss, m_row_hit, m_row_miss, n_eqm, n_meq, n_meqm, n_ltm, n_lem, n_mlt, n_mle, n_sub, n_div, n_and1, n_shl, n_shr, n_inc, n_mul, n_rem, z_lt, z_le, z_nlt, z_nle, Nat.not_lt_zero, Nat.le_zero_eq, Nat.zero_le, if_true, if_false, hx, if_pos hx]
    exact key
end MHIST
