section CARRY
variable {lay : mL} {d a n n' : Nat} {I I' : mI} {F F' : mF} {R R' : mR} {Q : mP} {S : Nat → Nat} {sp : Nat → UInt32} {hi : List Nat} {nx pl : Nat} {hs : List St} {pc : Nat → Nat} {sv : Nat → Option St}
/-- what an order does -/
def q_exO (S : Nat → Nat) (sp : Nat → UInt32) (hi : List Nat) (l f g t w : Nat) : Int32 × St :=
  if l = 103 then ((q_add S (nI f)).1, (q_add S (nI f)).2, sp, hi)
  else if l = 98 then ((q_pick S hi (nI (t ||| q_W w))).1, (q_pick S hi (nI (t ||| q_W w))).2.1, sp, (q_pick S hi (nI (t ||| q_W w))).2.2)
  else if l = 109 then ((q_swp S (nI f) (nI g)).1, (q_swp S (nI f) (nI g)).2, sp, hi)
  else if l = 120 then ((q_cls S (nI f)).1, (q_cls S (nI f)).2, sp, hi)
  else ((q_night S sp).1, (q_night S sp).2.1, (q_night S sp).2.2, hi)
/-- what the orders of a text do: how many were carried out, and the state behind them -/
def q_go (pl : Nat) (pc : Nat → Nat) : Nat → Nat → Nat → St → Nat × St
  | 0, _, k, st => (k, st)
  | f + 1, s, k, st => match q_od pl pc s with
    | .inl _ => (k, st)
    | .inr (l, f1, g1, t, w, s1) => if (q_exO st.1 st.2.1 st.2.2 l f1 g1 t w).1 < nI 0 then (k, (q_exO st.1 st.2.1 st.2.2 l f1 g1 t w).2) else if s1 < pl then q_go pl pc f (s1 + 1) (k + 1) (q_exO st.1 st.2.1 st.2.2 l f1 g1 t w).2 else (k + 1, (q_exO st.1 st.2.1 st.2.2 l f1 g1 t w).2)
theorem od_inj {a1 a2 a3 a4 a5 a6 b1 b2 b3 b4 b5 b6 : Nat} (h : (Sum.inr (a1, a2, a3, a4, a5, a6) : Nat ⊕ Od) = Sum.inr (b1, b2, b3, b4, b5, b6)) : a1 = b1 ∧ a2 = b2 ∧ a3 = b3 ∧ a4 = b4 ∧ a5 = b5 ∧ a6 = b6 := by
  have h' := Sum.inr.inj h
  simp only [Prod.mk.injEq] at h'
  exact h'
theorem Wf_ex {l f g t w : Nat} (h : Wf S sp hi) : Wf (q_exO S sp hi l f g t w).2.1 (q_exO S sp hi l f g t w).2.2.1 (q_exO S sp hi l f g t w).2.2.2 := by
  unfold q_exO
  split
  · exact Wf_add h
  · split
    · exact Wf_pick h
    · split
      · exact Wf_swp h
      · split
        · exact Wf_cls h
        · exact Wf_night h
/-- what an order leaves alone -/
def FrC (n : Nat) (I : mI) (F : mF) (R : mR) (I' : mI) (F' : mF) (R' : mR) : Prop := ∀ x, x < n → (x < 2 ∨ 15 < x) → R' x = R x ∧ ((x < 30 ∨ 33 < x) → I' x = I x ∧ F' x = F x)
theorem FrC_p (h : Off 33 33 I F R I' F R) : FrC n I F R I' F R := fun x hx hx2 => ⟨rfl, fun hx3 => by
  by_cases e : x = 33
  · omega
  · exact ⟨(h x (by omega)).1, rfl⟩⟩
theorem FrC_n (h : FrN n I F R I' F' R') : FrC n I F R I' F' R' := fun x hx hx2 => ⟨(h x hx hx2).1, fun hx3 => (h x hx hx2).2 (by omega)⟩
theorem FrC_refl : FrC n I F R I F R := fun x _ _ => ⟨rfl, fun _ => ⟨rfl, rfl⟩⟩
theorem FrC_trans {I'' : mI} {F'' : mF} {R'' : mR} (h : FrC n I F R I' F' R') (h' : FrC n' I' F' R' I'' F'' R'') (hn : n ≤ n') : FrC n I F R I'' F'' R'' := fun x hx hx2 => by
  obtain ⟨h1, h2⟩ := h x hx hx2
  obtain ⟨k1, k2⟩ := h' x (by omega) hx2
  exact ⟨k1.trans h1, fun hy => ⟨(k2 hy).1.trans (h2 hy).1, (k2 hy).2.trans (h2 hy).2⟩⟩
theorem FrC_M (h : FrC n I F R I' F' R') : FrM n I F R I' F' R' := fun x hx => by
  obtain ⟨h1, h2⟩ := h x (by omega) (by omega)
  exact ⟨(h2 (by omega)).1, (h2 (by omega)).2, h1⟩
theorem NT_c {st : St} (h : NT lay I F R n nx st) (hx : nx < 7) (hf : FrC n I F R I' F' R') (hn : n ≤ n') (hn2 : 180 ≤ n) : NT lay I' F' R' n' nx st := CSh_sm h (fun x hx => by
  obtain ⟨k1, k2⟩ := hf x (by omega) (by omega)
  exact ⟨(k2 (by omega)).1, (k2 (by omega)).2, k1⟩) hn
theorem XS_PA {s : Nat} (h : XS lay I F R n S sp hi nx hs pl pc sv) (hp : PA I' pl pc s) (hf : Off 33 33 I F R I' F R) : XS lay I' F R n S sp hi nx hs pl pc sv := XS_pad h hp.1 (Off_wide hf (by omega) (by omega))
theorem XS_ly (h : XS lay I F R n S sp hi nx hs pl pc sv) : PLy lay R := ⟨h.1.2.2.2.1.1, h.1.2.2.2.1.2.1, h.1.2.2.2.1.2.2.2.1⟩
theorem s_order {s l f1 g1 t w s1 : Nat} (h : XS lay I F R n S sp hi nx hs pl pc sv) (h2 : I 33 2 = nI s) (hsl : s < pl) (hp : padOK pl pc) (hf : ff pl pc s (0, 32, 1) = none) (wf : Wf S sp hi) (hl : hi.length < 2000) (hn : lay n = (10, 0)) (hd : 5 ≤ d) (ho : q_od pl pc s = .inr (l, f1, g1, t, w, s1))
    (hQ : ∀ I' F' R' n', n ≤ n' → n' ≤ n + 1 → (l ≠ 98 → n' = n) → (q_exO S sp hi l f1 g1 t w).2.2.2.length + n = hi.length + n' → XS lay I' F' R' n' (q_exO S sp hi l f1 g1 t w).2.1 (q_exO S sp hi l f1 g1 t w).2.2.1 (q_exO S sp hi l f1 g1 t w).2.2.2 nx hs pl pc sv → I' 33 2 = nI s1 → FrC n I F R I' F' R' → Q (some (.int (q_exO S sp hi l f1 g1 t w).1)) I' F' R' n') : Ev lay d 87 0 [.ref 1, m_j, m_j] [] I F R n Q := by
  have hX := h
  have l2 := XS_sh h
  have hpl := h.2.2.2.2.1.2.1
  have ps := hp s hsl
  have PA0 : PA I pl pc s := ⟨h.2.2.2.2.1, h2⟩
  obtain ⟨⟨x1, x2, x3, x4, x5, x6, x7, x8, x9⟩, ⟨xw1, xw2, xw3⟩, ⟨xv1, xv2⟩, ⟨xp1, xp2, xp3, xp4, xp5⟩, ⟨xh1, xh2, xh3, xh4⟩, xs1, xs2, xs3⟩ := h.1
  have kl : ∀ (Q : mP), _ → _ := fun Q hQ => s_takeLetter (d := d - 1) (F := F) (n := n) (Q := Q) (XS_ly hX) PA0 hsl hQ (by omega)
  rw [ff_lt hsl] at hf
  have e0 : q_tk (0, 32, 1) (pc s) = (q_isL (pc s), q_letter (pc s)) := rfl
  rw [e0] at hf
  unfold q_od at ho
  rw [if_pos hsl] at ho
  simp (disch := omega) only [e87_0, e87_0N, e87_1, e87_4, true_or, m_psh_s, m_psh_n, m_kl_i, m_kl_f, m_kl_r, m_kl_n, m_kl_j, m_kl_l, m_kl_d, c_i, c_f, c_r, c_n, List.length_nil, List.length_cons, true_and, and_true, Nat.reduceAdd, Nat.reduceLeDiff, Nat.reduceSub, Nat.reduceEqDiff, Nat.reduceLT, ge_iff_le, gt_iff_lt, n_lit, m_in, m_nar0, m_nar1, and_self, not_false_eq_true, not_true_eq_false, ne_eq, reduceIte, ite_self, Nat.reduceMul, Nat.reduceDiv, Nat.reduceMod, Nat.reducePow, Nat.zero_add, Nat.add_zero, Nat.one_mul, Nat.mul_one, n_in, n_min, n_clamp, n_eq_t, n_eq_f, n_eq, n_le_t, n_le_f, n_le, n_lt_t, n_lt_f, n_lt, n_sub0, n_sublt, n_suble, n_negsub, m_up_hit, m_up_miss, m_row_hit, m_row_miss, n_eqm, n_meq, n_meqm, n_ltm, n_lem, n_mlt, n_mle, n_sub, n_div, n_and1, n_shl, n_shr, n_inc, n_mul, n_rem, z_lt, z_le, z_nlt, z_nle, Nat.not_lt_zero, Nat.le_zero_eq, Nat.zero_le, if_true, if_false, x1, x2, x3, x4, x5, x6, x7, x8, x9, xw1, xv1, xp1, xp2, xp3, xp4, xp5, xh1, xs1, xs2]
  apply kl
  intro I1 P1 o1
  have X1 := XS_PA hX P1 o1
  by_cases c1 : pc s = 110
  · rw [if_pos c1] at ho
    obtain ⟨rfl, rfl, rfl, rfl, rfl, rfl⟩ := od_inj ho
    rw [c1]
    have e : q_exO S sp hi 110 0 0 0 0 = ((q_night S sp).1, (q_night S sp).2.1, (q_night S sp).2.2, hi) := rfl
    rw [e] at hQ
    simp (disch := omega) only [e87_7, e87_8, e87_9, e87_128, e87_128N, e87_129, e87_132, e87_132N, e87_133, e87_136, true_or, m_psh_s, m_psh_n, m_kl_i, m_kl_f, m_kl_r, m_kl_n, m_kl_j, m_kl_l, m_kl_d, c_i, c_f, c_r, c_n, List.length_nil, List.length_cons, true_and, and_true, Nat.reduceAdd, Nat.reduceLeDiff, Nat.reduceSub, Nat.reduceEqDiff, Nat.reduceLT, ge_iff_le, gt_iff_lt, n_lit, m_in, m_nar0, m_nar1, and_self, not_false_eq_true, not_true_eq_false, ne_eq, reduceIte, ite_self, Nat.reduceMul, Nat.reduceDiv, Nat.reduceMod, Nat.reducePow, Nat.zero_add, Nat.add_zero, Nat.one_mul, Nat.mul_one, n_in, n_min, n_clamp, n_eq_t, n_eq_f, n_eq, n_le_t, n_le_f, n_le, n_lt_t, n_lt_f, n_lt, n_sub0, n_sublt, n_suble, n_negsub, m_up_hit, m_up_miss, m_row_hit, m_row_miss, n_eqm, n_meq, n_meqm, n_ltm, n_lem, n_mlt, n_mle, n_sub, n_div, n_and1, n_shl, n_shr, n_inc, n_mul, n_rem, z_lt, z_le, z_nlt, z_nle, Nat.not_lt_zero, Nat.le_zero_eq, Nat.zero_le, if_true, if_false, x1, x2, x3, x4, x5, x6, x7, x8, x9, xw1, xv1, xp1, xp2, xp3, xp4, xp5, xh1, xs1, xs2, l2]
    apply s_nightN X1 (Wf_nightOK wf) (by omega)
    intro I2 F2 X2 o2
    have key := hQ I2 F2 R n (Nat.le_refl _) (by omega) (fun _ => rfl) rfl X2 (by rw [((o2 33 (by have := XS_n hX; omega) (by omega)).2 (by omega)).1]; exact P1.2) (FrC_trans (FrC_p o1) (FrC_n o2) (Nat.le_refl _))
    simp (disch := omega) only [e87_139, true_or, m_psh_s, m_psh_n, m_kl_i, m_kl_f, m_kl_r, m_kl_n, m_kl_j, m_kl_l, m_kl_d, c_i, c_f, c_r, c_n, List.length_nil, List.length_cons, true_and, and_true, Nat.reduceAdd, Nat.reduceLeDiff, Nat.reduceSub, Nat.reduceEqDiff, Nat.reduceLT, ge_iff_le, gt_iff_lt, n_lit, m_in, m_nar0, m_nar1, and_self, not_false_eq_true, not_true_eq_false, ne_eq, reduceIte, ite_self, Nat.reduceMul, Nat.reduceDiv, Nat.reduceMod, Nat.reducePow, Nat.zero_add, Nat.add_zero, Nat.one_mul, Nat.mul_one, n_in, n_min, n_clamp, n_eq_t, n_eq_f, n_eq, n_le_t, n_le_f, n_le, n_lt_t, n_lt_f, n_lt, n_sub0, n_sublt, n_suble, n_negsub, m_up_hit, m_up_miss, m_row_hit, m_row_miss, n_eqm, n_meq, n_meqm, n_ltm, n_lem, n_mlt, n_mle, n_sub, n_div, n_and1, n_shl, n_shr, n_inc, n_mul, n_rem, z_lt, z_le, z_nlt, z_nle, Nat.not_lt_zero, Nat.le_zero_eq, Nat.zero_le, if_true, if_false]
    exact key
  · rw [if_neg c1] at ho
    by_cases c2 : pc s = 98
    · rw [if_pos c2] at ho
      rw [c2] at hf ⊢
      have hf2 : ff pl pc (s + 1) (1, 44, 1) = none := hf
      cases e : q_bk pl pc 81 (s + 1) 0 0 with
      | inl p => rw [e] at ho; cases ho
      | inr x =>
        obtain ⟨t', w', s1'⟩ := x
        rw [e] at ho
        obtain ⟨rfl, rfl, rfl, rfl, rfl, rfl⟩ := od_inj ho
        obtain ⟨tb, wb⟩ := q_bk_b 81 (s + 1) 0 0 t' w' s1' (by omega) (by omega) e
        have eX : q_exO S sp hi 98 0 0 t' w' = ((q_pick S hi (nI (t' ||| q_W w'))).1, (q_pick S hi (nI (t' ||| q_W w'))).2.1, sp, (q_pick S hi (nI (t' ||| q_W w'))).2.2) := rfl
        rw [eX] at hQ
        have kb : ∀ (Q : mP), _ → _ := fun Q hQ => s_takeBasket (d := d - 1) (F := F) (n := n) (Q := Q) (XS_ly hX) hp hpl (by omega) P1 (by omega) hf2 e hQ
        simp (disch := omega) only [e87_7, e87_8, e87_9, e87_67, e87_67N, e87_68, e87_68N, e87_69, e87_72, true_or, m_psh_s, m_psh_n, m_kl_i, m_kl_f, m_kl_r, m_kl_n, m_kl_j, m_kl_l, m_kl_d, c_i, c_f, c_r, c_n, List.length_nil, List.length_cons, true_and, and_true, Nat.reduceAdd, Nat.reduceLeDiff, Nat.reduceSub, Nat.reduceEqDiff, Nat.reduceLT, ge_iff_le, gt_iff_lt, n_lit, m_in, m_nar0, m_nar1, and_self, not_false_eq_true, not_true_eq_false, ne_eq, reduceIte, ite_self, Nat.reduceMul, Nat.reduceDiv, Nat.reduceMod, Nat.reducePow, Nat.zero_add, Nat.add_zero, Nat.one_mul, Nat.mul_one, n_in, n_min, n_clamp, n_eq_t, n_eq_f, n_eq, n_le_t, n_le_f, n_le, n_lt_t, n_lt_f, n_lt, n_sub0, n_sublt, n_suble, n_negsub, m_up_hit, m_up_miss, m_row_hit, m_row_miss, n_eqm, n_meq, n_meqm, n_ltm, n_lem, n_mlt, n_mle, n_sub, n_div, n_and1, n_shl, n_shr, n_inc, n_mul, n_rem, z_lt, z_le, z_nlt, z_nle, Nat.not_lt_zero, Nat.le_zero_eq, Nat.zero_le, if_true, if_false, x1, x2, x3, x4, x5, x6, x7, x8, x9, xw1, xv1, xp1, xp2, xp3, xp4, xp5, xh1, xs1, xs2, l2]
        apply kb
        intro I2 P2 o2
        have X2 := XS_PA X1 P2 o2
        have ok : pickOK lay S hi n := ⟨wf.1, wf.2.1.2.2, wf.2.2.2.1.1, hl, wf.2.2.2.2.2.2.2.2.1, hn⟩
        simp (disch := omega) only [e87_75, true_or, m_psh_s, m_psh_n, m_kl_i, m_kl_f, m_kl_r, m_kl_n, m_kl_j, m_kl_l, m_kl_d, c_i, c_f, c_r, c_n, List.length_nil, List.length_cons, true_and, and_true, Nat.reduceAdd, Nat.reduceLeDiff, Nat.reduceSub, Nat.reduceEqDiff, Nat.reduceLT, ge_iff_le, gt_iff_lt, n_lit, m_in, m_nar0, m_nar1, and_self, not_false_eq_true, not_true_eq_false, ne_eq, reduceIte, ite_self, Nat.reduceMul, Nat.reduceDiv, Nat.reduceMod, Nat.reducePow, Nat.zero_add, Nat.add_zero, Nat.one_mul, Nat.mul_one, n_in, n_min, n_clamp, n_eq_t, n_eq_f, n_eq, n_le_t, n_le_f, n_le, n_lt_t, n_lt_f, n_lt, n_sub0, n_sublt, n_suble, n_negsub, m_up_hit, m_up_miss, m_row_hit, m_row_miss, n_eqm, n_meq, n_meqm, n_ltm, n_lem, n_mlt, n_mle, n_sub, n_div, n_and1, n_shl, n_shr, n_inc, n_mul, n_rem, z_lt, z_le, z_nlt, z_nle, Nat.not_lt_zero, Nat.le_zero_eq, Nat.zero_le, if_true, if_false, x1, x2, x3, x4, x5, x6, x7, x8, x9, xw1, xv1, xp1, xp2, xp3, xp4, xp5, xh1, xs1, xs2, l2]
        apply s_pick X2 ok (by omega)
        intro I3 R3 n3 a1 a2 a3 X3 o3
        have key := hQ I3 F R3 n3 a1 a2 (fun z => absurd rfl z) a3 X3 (by rw [((o3 33 (by have := XS_n hX; omega) (by omega)).2 (by omega)).1]; exact P2.2) (FrC_trans (FrC_p o1) (FrC_trans (FrC_p o2) (FrC_n o3) (Nat.le_refl _)) (Nat.le_refl _))
        simp (disch := omega) only [e87_78, true_or, m_psh_s, m_psh_n, m_kl_i, m_kl_f, m_kl_r, m_kl_n, m_kl_j, m_kl_l, m_kl_d, c_i, c_f, c_r, c_n, List.length_nil, List.length_cons, true_and, and_true, Nat.reduceAdd, Nat.reduceLeDiff, Nat.reduceSub, Nat.reduceEqDiff, Nat.reduceLT, ge_iff_le, gt_iff_lt, n_lit, m_in, m_nar0, m_nar1, and_self, not_false_eq_true, not_true_eq_false, ne_eq, reduceIte, ite_self, Nat.reduceMul, Nat.reduceDiv, Nat.reduceMod, Nat.reducePow, Nat.zero_add, Nat.add_zero, Nat.one_mul, Nat.mul_one, n_in, n_min, n_clamp, n_eq_t, n_eq_f, n_eq, n_le_t, n_le_f, n_le, n_lt_t, n_lt_f, n_lt, n_sub0, n_sublt, n_suble, n_negsub, m_up_hit, m_up_miss, m_row_hit, m_row_miss, n_eqm, n_meq, n_meqm, n_ltm, n_lem, n_mlt, n_mle, n_sub, n_div, n_and1, n_shl, n_shr, n_inc, n_mul, n_rem, z_lt, z_le, z_nlt, z_nle, Nat.not_lt_zero, Nat.le_zero_eq, Nat.zero_le, if_true, if_false]
        exact key
    · rw [if_neg c2] at ho
      by_cases c3 : pc s = 109
      · rw [if_pos c3] at ho
        rw [c3] at hf ⊢
        have hf2 : ff pl pc (s + 1) (1, 45, 0) = none := hf
        obtain ⟨v, t1, e, hf3⟩ := ff_num_some (by omega) hf2
        have e1 := q_nm_lt e
        have nd1 := ff_nd (by omega) (by omega) hf3
        rw [e] at ho
        dsimp only at ho
        rw [ff_mark (by omega)] at hf3
        by_cases d1 : t1 < pl
        · rw [if_pos d1, if_neg (fun z => absurd z.2 (by decide))] at hf3
          by_cases d2 : pc t1 = 45
          · rw [if_pos d2, if_pos d2, if_pos d2] at hf3
            rw [if_pos ⟨d1, d2⟩] at ho
            obtain ⟨v2, t2, e2, hf4⟩ := ff_num_some (by omega) hf3
            have e3 := q_nm_lt e2
            have nd2 := ff_nd (by omega) (by omega) hf4
            rw [e2] at ho
            obtain ⟨rfl, rfl, rfl, rfl, rfl, rfl⟩ := od_inj ho
            have eX : q_exO S sp hi 109 v v2 0 0 = ((q_swp S (nI v) (nI v2)).1, (q_swp S (nI v) (nI v2)).2, sp, hi) := rfl
            rw [eX] at hQ
            have kn1 : ∀ (Q : mP), _ → _ := fun Q hQ => s_takeNumber (d := d - 1) (F := F) (n := n) (Q := Q) (XS_ly hX) P1 hp (by omega) (by omega) e nd1 hQ
            simp (disch := omega) only [e87_7, e87_8, e87_9, e87_79, e87_79N, e87_80, e87_83, true_or, m_psh_s, m_psh_n, m_kl_i, m_kl_f, m_kl_r, m_kl_n, m_kl_j, m_kl_l, m_kl_d, c_i, c_f, c_r, c_n, List.length_nil, List.length_cons, true_and, and_true, Nat.reduceAdd, Nat.reduceLeDiff, Nat.reduceSub, Nat.reduceEqDiff, Nat.reduceLT, ge_iff_le, gt_iff_lt, n_lit, m_in, m_nar0, m_nar1, and_self, not_false_eq_true, not_true_eq_false, ne_eq, reduceIte, ite_self, Nat.reduceMul, Nat.reduceDiv, Nat.reduceMod, Nat.reducePow, Nat.zero_add, Nat.add_zero, Nat.one_mul, Nat.mul_one, n_in, n_min, n_clamp, n_eq_t, n_eq_f, n_eq, n_le_t, n_le_f, n_le, n_lt_t, n_lt_f, n_lt, n_sub0, n_sublt, n_suble, n_negsub, m_up_hit, m_up_miss, m_row_hit, m_row_miss, n_eqm, n_meq, n_meqm, n_ltm, n_lem, n_mlt, n_mle, n_sub, n_div, n_and1, n_shl, n_shr, n_inc, n_mul, n_rem, z_lt, z_le, z_nlt, z_nle, Nat.not_lt_zero, Nat.le_zero_eq, Nat.zero_le, if_true, if_false, x1, x2, x3, x4, x5, x6, x7, x8, x9, xw1, xv1, xp1, xp2, xp3, xp4, xp5, xh1, xs1, xs2, l2]
            apply kn1
            intro I2 P2 o2
            have kp : ∀ (Q : mP), _ → _ := fun Q hQ => s_passes (d := d - 1) (x := 45) (F := F) (n := n) (Q := Q) (XS_ly hX) P2 (by omega) hp (by omega) hQ
            rw [if_pos ⟨d1, d2⟩] at kp
            simp (disch := omega) only [e87_86, e87_87, e87_87N, e87_88, e87_91, e87_93, true_or, m_psh_s, m_psh_n, m_kl_i, m_kl_f, m_kl_r, m_kl_n, m_kl_j, m_kl_l, m_kl_d, c_i, c_f, c_r, c_n, List.length_nil, List.length_cons, true_and, and_true, Nat.reduceAdd, Nat.reduceLeDiff, Nat.reduceSub, Nat.reduceEqDiff, Nat.reduceLT, ge_iff_le, gt_iff_lt, n_lit, m_in, m_nar0, m_nar1, and_self, not_false_eq_true, not_true_eq_false, ne_eq, reduceIte, ite_self, Nat.reduceMul, Nat.reduceDiv, Nat.reduceMod, Nat.reducePow, Nat.zero_add, Nat.add_zero, Nat.one_mul, Nat.mul_one, n_in, n_min, n_clamp, n_eq_t, n_eq_f, n_eq, n_le_t, n_le_f, n_le, n_lt_t, n_lt_f, n_lt, n_sub0, n_sublt, n_suble, n_negsub, m_up_hit, m_up_miss, m_row_hit, m_row_miss, n_eqm, n_meq, n_meqm, n_ltm, n_lem, n_mlt, n_mle, n_sub, n_div, n_and1, n_shl, n_shr, n_inc, n_mul, n_rem, z_lt, z_le, z_nlt, z_nle, Nat.not_lt_zero, Nat.le_zero_eq, Nat.zero_le, if_true, if_false, x1, x2, x3, x4, x5, x6, x7, x8, x9, xw1, xv1, xp1, xp2, xp3, xp4, xp5, xh1, xs1, xs2, l2]
            apply kp
            intro I3 P3 o3
            have kn2 : ∀ (Q : mP), _ → _ := fun Q hQ => s_takeNumber (d := d - 1) (F := F) (n := n) (Q := Q) (XS_ly hX) P3 hp (by omega) (by omega) e2 nd2 hQ
            simp (disch := omega) only [e87_96, e87_97, e87_97N, e87_98, e87_101, e87_102, e87_102N, e87_103, e87_106, true_or, m_psh_s, m_psh_n, m_kl_i, m_kl_f, m_kl_r, m_kl_n, m_kl_j, m_kl_l, m_kl_d, c_i, c_f, c_r, c_n, List.length_nil, List.length_cons, true_and, and_true, Nat.reduceAdd, Nat.reduceLeDiff, Nat.reduceSub, Nat.reduceEqDiff, Nat.reduceLT, ge_iff_le, gt_iff_lt, n_lit, m_in, m_nar0, m_nar1, and_self, not_false_eq_true, not_true_eq_false, ne_eq, reduceIte, ite_self, Nat.reduceMul, Nat.reduceDiv, Nat.reduceMod, Nat.reducePow, Nat.zero_add, Nat.add_zero, Nat.one_mul, Nat.mul_one, n_in, n_min, n_clamp, n_eq_t, n_eq_f, n_eq, n_le_t, n_le_f, n_le, n_lt_t, n_lt_f, n_lt, n_sub0, n_sublt, n_suble, n_negsub, m_up_hit, m_up_miss, m_row_hit, m_row_miss, n_eqm, n_meq, n_meqm, n_ltm, n_lem, n_mlt, n_mle, n_sub, n_div, n_and1, n_shl, n_shr, n_inc, n_mul, n_rem, z_lt, z_le, z_nlt, z_nle, Nat.not_lt_zero, Nat.le_zero_eq, Nat.zero_le, if_true, if_false, x1, x2, x3, x4, x5, x6, x7, x8, x9, xw1, xv1, xp1, xp2, xp3, xp4, xp5, xh1, xs1, xs2, l2]
            apply kn2
            intro I4 P4 o4
            have X4 := XS_PA (XS_PA (XS_PA X1 P2 o2) P3 o3) P4 o4
            simp (disch := omega) only [e87_109, true_or, m_psh_s, m_psh_n, m_kl_i, m_kl_f, m_kl_r, m_kl_n, m_kl_j, m_kl_l, m_kl_d, c_i, c_f, c_r, c_n, List.length_nil, List.length_cons, true_and, and_true, Nat.reduceAdd, Nat.reduceLeDiff, Nat.reduceSub, Nat.reduceEqDiff, Nat.reduceLT, ge_iff_le, gt_iff_lt, n_lit, m_in, m_nar0, m_nar1, and_self, not_false_eq_true, not_true_eq_false, ne_eq, reduceIte, ite_self, Nat.reduceMul, Nat.reduceDiv, Nat.reduceMod, Nat.reducePow, Nat.zero_add, Nat.add_zero, Nat.one_mul, Nat.mul_one, n_in, n_min, n_clamp, n_eq_t, n_eq_f, n_eq, n_le_t, n_le_f, n_le, n_lt_t, n_lt_f, n_lt, n_sub0, n_sublt, n_suble, n_negsub, m_up_hit, m_up_miss, m_row_hit, m_row_miss, n_eqm, n_meq, n_meqm, n_ltm, n_lem, n_mlt, n_mle, n_sub, n_div, n_and1, n_shl, n_shr, n_inc, n_mul, n_rem, z_lt, z_le, z_nlt, z_nle, Nat.not_lt_zero, Nat.le_zero_eq, Nat.zero_le, if_true, if_false, x1, x2, x3, x4, x5, x6, x7, x8, x9, xw1, xv1, xp1, xp2, xp3, xp4, xp5, xh1, xs1, xs2, l2]
            apply s_swapByHand X4.2.2.1 wf.1 (by omega) (by omega)
            intro I5 k5 o5
            have X5 := XS_now X4 k5 (FrN_s o5) (Nat.le_refl _)
            have key := hQ I5 F R n (Nat.le_refl _) (by omega) (fun _ => rfl) rfl X5 (by rw [(o5 33 (by omega)).1]; exact P4.2) (FrC_trans (FrC_p o1) (FrC_trans (FrC_p o2) (FrC_trans (FrC_p o3) (FrC_trans (FrC_p o4) (FrC_n (FrN_s o5)) (Nat.le_refl _)) (Nat.le_refl _)) (Nat.le_refl _)) (Nat.le_refl _))
            simp (disch := omega) only [e87_112, true_or, m_psh_s, m_psh_n, m_kl_i, m_kl_f, m_kl_r, m_kl_n, m_kl_j, m_kl_l, m_kl_d, c_i, c_f, c_r, c_n, List.length_nil, List.length_cons, true_and, and_true, Nat.reduceAdd, Nat.reduceLeDiff, Nat.reduceSub, Nat.reduceEqDiff, Nat.reduceLT, ge_iff_le, gt_iff_lt, n_lit, m_in, m_nar0, m_nar1, and_self, not_false_eq_true, not_true_eq_false, ne_eq, reduceIte, ite_self, Nat.reduceMul, Nat.reduceDiv, Nat.reduceMod, Nat.reducePow, Nat.zero_add, Nat.add_zero, Nat.one_mul, Nat.mul_one, n_in, n_min, n_clamp, n_eq_t, n_eq_f, n_eq, n_le_t, n_le_f, n_le, n_lt_t, n_lt_f, n_lt, n_sub0, n_sublt, n_suble, n_negsub, m_up_hit, m_up_miss, m_row_hit, m_row_miss, n_eqm, n_meq, n_meqm, n_ltm, n_lem, n_mlt, n_mle, n_sub, n_div, n_and1, n_shl, n_shr, n_inc, n_mul, n_rem, z_lt, z_le, z_nlt, z_nle, Nat.not_lt_zero, Nat.le_zero_eq, Nat.zero_le, if_true, if_false]
            exact key
          · rw [if_neg d2] at hf3; cases hf3
        · rw [if_neg d1, if_neg (show ¬ (0 : Nat) = 1 by decide)] at hf3; cases hf3
      · rw [if_neg c3] at ho
        by_cases c4 : pc s = 103 ∨ pc s = 120
        · rw [if_pos c4] at ho
          have hf2 : ff pl pc (s + 1) (1, 32, 1) = none := by
            rcases c4 with c4 | c4
            · rw [c4] at hf; exact hf
            · rw [c4] at hf; exact hf
          obtain ⟨v, t1, e, hf3⟩ := ff_num_some (by omega) hf2
          have e1 := q_nm_lt e
          have nd1 := ff_nd (by omega) (by omega) hf3
          rw [e] at ho
          obtain ⟨rfl, rfl, rfl, rfl, rfl, rfl⟩ := od_inj ho
          have kn1 : ∀ (Q : mP), _ → _ := fun Q hQ => s_takeNumber (d := d - 1) (F := F) (n := n) (Q := Q) (XS_ly hX) P1 hp (by omega) (by omega) e nd1 hQ
          rcases c4 with c4 | c4
          · rw [c4] at hQ ⊢
            have eX : q_exO S sp hi 103 v 0 0 0 = ((q_add S (nI v)).1, (q_add S (nI v)).2, sp, hi) := rfl
            rw [eX] at hQ
            simp (disch := omega) only [e87_7, e87_8, e87_9, e87_52, e87_52N, e87_53, e87_56, e87_56N, e87_57, e87_60, true_or, m_psh_s, m_psh_n, m_kl_i, m_kl_f, m_kl_r, m_kl_n, m_kl_j, m_kl_l, m_kl_d, c_i, c_f, c_r, c_n, List.length_nil, List.length_cons, true_and, and_true, Nat.reduceAdd, Nat.reduceLeDiff, Nat.reduceSub, Nat.reduceEqDiff, Nat.reduceLT, ge_iff_le, gt_iff_lt, n_lit, m_in, m_nar0, m_nar1, and_self, not_false_eq_true, not_true_eq_false, ne_eq, reduceIte, ite_self, Nat.reduceMul, Nat.reduceDiv, Nat.reduceMod, Nat.reducePow, Nat.zero_add, Nat.add_zero, Nat.one_mul, Nat.mul_one, n_in, n_min, n_clamp, n_eq_t, n_eq_f, n_eq, n_le_t, n_le_f, n_le, n_lt_t, n_lt_f, n_lt, n_sub0, n_sublt, n_suble, n_negsub, m_up_hit, m_up_miss, m_row_hit, m_row_miss, n_eqm, n_meq, n_meqm, n_ltm, n_lem, n_mlt, n_mle, n_sub, n_div, n_and1, n_shl, n_shr, n_inc, n_mul, n_rem, z_lt, z_le, z_nlt, z_nle, Nat.not_lt_zero, Nat.le_zero_eq, Nat.zero_le, if_true, if_false, x1, x2, x3, x4, x5, x6, x7, x8, x9, xw1, xv1, xp1, xp2, xp3, xp4, xp5, xh1, xs1, xs2, l2]
            apply kn1
            intro I2 P2 o2
            have X2 := XS_PA X1 P2 o2
            simp (disch := omega) only [e87_63, true_or, m_psh_s, m_psh_n, m_kl_i, m_kl_f, m_kl_r, m_kl_n, m_kl_j, m_kl_l, m_kl_d, c_i, c_f, c_r, c_n, List.length_nil, List.length_cons, true_and, and_true, Nat.reduceAdd, Nat.reduceLeDiff, Nat.reduceSub, Nat.reduceEqDiff, Nat.reduceLT, ge_iff_le, gt_iff_lt, n_lit, m_in, m_nar0, m_nar1, and_self, not_false_eq_true, not_true_eq_false, ne_eq, reduceIte, ite_self, Nat.reduceMul, Nat.reduceDiv, Nat.reduceMod, Nat.reducePow, Nat.zero_add, Nat.add_zero, Nat.one_mul, Nat.mul_one, n_in, n_min, n_clamp, n_eq_t, n_eq_f, n_eq, n_le_t, n_le_f, n_le, n_lt_t, n_lt_f, n_lt, n_sub0, n_sublt, n_suble, n_negsub, m_up_hit, m_up_miss, m_row_hit, m_row_miss, n_eqm, n_meq, n_meqm, n_ltm, n_lem, n_mlt, n_mle, n_sub, n_div, n_and1, n_shl, n_shr, n_inc, n_mul, n_rem, z_lt, z_le, z_nlt, z_nle, Nat.not_lt_zero, Nat.le_zero_eq, Nat.zero_le, if_true, if_false, x1, x2, x3, x4, x5, x6, x7, x8, x9, xw1, xv1, xp1, xp2, xp3, xp4, xp5, xh1, xs1, xs2, l2]
            apply s_bring X2.2.2.1 wf.1 (by omega) (by omega)
            intro I5 k5 o5
            have X5 := XS_now X2 k5 (FrN_s o5) (Nat.le_refl _)
            have key := hQ I5 F R n (Nat.le_refl _) (by omega) (fun _ => rfl) rfl X5 (by rw [(o5 33 (by omega)).1]; exact P2.2) (FrC_trans (FrC_p o1) (FrC_trans (FrC_p o2) (FrC_n (FrN_s o5)) (Nat.le_refl _)) (Nat.le_refl _))
            simp (disch := omega) only [e87_66, true_or, m_psh_s, m_psh_n, m_kl_i, m_kl_f, m_kl_r, m_kl_n, m_kl_j, m_kl_l, m_kl_d, c_i, c_f, c_r, c_n, List.length_nil, List.length_cons, true_and, and_true, Nat.reduceAdd, Nat.reduceLeDiff, Nat.reduceSub, Nat.reduceEqDiff, Nat.reduceLT, ge_iff_le, gt_iff_lt, n_lit, m_in, m_nar0, m_nar1, and_self, not_false_eq_true, not_true_eq_false, ne_eq, reduceIte, ite_self, Nat.reduceMul, Nat.reduceDiv, Nat.reduceMod, Nat.reducePow, Nat.zero_add, Nat.add_zero, Nat.one_mul, Nat.mul_one, n_in, n_min, n_clamp, n_eq_t, n_eq_f, n_eq, n_le_t, n_le_f, n_le, n_lt_t, n_lt_f, n_lt, n_sub0, n_sublt, n_suble, n_negsub, m_up_hit, m_up_miss, m_row_hit, m_row_miss, n_eqm, n_meq, n_meqm, n_ltm, n_lem, n_mlt, n_mle, n_sub, n_div, n_and1, n_shl, n_shr, n_inc, n_mul, n_rem, z_lt, z_le, z_nlt, z_nle, Nat.not_lt_zero, Nat.le_zero_eq, Nat.zero_le, if_true, if_false]
            exact key
          · rw [c4] at hQ ⊢
            have eX : q_exO S sp hi 120 v 0 0 0 = ((q_cls S (nI v)).1, (q_cls S (nI v)).2, sp, hi) := rfl
            rw [eX] at hQ
            simp (disch := omega) only [e87_7, e87_8, e87_9, e87_113, e87_113N, e87_114, e87_117, e87_117N, e87_118, e87_121, true_or, m_psh_s, m_psh_n, m_kl_i, m_kl_f, m_kl_r, m_kl_n, m_kl_j, m_kl_l, m_kl_d, c_i, c_f, c_r, c_n, List.length_nil, List.length_cons, true_and, and_true, Nat.reduceAdd, Nat.reduceLeDiff, Nat.reduceSub, Nat.reduceEqDiff, Nat.reduceLT, ge_iff_le, gt_iff_lt, n_lit, m_in, m_nar0, m_nar1, and_self, not_false_eq_true, not_true_eq_false, ne_eq, reduceIte, ite_self, Nat.reduceMul, Nat.reduceDiv, Nat.reduceMod, Nat.reducePow, Nat.zero_add, Nat.add_zero, Nat.one_mul, Nat.mul_one, n_in, n_min, n_clamp, n_eq_t, n_eq_f, n_eq, n_le_t, n_le_f, n_le, n_lt_t, n_lt_f, n_lt, n_sub0, n_sublt, n_suble, n_negsub, m_up_hit, m_up_miss, m_row_hit, m_row_miss, n_eqm, n_meq, n_meqm, n_ltm, n_lem, n_mlt, n_mle, n_sub, n_div, n_and1, n_shl, n_shr, n_inc, n_mul, n_rem, z_lt, z_le, z_nlt, z_nle, Nat.not_lt_zero, Nat.le_zero_eq, Nat.zero_le, if_true, if_false, x1, x2, x3, x4, x5, x6, x7, x8, x9, xw1, xv1, xp1, xp2, xp3, xp4, xp5, xh1, xs1, xs2, l2]
            apply kn1
            intro I2 P2 o2
            have X2 := XS_PA X1 P2 o2
            simp (disch := omega) only [e87_124, true_or, m_psh_s, m_psh_n, m_kl_i, m_kl_f, m_kl_r, m_kl_n, m_kl_j, m_kl_l, m_kl_d, c_i, c_f, c_r, c_n, List.length_nil, List.length_cons, true_and, and_true, Nat.reduceAdd, Nat.reduceLeDiff, Nat.reduceSub, Nat.reduceEqDiff, Nat.reduceLT, ge_iff_le, gt_iff_lt, n_lit, m_in, m_nar0, m_nar1, and_self, not_false_eq_true, not_true_eq_false, ne_eq, reduceIte, ite_self, Nat.reduceMul, Nat.reduceDiv, Nat.reduceMod, Nat.reducePow, Nat.zero_add, Nat.add_zero, Nat.one_mul, Nat.mul_one, n_in, n_min, n_clamp, n_eq_t, n_eq_f, n_eq, n_le_t, n_le_f, n_le, n_lt_t, n_lt_f, n_lt, n_sub0, n_sublt, n_suble, n_negsub, m_up_hit, m_up_miss, m_row_hit, m_row_miss, n_eqm, n_meq, n_meqm, n_ltm, n_lem, n_mlt, n_mle, n_sub, n_div, n_and1, n_shl, n_shr, n_inc, n_mul, n_rem, z_lt, z_le, z_nlt, z_nle, Nat.not_lt_zero, Nat.le_zero_eq, Nat.zero_le, if_true, if_false, x1, x2, x3, x4, x5, x6, x7, x8, x9, xw1, xv1, xp1, xp2, xp3, xp4, xp5, xh1, xs1, xs2, l2]
            apply s_close X2.2.2.1 wf.1 wf.2.2.1 (by omega) (by omega)
            intro I5 k5 o5
            have X5 := XS_now X2 k5 (FrN_s o5) (Nat.le_refl _)
            have key := hQ I5 F R n (Nat.le_refl _) (by omega) (fun _ => rfl) rfl X5 (by rw [(o5 33 (by omega)).1]; exact P2.2) (FrC_trans (FrC_p o1) (FrC_trans (FrC_p o2) (FrC_n (FrN_s o5)) (Nat.le_refl _)) (Nat.le_refl _))
            simp (disch := omega) only [e87_127, true_or, m_psh_s, m_psh_n, m_kl_i, m_kl_f, m_kl_r, m_kl_n, m_kl_j, m_kl_l, m_kl_d, c_i, c_f, c_r, c_n, List.length_nil, List.length_cons, true_and, and_true, Nat.reduceAdd, Nat.reduceLeDiff, Nat.reduceSub, Nat.reduceEqDiff, Nat.reduceLT, ge_iff_le, gt_iff_lt, n_lit, m_in, m_nar0, m_nar1, and_self, not_false_eq_true, not_true_eq_false, ne_eq, reduceIte, ite_self, Nat.reduceMul, Nat.reduceDiv, Nat.reduceMod, Nat.reducePow, Nat.zero_add, Nat.add_zero, Nat.one_mul, Nat.mul_one, n_in, n_min, n_clamp, n_eq_t, n_eq_f, n_eq, n_le_t, n_le_f, n_le, n_lt_t, n_lt_f, n_lt, n_sub0, n_sublt, n_suble, n_negsub, m_up_hit, m_up_miss, m_row_hit, m_row_miss, n_eqm, n_meq, n_meqm, n_ltm, n_lem, n_mlt, n_mle, n_sub, n_div, n_and1, n_shl, n_shr, n_inc, n_mul, n_rem, z_lt, z_le, z_nlt, z_nle, Nat.not_lt_zero, Nat.le_zero_eq, Nat.zero_le, if_true, if_false]
            exact key
        · rw [if_neg c4] at ho
          cases ho
end CARRY
