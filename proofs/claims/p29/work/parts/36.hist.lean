section HIST
abbrev St : Type := (Nat → Nat) × (Nat → UInt32) × List Nat
variable {lay : mL} {d a n n' : Nat} {I I' : mI} {F F' : mF} {R R' : mR} {Q : mP} {S : Nat → Nat} {sp : Nat → UInt32} {hi : List Nat}
def Same (P : Nat → Prop) (I : mI) (F : mF) (R : mR) (I' : mI) (F' : mF) (R' : mR) : Prop := ∀ x, P x → I' x = I x ∧ F' x = F x ∧ R' x = R x
theorem CSh_sm (h : CSh lay I F R n a S sp hi) (hs : Same (fun x => (a ≤ x ∧ x ≤ a + 13) ∨ (180 ≤ x ∧ x < n)) I F R I' F' R') (hn : n ≤ n') : CSh lay I' F' R' n' a S sp hi := by
  obtain ⟨h1, h2, h3, h4, h5, h6⟩ := h
  have hx : ∀ x, x < 14 → I' (a + x) = I (a + x) ∧ F' (a + x) = F (a + x) ∧ R' (a + x) = R (a + x) := fun x hx => hs (a + x) (Or.inl (by omega))
  refine ⟨ISh_off h1 (fun x k h7 h8 _ => ?_), CC_off h2 (fun x k i h7 => ?_), fun s hs => ?_, fun g hg => ?_, ?_, ?_⟩
  · have := (hx (x - a) (by omega)).2.2
    rw [show a + (x - a) = x from by omega] at this
    rw [this]
  · rw [(hx x (cS_lt h7).1).1]
  · rw [(hx 3 (by omega)).1]; exact h3 s hs
  · rw [(hx 4 (by omega)).2.1]; exact h4 g hg
  · have := (hx 0 (by omega)).2.2
    rw [Nat.add_zero] at this
    rw [this]
    exact Cch_off h5 hn (fun p hp hp2 => ⟨(hs p (Or.inr ⟨hp, hp2⟩)).1, (hs p (Or.inr ⟨hp, hp2⟩)).2.2⟩)
  · have := (hx 0 (by omega)).1
    rw [Nat.add_zero] at this
    rw [this]; exact h6
/-- the class's references -/
def XL (lay : mL) (R : mR) : Prop :=
  (lay 1 = (13, 0) ∧ m_rv (R 1 0) = .ref 2 ∧ m_rv (R 1 1) = .ref 16 ∧ m_rv (R 1 2) = .ref 30 ∧ m_rv (R 1 3) = .ref 32 ∧ m_rv (R 1 4) = .ref 33 ∧ m_rv (R 1 5) = .ref 36 ∧ m_rv (R 1 6) = .ref 136 ∧ m_rv (R 1 7) = .ref 165) ∧
  WK lay R ∧ MV lay R ∧ (lay 33 = (9, 0) ∧ lay 34 = (3, 80) ∧ lay 35 = (6, 0) ∧ m_rv (R 33 0) = .ref 34 ∧ m_rv (R 33 1) = .ref 35) ∧
  (lay 36 = (7, 0) ∧ lay 37 = (4, 7) ∧ m_rv (R 36 0) = .ref 37 ∧ ∀ j, j < 7 → m_rv (R 37 j) = .ref (38 + 14 * j)) ∧
  (lay 136 = (4, 2) ∧ lay 165 = (2, 2) ∧ ∀ j, j < 2 → m_rv (R 136 j) = .ref (137 + 14 * j))
theorem XL_sm (h : XL lay R) (hs : ∀ x, x = 1 ∨ x = 30 ∨ x = 32 ∨ x = 33 ∨ x = 36 ∨ x = 37 ∨ x = 136 → R' x = R x) : XL lay R' := by
  unfold XL WK MV at h ⊢
  rw [hs 1 (by omega), hs 30 (by omega), hs 32 (by omega), hs 33 (by omega), hs 36 (by omega), hs 37 (by omega), hs 136 (by omega)]
  exact h
def isSd (a : Nat) : Prop := a = 2 ∨ a = 16 ∨ (38 ≤ a ∧ a ≤ 122 ∧ (a - 38) % 14 = 0) ∨ a = 137 ∨ a = 151
def AS (lay : mL) (R : mR) : Prop := ∀ a, isSd a → ISh lay R a
theorem AS_sm (h : AS lay R) (ha : isSd a) (h1 : ISh lay R' a) (hs : ∀ x, (x < a ∨ a + 13 < x) → 2 ≤ x → (x < 30 ∨ 37 < x) → x < 165 → R' x = R x) : AS lay R' := by
  intro b hb
  by_cases e : b = a
  · subst e; exact h1
  · refine ISh_off (h b hb) fun x k h2 h3 _ => ?_
    rw [hs x (by unfold isSd at ha hb; omega) (by unfold isSd at hb; omega) (by unfold isSd at hb; omega) (by unfold isSd at hb; omega)]
def HG (lay : mL) (I : mI) (F : mF) (R : mR) (n nx : Nat) (hs : List St) : Prop := I 36 2 = nI hs.length ∧ I 36 1 = nI nx ∧ nx < 7 ∧ hs.length ≤ 6 ∧ ∀ (j : Nat) (st : St), hs[j]? = some st → CSh lay I F R n (38 + 14 * ((nx + 7 - hs.length + j) % 7)) st.1 st.2.1 st.2.2
def PD (I : mI) (pl : Nat) (pc : Nat → Nat) : Prop := I 33 3 = nI pl ∧ pl ≤ 80 ∧ ∀ k, k < pl → I 34 k = nI (pc k)
def SV (lay : mL) (I : mI) (F : mF) (R : mR) (n : Nat) (sv : Nat → Option St) : Prop := ∀ k, k < 2 → I 165 k = nI (if (sv k).isSome = true then 1 else 0) ∧ ∀ st : St, sv k = some st → CSh lay I F R n (137 + 14 * k) st.1 st.2.1 st.2.2
variable {nx pl : Nat} {hs : List St} {pc : Nat → Nat} {sv : Nat → Option St}
theorem HG_sm (h : HG lay I F R n nx hs) (hm : Same (fun x => (36 ≤ x ∧ x ≤ 135) ∨ (180 ≤ x ∧ x < n)) I F R I' F' R') (hn : n ≤ n') : HG lay I' F' R' n' nx hs := by
  obtain ⟨h1, h2, h3, h4, h5⟩ := h
  have e := (hm 36 (Or.inl (by omega))).1
  refine ⟨by rw [e]; exact h1, by rw [e]; exact h2, h3, h4, fun j st hj => CSh_sm (h5 j st hj) (fun x hx => hm x ?_) hn⟩
  have : (nx + 7 - hs.length + j) % 7 < 7 := Nat.mod_lt _ (by decide)
  rcases hx with hx | hx
  · exact Or.inl (by omega)
  · exact Or.inr hx
theorem PD_sm (h : PD I pl pc) (h1 : I' 33 = I 33) (h2 : I' 34 = I 34) : PD I' pl pc := by
  unfold PD at h ⊢
  rw [h1, h2]
  exact h
theorem SV_sm (h : SV lay I F R n sv) (hs : Same (fun x => (137 ≤ x ∧ x ≤ 165) ∨ (180 ≤ x ∧ x < n)) I F R I' F' R') (hn : n ≤ n') : SV lay I' F' R' n' sv := by
  intro k hk
  obtain ⟨h1, h2⟩ := h k hk
  rw [(hs 165 (Or.inl (by omega))).1]
  refine ⟨h1, fun st e => CSh_sm (h2 st e) (fun x hx => hs x ?_) hn⟩
  rcases hx with hx | hx
  · exact Or.inl (by omega)
  · exact Or.inr hx
/-- the class's whole state -/
def XS (lay : mL) (I : mI) (F : mF) (R : mR) (n : Nat) (S : Nat → Nat) (sp : Nat → UInt32) (hi : List Nat) (nx : Nat) (hs : List St) (pl : Nat) (pc : Nat → Nat) (sv : Nat → Option St) : Prop :=
  XL lay R ∧ AS lay R ∧ CSh lay I F R n 2 S sp hi ∧ HG lay I F R n nx hs ∧ PD I pl pc ∧ SV lay I F R n sv ∧ 180 ≤ n
/-- what the class leaves alone -/
def FrM (n : Nat) (I : mI) (F : mF) (R : mR) (I' : mI) (F' : mF) (R' : mR) : Prop := Same (fun x => x < n ∧ (x = 0 ∨ 166 ≤ x)) I F R I' F' R'
/-- what a change of the shed that stands now leaves alone -/
def FrN (n : Nat) (I : mI) (F : mF) (R : mR) (I' : mI) (F' : mF) (R' : mR) : Prop := ∀ x, x < n → (x < 2 ∨ 15 < x) → R' x = R x ∧ ((x < 30 ∨ 32 < x) → I' x = I x ∧ F' x = F x)
theorem FrN_M (h : FrN n I F R I' F' R') : FrM n I F R I' F' R' := fun x hx => by
  obtain ⟨h1, h2⟩ := h x (by omega) (by omega)
  exact ⟨(h2 (by omega)).1, (h2 (by omega)).2, h1⟩
theorem FrM_refl : FrM n I F R I F R := fun x _ => ⟨rfl, rfl, rfl⟩
theorem FrM_trans {I'' : mI} {F'' : mF} {R'' : mR} (h : FrM n I F R I' F' R') (h' : FrM n' I' F' R' I'' F'' R'') (hn : n ≤ n') : FrM n I F R I'' F'' R'' := fun x hx => ⟨(h' x (by omega)).1.trans (h x hx).1, (h' x (by omega)).2.1.trans (h x hx).2.1, (h' x (by omega)).2.2.trans (h x hx).2.2⟩
theorem FrN_s (h : Off 2 (2 + 13) I F R I' F' R') : FrN n I F R I' F' R' := fun x _ hx => by
  obtain ⟨h1, h2, h3⟩ := h x (by omega)
  exact ⟨h3, fun _ => ⟨h1, h2⟩⟩
theorem FrN_w (h : Ofw 2 I F R I' F' R) : FrN n I F R I' F' R := fun x _ hx => by
  refine ⟨rfl, fun hy => ?_⟩
  obtain ⟨h1, h2, h3⟩ := h x (by omega) (by omega)
  exact ⟨h1, h2⟩
theorem FrN_k (h : Off 30 31 I F R I' F R) : FrN n I F R I' F R := fun x _ hx => by
  refine ⟨rfl, fun hy => ?_⟩
  exact ⟨(h x (by omega)).1, rfl⟩
theorem FrN_2 (h : Of2 2 (2 + 13) n I F R I' F' R') : FrN n I F R I' F' R' := fun x hx hx2 => by
  obtain ⟨h1, h2, h3⟩ := h x (by omega) (by omega)
  exact ⟨h3, fun _ => ⟨h1, h2⟩⟩
theorem FrN_refl : FrN n I F R I F R := fun x _ _ => ⟨rfl, fun _ => ⟨rfl, rfl⟩⟩
theorem FrN_trans {I'' : mI} {F'' : mF} {R'' : mR} (h : FrN n I F R I' F' R') (h' : FrN n' I' F' R' I'' F'' R'') (hn : n ≤ n') : FrN n I F R I'' F'' R'' := fun x hx hx2 => by
  obtain ⟨h1, h2⟩ := h x hx hx2
  obtain ⟨k1, k2⟩ := h' x (by omega) hx2
  exact ⟨k1.trans h1, fun hy => ⟨(k2 hy).1.trans (h2 hy).1, (k2 hy).2.trans (h2 hy).2⟩⟩
theorem FrN_x {x : Nat} (h : FrN n I F R I' F' R') (h1 : x < n) (h2 : x < 2 ∨ 15 < x) (h3 : x < 30 ∨ 32 < x) : I' x = I x ∧ F' x = F x ∧ R' x = R x := by
  obtain ⟨k1, k2⟩ := h x h1 h2
  exact ⟨(k2 h3).1, (k2 h3).2, k1⟩
theorem XS_now {S' : Nat → Nat} {sp' : Nat → UInt32} {hi' : List Nat} (h : XS lay I F R n S sp hi nx hs pl pc sv) (hc : CSh lay I' F' R' n' 2 S' sp' hi') (hf : FrN n I F R I' F' R') (hn : n ≤ n') : XS lay I' F' R' n' S' sp' hi' nx hs pl pc sv := by
  obtain ⟨h1, h2, h3, h4, h5, h6, h7⟩ := h
  exact ⟨XL_sm h1 (fun x hx => (hf x (by omega) (by omega)).1), AS_sm h2 (Or.inl rfl) hc.1 (fun x hx1 hx2 hx3 hx4 => (hf x (by omega) (by omega)).1), hc, HG_sm h4 (fun x hx => FrN_x hf (by omega) (by omega) (by omega)) hn, PD_sm h5 (FrN_x hf (by omega) (by omega) (by omega)).1 (FrN_x hf (by omega) (by omega) (by omega)).1, SV_sm h6 (fun x hx => FrN_x hf (by omega) (by omega) (by omega)) hn, by omega⟩
/-- what was noted in the history's ring -/
def NT (lay : mL) (I : mI) (F : mF) (R : mR) (n nx : Nat) (st : St) : Prop := CSh lay I F R n (38 + 14 * nx) st.1 st.2.1 st.2.2
theorem NT_now {st : St} (h : NT lay I F R n nx st) (hx : nx < 7) (hf : FrN n I F R I' F' R') (hn : n ≤ n') (hn2 : 180 ≤ n) : NT lay I' F' R' n' nx st := CSh_sm h (fun x hx => FrN_x hf (by omega) (by omega) (by omega)) hn
theorem s_note (h : XS lay I F R n S sp hi nx hs pl pc sv) (hd : 3 ≤ d) (hQ : ∀ I' F' R', XS lay I' F' R' n S sp hi nx hs pl pc sv → NT lay I' F' R' n nx (S, sp, hi) → FrM n I F R I' F' R' → Q none I' F' R' n) : Ev lay d 9 0 [.ref 36, .ref 2] [] I F R n Q := by
  have hX := h
  obtain ⟨h1, h2, h3, h4, h5, h6, h7⟩ := h
  obtain ⟨g1, g2, g3, g4, g5⟩ := h4
  have kc : ∀ (Q : mP), _ → _ := fun Q hQ => s_copyFrom (d := d - 1) (Q := Q) (a := 38 + 14 * nx) h3 (h2 _ (Or.inr (Or.inr (Or.inl (by omega))))) (by omega) (by omega) (by omega) (by omega) hQ
  obtain ⟨-, -, -, -, ⟨x1, x2, x3, x4⟩, -⟩ := h1
  have x5 := x4 nx g3
  have x6 := (h2 (38 + 14 * nx) (Or.inr (Or.inr (Or.inl (by omega))))).1
  simp (disch := omega) only [e9_0, e9_0N, e9_1, e9_4, e9_4N, e9_5, e9_8, e9_9, e9_9N, e9_10, true_or, m_psh_s, m_psh_n, m_kl_i, m_kl_f, m_kl_r, m_kl_n, m_kl_j, m_kl_l, m_kl_d, c_i, c_f, c_r, c_n, List.length_nil, List.length_cons, true_and, and_true, Nat.reduceAdd, Nat.reduceLeDiff, Nat.reduceSub, Nat.reduceEqDiff, Nat.reduceLT, ge_iff_le, gt_iff_lt, n_lit, m_in, m_nar0, m_nar1, and_self, not_false_eq_true, not_true_eq_false, ne_eq, reduceIte, ite_self, Nat.reduceMul, Nat.reduceDiv, Nat.reduceMod, Nat.reducePow, Nat.zero_add, Nat.add_zero, Nat.one_mul, Nat.mul_one, n_in, n_min, n_clamp, n_eq_t, n_eq_f, n_eq, n_le_t, n_le_f, n_le, n_lt_t, n_lt_f, n_lt, n_sub0, n_sublt, n_suble, n_negsub, m_up_hit, m_up_miss, m_row_hit, m_row_miss, n_eqm, n_meq, n_meqm, n_ltm, n_lem, n_mlt, n_mle, n_sub, n_div, n_and1, n_shl, n_shr, n_inc, n_mul, n_rem, z_lt, z_le, z_nlt, z_nle, Nat.not_lt_zero, Nat.le_zero_eq, Nat.zero_le, if_true, if_false, x1, x2, x3, x5, x6, g2]
  apply kc
  intro I1 F1 R1 k1 k2
  have key := hQ I1 F1 R1 (by
    obtain ⟨h1, h2, h3, h4, h5, h6, h7⟩ := hX
    refine ⟨XL_sm h1 (fun x hx => (k2 x (by omega)).2.2), AS_sm h2 (Or.inr (Or.inr (Or.inl (by omega)))) k1.1 (fun x hx1 hx2 hx3 hx4 => (k2 x hx1).2.2), CSh_sm h3 (fun x hx => k2 x (by omega)) (Nat.le_refl _), ?_, PD_sm h5 (k2 33 (by omega)).1 (k2 34 (by omega)).1, SV_sm h6 (fun x hx => k2 x (by omega)) (Nat.le_refl _), h7⟩
    have e := (k2 36 (by omega)).1
    refine ⟨by rw [e]; exact g1, by rw [e]; exact g2, g3, g4, fun j st hj => CSh_sm (g5 j st hj) (fun x hx => k2 x ?_) (Nat.le_refl _)⟩
    have hjl : j < hs.length := by
      rcases Nat.lt_or_ge j hs.length with c | c
      · exact c
      · rw [List.getElem?_eq_none c] at hj; cases hj
    omega) k1 (fun x hx => k2 x (by omega))
  simp (disch := omega) only [e9_13, true_or, m_psh_s, m_psh_n, m_kl_i, m_kl_f, m_kl_r, m_kl_n, m_kl_j, m_kl_l, m_kl_d, c_i, c_f, c_r, c_n, List.length_nil, List.length_cons, true_and, and_true, Nat.reduceAdd, Nat.reduceLeDiff, Nat.reduceSub, Nat.reduceEqDiff, Nat.reduceLT, ge_iff_le, gt_iff_lt, n_lit, m_in, m_nar0, m_nar1, and_self, not_false_eq_true, not_true_eq_false, ne_eq, reduceIte, ite_self, Nat.reduceMul, Nat.reduceDiv, Nat.reduceMod, Nat.reducePow, Nat.zero_add, Nat.add_zero, Nat.one_mul, Nat.mul_one, n_in, n_min, n_clamp, n_eq_t, n_eq_f, n_eq, n_le_t, n_le_f, n_le, n_lt_t, n_lt_f, n_lt, n_sub0, n_sublt, n_suble, n_negsub, m_up_hit, m_up_miss, m_row_hit, m_row_miss, n_eqm, n_meq, n_meqm, n_ltm, n_lem, n_mlt, n_mle, n_sub, n_div, n_and1, n_shl, n_shr, n_inc, n_mul, n_rem, z_lt, z_le, z_nlt, z_nle, Nat.not_lt_zero, Nat.le_zero_eq, Nat.zero_le, if_true, if_false]
  exact key
def q_rec (hs : List St) (st : St) : List St := (if hs.length = 6 then hs.drop 1 else hs) ++ [st]
theorem q_rec_len {hs : List St} {st : St} (h : hs.length ≤ 6) : (q_rec hs st).length = if hs.length = 6 then 6 else hs.length + 1 := by
  unfold q_rec
  split
  · rename_i e; rw [List.length_append, List.length_drop, e]; rfl
  · rw [List.length_append]; rfl
theorem HG_keep {st : St} (h : HG lay I F R n nx hs) (ht : NT lay I F R n nx st) (h36 : Same (fun x => x ≠ 36) I F R I' F R) (e1 : I' 36 1 = nI ((nx + 1) % 7)) (e2 : I' 36 2 = nI (if hs.length = 6 then 6 else hs.length + 1)) : HG lay I' F R n ((nx + 1) % 7) (q_rec hs st) := by
  obtain ⟨g1, g2, g3, g4, g5⟩ := h
  refine ⟨by rw [q_rec_len g4]; exact e2, e1, Nat.mod_lt _ (by decide), by rw [q_rec_len g4]; split <;> omega, fun j su hj => ?_⟩
  refine CSh_sm (I := I) (F := F) (R := R) (n := n) ?_ (fun x hx => h36 x (by omega)) (Nat.le_refl _)
  rw [q_rec_len g4]
  unfold q_rec at hj
  by_cases c : hs.length = 6
  · rw [if_pos c] at hj ⊢
    have hl : (hs.drop 1).length = 5 := by rw [List.length_drop, c]
    rw [List.getElem?_append] at hj
    split at hj
    · rename_i hj5
      rw [List.getElem?_drop] at hj
      have := g5 (1 + j) su hj
      rw [c] at this
      rw [show ((nx + 1) % 7 + 7 - 6 + j) % 7 = (nx + 7 - 6 + (1 + j)) % 7 by omega]
      exact this
    · rename_i hj5
      have hj6 : j = 5 := by
        rcases Nat.lt_or_ge (j - (hs.drop 1).length) [st].length with c2 | c2
        · simp only [List.length_singleton] at c2
          omega
        · rw [List.getElem?_eq_none c2] at hj; cases hj
      subst hj6
      rw [hl] at hj
      cases hj
      rw [show ((nx + 1) % 7 + 7 - 6 + 5) % 7 = nx by omega]
      exact ht
  · rw [if_neg c] at hj ⊢
    rw [List.getElem?_append] at hj
    split at hj
    · rename_i hj5
      have := g5 j su hj
      rw [show ((nx + 1) % 7 + 7 - (hs.length + 1) + j) % 7 = (nx + 7 - hs.length + j) % 7 by omega]
      exact this
    · rename_i hj5
      have hj6 : j = hs.length := by
        rcases Nat.lt_or_ge (j - hs.length) [st].length with c2 | c2
        · simp only [List.length_singleton] at c2
          omega
        · rw [List.getElem?_eq_none c2] at hj; cases hj
      subst hj6
      rw [Nat.sub_self] at hj
      cases hj
      rw [show ((nx + 1) % 7 + 7 - (hs.length + 1) + hs.length) % 7 = nx by omega]
      exact ht
theorem s_keep {st : St} (h : XS lay I F R n S sp hi nx hs pl pc sv) (ht : NT lay I F R n nx st) (hd : 1 ≤ d) (hQ : ∀ I', XS lay I' F R n S sp hi ((nx + 1) % 7) (q_rec hs st) pl pc sv → FrM n I F R I' F R → Q none I' F R n) : Ev lay d 14 0 [.ref 36] [] I F R n Q := by
  have hX := h
  obtain ⟨h1, h2, h3, h4, h5, h6, h7⟩ := h
  obtain ⟨g1, g2, g3, g4, g5⟩ := h4
  obtain ⟨-, -, -, -, ⟨x1, x2, x3, x4⟩, -⟩ := h1
  have mk : ∀ v : Nat, v = (if hs.length = 6 then 6 else hs.length + 1) → Q none (m_up (m_up I 36 1 (nI ((nx + 1) % 7))) 36 2 (nI v)) F R n := by
    intro v hv
    have o36 : Same (fun x => x ≠ 36) I F R (m_up (m_up I 36 1 (nI ((nx + 1) % 7))) 36 2 (nI v)) F R := fun x hx => ⟨by rw [m_up_off hx, m_up_off hx], rfl, rfl⟩
    refine hQ _ ?_ (fun x hx => o36 x (by omega))
    obtain ⟨h1, h2, h3, h4, h5, h6, h7⟩ := hX
    exact ⟨h1, h2, CSh_sm h3 (fun x hx => o36 x (by omega)) (Nat.le_refl _), HG_keep h4 ht o36 (by rw [m_up_miss (by omega), m_up_at]) (by rw [m_up_at, hv]), PD_sm h5 (o36 33 (by omega)).1 (o36 34 (by omega)).1, SV_sm h6 (fun x hx => o36 x (by omega)) (Nat.le_refl _), h7⟩
  have er : nx + 1 - (nx + 1) / 7 * 7 = (nx + 1) % 7 := n_rem _ _
  by_cases c : hs.length = 6
  · rw [if_pos c] at mk
    rw [c] at g1
    have key := mk 6 rfl
    simp (disch := omega) only [e14_0, e14_0N, e14_1, e14_1N, e14_2, e14_5, e14_6, e14_7, e14_9, e14_10, e14_13, e14_13N, e14_14, e14_14N, e14_15, e14_18, e14_19, e14_20, e14_22, e14_25, e14_28, true_or, m_psh_s, m_psh_n, m_kl_i, m_kl_f, m_kl_r, m_kl_n, m_kl_j, m_kl_l, m_kl_d, c_i, c_f, c_r, c_n, List.length_nil, List.length_cons, true_and, and_true, Nat.reduceAdd, Nat.reduceLeDiff, Nat.reduceSub, Nat.reduceEqDiff, Nat.reduceLT, ge_iff_le, gt_iff_lt, n_lit, m_in, m_nar0, m_nar1, and_self, not_false_eq_true, not_true_eq_false, ne_eq, reduceIte, ite_self, Nat.reduceMul, Nat.reduceDiv, Nat.reduceMod, Nat.reducePow, Nat.zero_add, Nat.add_zero, Nat.one_mul, Nat.mul_one, n_in, n_min, n_clamp, n_eq_t, n_eq_f, n_eq, n_le_t, n_le_f, n_le, n_lt_t, n_lt_f, n_lt, n_sub0, n_sublt, n_suble, n_negsub, m_up_hit, m_up_miss, m_row_hit, m_row_miss, n_eqm, n_meq, n_meqm, n_ltm, n_lem, n_mlt, n_mle, n_sub, n_div, n_and1, n_shl, n_shr, n_inc, n_mul, n_rem, z_lt, z_le, z_nlt, z_nle, Nat.not_lt_zero, Nat.le_zero_eq, Nat.zero_le, if_true, if_false, x1, g1, g2]
    exact key
  · rw [if_neg c] at mk
    have key := mk _ rfl
    simp (disch := omega) only [e14_0, e14_0N, e14_1, e14_1N, e14_2, e14_5, e14_6, e14_7, e14_9, e14_10, e14_13, e14_13N, e14_14, e14_14N, e14_15, e14_18, e14_19, e14_20, e14_22, e14_25, e14_28, true_or, m_psh_s, m_psh_n, m_kl_i, m_kl_f, m_kl_r, m_kl_n, m_kl_j, m_kl_l, m_kl_d, c_i, c_f, c_r, c_n, List.length_nil, List.length_cons, true_and, and_true, Nat.reduceAdd, Nat.reduceLeDiff, Nat.reduceSub, Nat.reduceEqDiff, Nat.reduceLT, ge_iff_le, gt_iff_lt, n_lit, m_in, m_nar0, m_nar1, and_self, not_false_eq_true, not_true_eq_false, ne_eq, reduceIte, ite_self, Nat.reduceMul, Nat.reduceDiv, Nat.reduceMod, Nat.reducePow, Nat.zero_add, Nat.add_zero, Nat.one_mul, Nat.mul_one, n_in, n_min, n_clamp, n_eq_t, n_eq_f, n_eq, n_le_t, n_le_f, n_le, n_lt_t, n_lt_f, n_lt, n_sub0, n_sublt, n_suble, n_negsub, m_up_hit, m_up_miss, m_row_hit, m_row_miss, n_eqm, n_meq, n_meqm, n_ltm, n_lem, n_mlt, n_mle, n_sub, n_div, n_and1, n_shl, n_shr, n_inc, n_mul, n_rem, z_lt, z_le, z_nlt, z_nle, Nat.not_lt_zero, Nat.le_zero_eq, Nat.zero_le, if_true, if_false, x1, g1, g2]
    exact key
end HIST
