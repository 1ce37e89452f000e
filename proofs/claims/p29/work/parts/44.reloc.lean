-- the machine's runs under another naming of addresses
section RELOC
def vs (σ : Nat → Nat) (v : Value) : Value := match v with
  | .int x => .int x
  | .long x => .long x
  | .float x => .float x
  | .double x => .double x
  | .ref a => .ref (σ a)
  | .null => .null
  | .retAddr x => .retAddr x
variable {σ τ : Nat → Nat}
theorem vs_i (x : Int32) : vs σ (.int x) = .int x := rfl
theorem vs_l (x : Int64) : vs σ (.long x) = .long x := rfl
theorem vs_f (x : UInt32) : vs σ (.float x) = .float x := rfl
theorem vs_d (x : UInt64) : vs σ (.double x) = .double x := rfl
theorem vs_r (x : Nat) : vs σ (.ref x) = .ref (σ x) := rfl
theorem vs_n : vs σ .null = .null := rfl
theorem vs_j : vs σ m_j = m_j := rfl
theorem vs_c (v : Value) : (vs σ v).category = v.category := by cases v <;> rfl
theorem vs_kl (v : Value) : m_kl (vs σ v) = vs σ (m_kl v) := by cases v <;> rfl
theorem vs_vs (h : ∀ a, τ (σ a) = a) (v : Value) : vs τ (vs σ v) = v := by
  cases v <;> simp only [vs, h]
def rI {α : Type} (τ : Nat → Nat) (I : Nat → Nat → α) : Nat → Nat → α := fun a => I (τ a)
def rR (σ τ : Nat → Nat) (R : mR) : mR := fun a k => σ (R (τ a) k)
/-- what names stand for, and where new ones come from -/
def RH (σ τ : Nat → Nat) (lv lay : mL) (ν : Nat → Nat) (m0 : Nat) : Prop := (∀ a, τ (σ a) = a) ∧ (∀ a, σ (τ a) = a) ∧ σ 0 = 0 ∧ (∀ a, lv a = lay (σ a) ∨ lv a = (5, 1)) ∧ ∀ m, m0 ≤ m → lv m ≠ (5, 1) → ν m = σ m ∧ ν (m + 1) = ν m + 1
def rQ (σ τ : Nat → Nat) (ν : Nat → Nat) (m0 : Nat) (Q : mP) : mP := fun v I F R n => ∃ m, m0 ≤ m ∧ n = ν m ∧ Q (v.map (vs τ)) (rI σ I) (rI σ F) (rR τ σ R) m
def rX (σ τ : Nat → Nat) (lay : mL) (ν : Nat → Nat) (m0 : Nat) : mX := fun d μ pc ls st I F R n Q => m0 ≤ n → Ev lay d μ pc (ls.map (vs σ)) (st.map (vs σ)) (rI τ I) (rI τ F) (rR σ τ R) (ν n) (rQ σ τ ν m0 Q)
variable {lv lay : mL} {ν : Nat → Nat} {m0 : Nat}
theorem rI_I (h : ∀ a, τ (σ a) = a) {α : Type} (I : Nat → Nat → α) : rI σ (rI τ I) = I := by
  funext a
  simp only [rI, h]
theorem rR_R (h : ∀ a, τ (σ a) = a) (R : mR) : rR τ σ (rR σ τ R) = R := by
  funext a k
  simp only [rR, h]
theorem rI_at (h : ∀ a, τ (σ a) = a) {α : Type} (I : Nat → Nat → α) (a : Nat) : rI τ I (σ a) = I a := by simp only [rI, h]
theorem rR_at (h : ∀ a, τ (σ a) = a) (R : mR) (a k : Nat) : rR σ τ R (σ a) k = σ (R a k) := by simp only [rR, h]
theorem s_eq (h : ∀ a, τ (σ a) = a) (h2 : ∀ a, σ (τ a) = a) {a b : Nat} : τ b = a ↔ b = σ a := ⟨fun e => by rw [← e, h2], fun e => by rw [e, h]⟩
theorem rI_up (h : ∀ a, τ (σ a) = a) (h2 : ∀ a, σ (τ a) = a) {α : Type} (I : Nat → Nat → α) (a k : Nat) (x : α) : m_up (rI τ I) (σ a) k x = rI τ (m_up I a k x) := by
  funext b j
  simp only [m_up, rI, s_eq h h2]
theorem rR_up (h : ∀ a, τ (σ a) = a) (h2 : ∀ a, σ (τ a) = a) (R : mR) (a k x : Nat) : m_up (rR σ τ R) (σ a) k (σ x) = rR σ τ (m_up R a k x) := by
  funext b j
  simp only [m_up, rR, s_eq h h2]
  split <;> rfl
theorem rI_row (h : ∀ a, τ (σ a) = a) (h2 : ∀ a, σ (τ a) = a) {α : Type} (I : Nat → Nat → α) (a : Nat) (r : Nat → α) : m_row (rI τ I) (σ a) r = rI τ (m_row I a r) := by
  funext b j
  simp only [m_row, rI, s_eq h h2]
theorem rR_row (h : ∀ a, τ (σ a) = a) (h2 : ∀ a, σ (τ a) = a) (h0 : σ 0 = 0) (R : mR) (a : Nat) : m_row (rR σ τ R) (σ a) (fun _ => 0) = rR σ τ (m_row R a (fun _ => 0)) := by
  funext b j
  simp only [m_row, rR, s_eq h h2]
  split
  · exact h0.symm
  · rfl
theorem s_ne (h : ∀ a, τ (σ a) = a) (h0 : σ 0 = 0) {a : Nat} (ha : a ≠ 0) : σ a ≠ 0 := fun e => ha (by rw [← h a, e, ← h0, h, h0])
theorem vs_rv (h : ∀ a, τ (σ a) = a) (h0 : σ 0 = 0) (r : Nat) : m_rv (σ r) = vs σ (m_rv r) := by
  cases r with
  | zero => rw [h0]; rfl
  | succ r =>
    have := s_ne h h0 (Nat.succ_ne_zero r)
    rw [m_rv_p (Nat.pos_of_ne_zero this)]
    rfl
theorem rl_md : ∀ {ls : List Value} {j : Nat}, (ls.map (vs σ)).modify j m_kl = (ls.modify j m_kl).map (vs σ)
  | [], j => by cases j <;> rfl
  | v :: r, 0 => by
    rw [List.map_cons, List.modify_zero_cons, List.modify_zero_cons, List.map_cons, vs_kl]
  | v :: r, j + 1 => by
    rw [List.map_cons, List.modify_succ_cons, List.modify_succ_cons, List.map_cons, rl_md]
theorem rl_s1 {ls : List Value} {i : Nat} {v : Value} : m_s1 (ls.map (vs σ)) i (vs σ v) = (m_s1 ls i v).map (vs σ) := by
  unfold m_s1
  rw [List.map_set]
  congr 1
  cases i with
  | zero => rfl
  | succ j =>
    simp only [m_kil]
    exact rl_md
theorem rl_s2 {ls : List Value} {i : Nat} {v : Value} : m_s2 (ls.map (vs σ)) i (vs σ v) = (m_s2 ls i v).map (vs σ) := by
  have h : m_s2 (ls.map (vs σ)) i (vs σ v) = (m_s1 (ls.map (vs σ)) i (vs σ v)).set (i + 1) m_j := rfl
  have h2 : m_s2 ls i v = (m_s1 ls i v).set (i + 1) m_j := rfl
  rw [h, h2, rl_s1, List.map_set]
  rfl
theorem rl_sl : ∀ as : List Value, m_sl (as.map (vs σ)) = (m_sl as).map (vs σ)
  | [] => rfl
  | v :: r => by
    have ih := rl_sl r
    cases v <;> simp only [List.map_cons, vs, m_sl, ih] <;> rfl
theorem rl_hb {a k : Nat} {as : List Value} (hb : Nat.ble (m_sl (.ref a :: as)).length k = true) : Nat.ble (m_sl (.ref (σ a) :: as.map (vs σ))).length k = true := by
  have e := rl_sl (σ := σ) (.ref a :: as)
  rw [List.map_cons, vs_r] at e
  rw [e, List.length_map]
  exact hb
theorem rl_hb0 {k : Nat} {as : List Value} (hb : Nat.ble (m_sl as).length k = true) : Nat.ble (m_sl (as.map (vs σ))).length k = true := by
  rw [rl_sl, List.length_map]
  exact hb
theorem rl_ent {as : List Value} {ml : Nat} : m_ent (as.map (vs σ)) ml = (m_ent as ml).map (vs σ) := by
  unfold m_ent
  rw [rl_sl, List.map_append, List.length_map, List.map_replicate, vs_j]
theorem rl_pop : ∀ (n : Nat) (acc st : List Value), m_pop n (acc.map (vs σ)) (st.map (vs σ)) = (m_pop n acc st).map fun q => (q.1.map (vs σ), q.2.map (vs σ))
  | 0, _, _ => rfl
  | n + 1, acc, [] => rfl
  | n + 1, acc, v :: st => by
    have ih := rl_pop n (v :: acc) st
    simp only [List.map_cons, m_pop] at ih ⊢
    exact ih
theorem rl_pop' {n : Nat} {st as r : List Value} (h : m_pop n [] st = some (as, r)) : m_pop n [] (st.map (vs σ)) = some (as.map (vs σ), r.map (vs σ)) := by
  have := rl_pop (σ := σ) n [] st
  rw [h] at this
  exact this
theorem rl_cat {st : List Value} (h : st.length ≤ 4 ∨ (st.map fun v => v.category).sum ≤ 8) : (st.map (vs σ)).length ≤ 4 ∨ ((st.map (vs σ)).map fun v => v.category).sum ≤ 8 := by
  rw [List.length_map, List.map_map]
  have : (fun v : Value => v.category) ∘ vs σ = fun v => v.category := funext fun v => vs_c v
  rw [this]
  exact h
theorem rl_k (h : RH σ τ lv lay ν m0) {a x : Nat} (e : lv a = (x, 0)) : lay (σ a) = (x, 0) := by
  rcases h.2.2.2.1 a with h1 | h1
  · rw [← h1, e]
  · rw [h1] at e
    cases e
theorem rl_in (h : RH σ τ lv lay ν m0) {a kd : Nat} (hk : (lv a).1 = kd) (h5 : kd ≠ 5) : lay (σ a) = lv a := by
  rcases h.2.2.2.1 a with h1 | h1
  · exact h1.symm
  · rw [h1] at hk
    exact absurd hk.symm h5
theorem rl_m (h : RH σ τ lv lay ν m0) {a kd : Nat} {i : Int32} (hk : m_in lv kd a i) (h5 : kd ≠ 5) : m_in lay kd (σ a) i := by
  unfold m_in at hk ⊢
  rw [rl_in h hk.1 h5]
  exact hk
theorem rl_nw (h : RH σ τ lv lay ν m0) {n : Nat} (hn : m0 ≤ n) {q : Nat × Nat} (e : lv n = q) (hq : q ≠ (5, 1)) : ν n = σ n ∧ ν (n + 1) = σ n + 1 ∧ lay (σ n) = q := by
  obtain ⟨h1, h2⟩ := h.2.2.2.2 n hn (by rw [e]; exact hq)
  refine ⟨h1, by rw [h2, h1], ?_⟩
  rcases h.2.2.2.1 n with h3 | h3
  · rw [← h3, e]
  · rw [h3] at e; exact absurd e.symm hq
section RLR
variable {d μ pc pc' n n' : Nat} {ls ls' st st' : List Value} {I I' : mI} {F F' : mF} {R R' : mR} {Q : mP} {ins : Instr} {c : Prop}
theorem rl_n (hi : m_cd μ pc = ins) (hn : m0 ≤ n') (k : rX σ τ lay ν m0 d μ pc' ls' st' I' F' R' n' Q) (e : m_step lay d μ ins pc (ls.map (vs σ)) (st.map (vs σ)) (rI τ I) (rI τ F) (rR σ τ R) (ν n) = some (c, .inl (pc', ls'.map (vs σ), st'.map (vs σ), rI τ I', rI τ F', rR σ τ R', ν n'))) (hc : c) : Ev lay d μ pc (ls.map (vs σ)) (st.map (vs σ)) (rI τ I) (rI τ F) (rR σ τ R) (ν n) (rQ σ τ ν m0 Q) := by
  rw [ev_iff, hi, e]
  exact ⟨hc, k hn⟩
theorem rl_v (h : RH σ τ lv lay ν m0) (hi : m_cd μ pc = ins) (hn : m0 ≤ n) {v : Option Value} (k : Q v I F R n) (e : m_step lay d μ ins pc (ls.map (vs σ)) (st.map (vs σ)) (rI τ I) (rI τ F) (rR σ τ R) (ν n) = some (c, .inr (.inr (v.map (vs σ))))) (hc : c) : Ev lay d μ pc (ls.map (vs σ)) (st.map (vs σ)) (rI τ I) (rI τ F) (rR σ τ R) (ν n) (rQ σ τ ν m0 Q) := by
  rw [ev_iff, hi, e]
  refine ⟨hc, n, hn, rfl, ?_⟩
  rw [rI_I h.1, rI_I h.1, rR_R h.1]
  have : (v.map (vs σ)).map (vs τ) = v := by
    cases v with
    | none => rfl
    | some v => exact congrArg some (vs_vs h.1 v)
  rw [this]
  exact k
theorem rl_c (h : RH σ τ lv lay ν m0) (hi : m_cd μ pc = ins) (hn : m0 ≤ n) {μ' : Nat} {as r : List Value} (k : rX σ τ lay ν m0 (d - 1) μ' 0 (m_ent as (m_ml μ')) [] I F R n (fun v I F R n => rX σ τ lay ν m0 d μ pc' ls (m_psh v r) I F R n Q)) (e : m_step lay d μ ins pc (ls.map (vs σ)) (st.map (vs σ)) (rI τ I) (rI τ F) (rR σ τ R) (ν n) = some (c, .inr (.inl (μ', as.map (vs σ), pc', r.map (vs σ))))) (hc : c) : Ev lay d μ pc (ls.map (vs σ)) (st.map (vs σ)) (rI τ I) (rI τ F) (rR σ τ R) (ν n) (rQ σ τ ν m0 Q) := by
  rw [ev_iff, hi, e]
  refine ⟨hc, ?_⟩
  have k2 := k hn
  rw [← rl_ent] at k2
  refine ev_to k2 ?_
  rintro v I1 F1 R1 n1 ⟨m, h1, rfl, h3⟩
  have h4 := h3 h1
  rw [rI_I h.2.1, rI_I h.2.1, rR_R h.2.1] at h4
  have : (m_psh (v.map (vs τ)) r).map (vs σ) = m_psh v (r.map (vs σ)) := by
    cases v with
    | none => rfl
    | some v => simp only [Option.map_some, m_psh, List.map_cons, vs_vs h.2.1 v]
  rw [this] at h4
  exact h4
theorem rl_mono : m_mono (rX σ τ lay ν m0) := fun d μ pc ls st I F R n Q Q' h k hn => ev_to (k hn) fun _ _ _ _ _ ⟨m, h1, h2, h3⟩ => ⟨m, h1, h2, h _ _ _ _ _ h3⟩

theorem rl_iadd (h : RH σ τ lv lay ν m0) (hn : m0 ≤ n) (hi : m_cd μ pc = .iadd) (hk : m_do (rX σ τ lay ν m0) d μ ls I F R n Q (m_step lv d μ (.iadd) pc ls st I F R n)) : Ev lay d μ pc (ls.map (vs σ)) (st.map (vs σ)) (rI τ I) (rI τ F) (rR σ τ R) (ν n) (rQ σ τ ν m0 Q) := by
  simp only [m_step] at hk
  split at hk
  · exact rl_n hi hn hk.2 rfl hk.1
  · exact False.elim hk
theorem rl_isub (h : RH σ τ lv lay ν m0) (hn : m0 ≤ n) (hi : m_cd μ pc = .isub) (hk : m_do (rX σ τ lay ν m0) d μ ls I F R n Q (m_step lv d μ (.isub) pc ls st I F R n)) : Ev lay d μ pc (ls.map (vs σ)) (st.map (vs σ)) (rI τ I) (rI τ F) (rR σ τ R) (ν n) (rQ σ τ ν m0 Q) := by
  simp only [m_step] at hk
  split at hk
  · exact rl_n hi hn hk.2 rfl hk.1
  · exact False.elim hk
theorem rl_imul (h : RH σ τ lv lay ν m0) (hn : m0 ≤ n) (hi : m_cd μ pc = .imul) (hk : m_do (rX σ τ lay ν m0) d μ ls I F R n Q (m_step lv d μ (.imul) pc ls st I F R n)) : Ev lay d μ pc (ls.map (vs σ)) (st.map (vs σ)) (rI τ I) (rI τ F) (rR σ τ R) (ν n) (rQ σ τ ν m0 Q) := by
  simp only [m_step] at hk
  split at hk
  · exact rl_n hi hn hk.2 rfl hk.1
  · exact False.elim hk
theorem rl_iand (h : RH σ τ lv lay ν m0) (hn : m0 ≤ n) (hi : m_cd μ pc = .iand) (hk : m_do (rX σ τ lay ν m0) d μ ls I F R n Q (m_step lv d μ (.iand) pc ls st I F R n)) : Ev lay d μ pc (ls.map (vs σ)) (st.map (vs σ)) (rI τ I) (rI τ F) (rR σ τ R) (ν n) (rQ σ τ ν m0 Q) := by
  simp only [m_step] at hk
  split at hk
  · exact rl_n hi hn hk.2 rfl hk.1
  · exact False.elim hk
theorem rl_ior (h : RH σ τ lv lay ν m0) (hn : m0 ≤ n) (hi : m_cd μ pc = .ior) (hk : m_do (rX σ τ lay ν m0) d μ ls I F R n Q (m_step lv d μ (.ior) pc ls st I F R n)) : Ev lay d μ pc (ls.map (vs σ)) (st.map (vs σ)) (rI τ I) (rI τ F) (rR σ τ R) (ν n) (rQ σ τ ν m0 Q) := by
  simp only [m_step] at hk
  split at hk
  · exact rl_n hi hn hk.2 rfl hk.1
  · exact False.elim hk
theorem rl_ixor (h : RH σ τ lv lay ν m0) (hn : m0 ≤ n) (hi : m_cd μ pc = .ixor) (hk : m_do (rX σ τ lay ν m0) d μ ls I F R n Q (m_step lv d μ (.ixor) pc ls st I F R n)) : Ev lay d μ pc (ls.map (vs σ)) (st.map (vs σ)) (rI τ I) (rI τ F) (rR σ τ R) (ν n) (rQ σ τ ν m0 Q) := by
  simp only [m_step] at hk
  split at hk
  · exact rl_n hi hn hk.2 rfl hk.1
  · exact False.elim hk
theorem rl_ishl (h : RH σ τ lv lay ν m0) (hn : m0 ≤ n) (hi : m_cd μ pc = .ishl) (hk : m_do (rX σ τ lay ν m0) d μ ls I F R n Q (m_step lv d μ (.ishl) pc ls st I F R n)) : Ev lay d μ pc (ls.map (vs σ)) (st.map (vs σ)) (rI τ I) (rI τ F) (rR σ τ R) (ν n) (rQ σ τ ν m0 Q) := by
  simp only [m_step] at hk
  split at hk
  · exact rl_n hi hn hk.2 rfl hk.1
  · exact False.elim hk
theorem rl_ishr (h : RH σ τ lv lay ν m0) (hn : m0 ≤ n) (hi : m_cd μ pc = .ishr) (hk : m_do (rX σ τ lay ν m0) d μ ls I F R n Q (m_step lv d μ (.ishr) pc ls st I F R n)) : Ev lay d μ pc (ls.map (vs σ)) (st.map (vs σ)) (rI τ I) (rI τ F) (rR σ τ R) (ν n) (rQ σ τ ν m0 Q) := by
  simp only [m_step] at hk
  split at hk
  · exact rl_n hi hn hk.2 rfl hk.1
  · exact False.elim hk
theorem rl_iushr (h : RH σ τ lv lay ν m0) (hn : m0 ≤ n) (hi : m_cd μ pc = .iushr) (hk : m_do (rX σ τ lay ν m0) d μ ls I F R n Q (m_step lv d μ (.iushr) pc ls st I F R n)) : Ev lay d μ pc (ls.map (vs σ)) (st.map (vs σ)) (rI τ I) (rI τ F) (rR σ τ R) (ν n) (rQ σ τ ν m0 Q) := by
  simp only [m_step] at hk
  split at hk
  · exact rl_n hi hn hk.2 rfl hk.1
  · exact False.elim hk
theorem rl_idiv (h : RH σ τ lv lay ν m0) (hn : m0 ≤ n) (hi : m_cd μ pc = .idiv) (hk : m_do (rX σ τ lay ν m0) d μ ls I F R n Q (m_step lv d μ (.idiv) pc ls st I F R n)) : Ev lay d μ pc (ls.map (vs σ)) (st.map (vs σ)) (rI τ I) (rI τ F) (rR σ τ R) (ν n) (rQ σ τ ν m0 Q) := by
  simp only [m_step] at hk
  split at hk
  · exact rl_n hi hn hk.2 rfl hk.1
  · exact False.elim hk
theorem rl_irem (h : RH σ τ lv lay ν m0) (hn : m0 ≤ n) (hi : m_cd μ pc = .irem) (hk : m_do (rX σ τ lay ν m0) d μ ls I F R n Q (m_step lv d μ (.irem) pc ls st I F R n)) : Ev lay d μ pc (ls.map (vs σ)) (st.map (vs σ)) (rI τ I) (rI τ F) (rR σ τ R) (ν n) (rQ σ τ ν m0 Q) := by
  simp only [m_step] at hk
  split at hk
  · exact rl_n hi hn hk.2 rfl hk.1
  · exact False.elim hk
theorem rl_ineg (h : RH σ τ lv lay ν m0) (hn : m0 ≤ n) (hi : m_cd μ pc = .ineg) (hk : m_do (rX σ τ lay ν m0) d μ ls I F R n Q (m_step lv d μ (.ineg) pc ls st I F R n)) : Ev lay d μ pc (ls.map (vs σ)) (st.map (vs σ)) (rI τ I) (rI τ F) (rR σ τ R) (ν n) (rQ σ τ ν m0 Q) := by
  simp only [m_step] at hk
  split at hk
  · exact rl_n hi hn hk.2 rfl hk.1
  · exact False.elim hk
theorem rl_ladd (h : RH σ τ lv lay ν m0) (hn : m0 ≤ n) (hi : m_cd μ pc = .ladd) (hk : m_do (rX σ τ lay ν m0) d μ ls I F R n Q (m_step lv d μ (.ladd) pc ls st I F R n)) : Ev lay d μ pc (ls.map (vs σ)) (st.map (vs σ)) (rI τ I) (rI τ F) (rR σ τ R) (ν n) (rQ σ τ ν m0 Q) := by
  simp only [m_step] at hk
  split at hk
  · exact rl_n hi hn hk.2 rfl hk.1
  · exact False.elim hk
theorem rl_lsub (h : RH σ τ lv lay ν m0) (hn : m0 ≤ n) (hi : m_cd μ pc = .lsub) (hk : m_do (rX σ τ lay ν m0) d μ ls I F R n Q (m_step lv d μ (.lsub) pc ls st I F R n)) : Ev lay d μ pc (ls.map (vs σ)) (st.map (vs σ)) (rI τ I) (rI τ F) (rR σ τ R) (ν n) (rQ σ τ ν m0 Q) := by
  simp only [m_step] at hk
  split at hk
  · exact rl_n hi hn hk.2 rfl hk.1
  · exact False.elim hk
theorem rl_lmul (h : RH σ τ lv lay ν m0) (hn : m0 ≤ n) (hi : m_cd μ pc = .lmul) (hk : m_do (rX σ τ lay ν m0) d μ ls I F R n Q (m_step lv d μ (.lmul) pc ls st I F R n)) : Ev lay d μ pc (ls.map (vs σ)) (st.map (vs σ)) (rI τ I) (rI τ F) (rR σ τ R) (ν n) (rQ σ τ ν m0 Q) := by
  simp only [m_step] at hk
  split at hk
  · exact rl_n hi hn hk.2 rfl hk.1
  · exact False.elim hk
theorem rl_land (h : RH σ τ lv lay ν m0) (hn : m0 ≤ n) (hi : m_cd μ pc = .land) (hk : m_do (rX σ τ lay ν m0) d μ ls I F R n Q (m_step lv d μ (.land) pc ls st I F R n)) : Ev lay d μ pc (ls.map (vs σ)) (st.map (vs σ)) (rI τ I) (rI τ F) (rR σ τ R) (ν n) (rQ σ τ ν m0 Q) := by
  simp only [m_step] at hk
  split at hk
  · exact rl_n hi hn hk.2 rfl hk.1
  · exact False.elim hk
theorem rl_lor (h : RH σ τ lv lay ν m0) (hn : m0 ≤ n) (hi : m_cd μ pc = .lor) (hk : m_do (rX σ τ lay ν m0) d μ ls I F R n Q (m_step lv d μ (.lor) pc ls st I F R n)) : Ev lay d μ pc (ls.map (vs σ)) (st.map (vs σ)) (rI τ I) (rI τ F) (rR σ τ R) (ν n) (rQ σ τ ν m0 Q) := by
  simp only [m_step] at hk
  split at hk
  · exact rl_n hi hn hk.2 rfl hk.1
  · exact False.elim hk
theorem rl_lshl (h : RH σ τ lv lay ν m0) (hn : m0 ≤ n) (hi : m_cd μ pc = .lshl) (hk : m_do (rX σ τ lay ν m0) d μ ls I F R n Q (m_step lv d μ (.lshl) pc ls st I F R n)) : Ev lay d μ pc (ls.map (vs σ)) (st.map (vs σ)) (rI τ I) (rI τ F) (rR σ τ R) (ν n) (rQ σ τ ν m0 Q) := by
  simp only [m_step] at hk
  split at hk
  · exact rl_n hi hn hk.2 rfl hk.1
  · exact False.elim hk
theorem rl_lshr (h : RH σ τ lv lay ν m0) (hn : m0 ≤ n) (hi : m_cd μ pc = .lshr) (hk : m_do (rX σ τ lay ν m0) d μ ls I F R n Q (m_step lv d μ (.lshr) pc ls st I F R n)) : Ev lay d μ pc (ls.map (vs σ)) (st.map (vs σ)) (rI τ I) (rI τ F) (rR σ τ R) (ν n) (rQ σ τ ν m0 Q) := by
  simp only [m_step] at hk
  split at hk
  · exact rl_n hi hn hk.2 rfl hk.1
  · exact False.elim hk
theorem rl_lushr (h : RH σ τ lv lay ν m0) (hn : m0 ≤ n) (hi : m_cd μ pc = .lushr) (hk : m_do (rX σ τ lay ν m0) d μ ls I F R n Q (m_step lv d μ (.lushr) pc ls st I F R n)) : Ev lay d μ pc (ls.map (vs σ)) (st.map (vs σ)) (rI τ I) (rI τ F) (rR σ τ R) (ν n) (rQ σ τ ν m0 Q) := by
  simp only [m_step] at hk
  split at hk
  · exact rl_n hi hn hk.2 rfl hk.1
  · exact False.elim hk
theorem rl_lcmp (h : RH σ τ lv lay ν m0) (hn : m0 ≤ n) (hi : m_cd μ pc = .lcmp) (hk : m_do (rX σ τ lay ν m0) d μ ls I F R n Q (m_step lv d μ (.lcmp) pc ls st I F R n)) : Ev lay d μ pc (ls.map (vs σ)) (st.map (vs σ)) (rI τ I) (rI τ F) (rR σ τ R) (ν n) (rQ σ τ ν m0 Q) := by
  simp only [m_step] at hk
  split at hk
  · exact rl_n hi hn hk.2 rfl hk.1
  · exact False.elim hk
theorem rl_i2l (h : RH σ τ lv lay ν m0) (hn : m0 ≤ n) (hi : m_cd μ pc = .i2l) (hk : m_do (rX σ τ lay ν m0) d μ ls I F R n Q (m_step lv d μ (.i2l) pc ls st I F R n)) : Ev lay d μ pc (ls.map (vs σ)) (st.map (vs σ)) (rI τ I) (rI τ F) (rR σ τ R) (ν n) (rQ σ τ ν m0 Q) := by
  simp only [m_step] at hk
  split at hk
  · exact rl_n hi hn hk.2 rfl hk.1
  · exact False.elim hk
theorem rl_l2i (h : RH σ τ lv lay ν m0) (hn : m0 ≤ n) (hi : m_cd μ pc = .l2i) (hk : m_do (rX σ τ lay ν m0) d μ ls I F R n Q (m_step lv d μ (.l2i) pc ls st I F R n)) : Ev lay d μ pc (ls.map (vs σ)) (st.map (vs σ)) (rI τ I) (rI τ F) (rR σ τ R) (ν n) (rQ σ τ ν m0 Q) := by
  simp only [m_step] at hk
  split at hk
  · exact rl_n hi hn hk.2 rfl hk.1
  · exact False.elim hk
theorem rl_i2c (h : RH σ τ lv lay ν m0) (hn : m0 ≤ n) (hi : m_cd μ pc = .i2c) (hk : m_do (rX σ τ lay ν m0) d μ ls I F R n Q (m_step lv d μ (.i2c) pc ls st I F R n)) : Ev lay d μ pc (ls.map (vs σ)) (st.map (vs σ)) (rI τ I) (rI τ F) (rR σ τ R) (ν n) (rQ σ τ ν m0 Q) := by
  simp only [m_step] at hk
  split at hk
  · exact rl_n hi hn hk.2 rfl hk.1
  · exact False.elim hk
theorem rl_i2f (h : RH σ τ lv lay ν m0) (hn : m0 ≤ n) (hi : m_cd μ pc = .i2f) (hk : m_do (rX σ τ lay ν m0) d μ ls I F R n Q (m_step lv d μ (.i2f) pc ls st I F R n)) : Ev lay d μ pc (ls.map (vs σ)) (st.map (vs σ)) (rI τ I) (rI τ F) (rR σ τ R) (ν n) (rQ σ τ ν m0 Q) := by
  simp only [m_step] at hk
  split at hk
  · exact rl_n hi hn hk.2 rfl hk.1
  · exact False.elim hk
theorem rl_i2d (h : RH σ τ lv lay ν m0) (hn : m0 ≤ n) (hi : m_cd μ pc = .i2d) (hk : m_do (rX σ τ lay ν m0) d μ ls I F R n Q (m_step lv d μ (.i2d) pc ls st I F R n)) : Ev lay d μ pc (ls.map (vs σ)) (st.map (vs σ)) (rI τ I) (rI τ F) (rR σ τ R) (ν n) (rQ σ τ ν m0 Q) := by
  simp only [m_step] at hk
  split at hk
  · exact rl_n hi hn hk.2 rfl hk.1
  · exact False.elim hk
theorem rl_f2i (h : RH σ τ lv lay ν m0) (hn : m0 ≤ n) (hi : m_cd μ pc = .f2i) (hk : m_do (rX σ τ lay ν m0) d μ ls I F R n Q (m_step lv d μ (.f2i) pc ls st I F R n)) : Ev lay d μ pc (ls.map (vs σ)) (st.map (vs σ)) (rI τ I) (rI τ F) (rR σ τ R) (ν n) (rQ σ τ ν m0 Q) := by
  simp only [m_step] at hk
  split at hk
  · exact rl_n hi hn hk.2 rfl hk.1
  · exact False.elim hk
theorem rl_d2i (h : RH σ τ lv lay ν m0) (hn : m0 ≤ n) (hi : m_cd μ pc = .d2i) (hk : m_do (rX σ τ lay ν m0) d μ ls I F R n Q (m_step lv d μ (.d2i) pc ls st I F R n)) : Ev lay d μ pc (ls.map (vs σ)) (st.map (vs σ)) (rI τ I) (rI τ F) (rR σ τ R) (ν n) (rQ σ τ ν m0 Q) := by
  simp only [m_step] at hk
  split at hk
  · exact rl_n hi hn hk.2 rfl hk.1
  · exact False.elim hk
theorem rl_d2l (h : RH σ τ lv lay ν m0) (hn : m0 ≤ n) (hi : m_cd μ pc = .d2l) (hk : m_do (rX σ τ lay ν m0) d μ ls I F R n Q (m_step lv d μ (.d2l) pc ls st I F R n)) : Ev lay d μ pc (ls.map (vs σ)) (st.map (vs σ)) (rI τ I) (rI τ F) (rR σ τ R) (ν n) (rQ σ τ ν m0 Q) := by
  simp only [m_step] at hk
  split at hk
  · exact rl_n hi hn hk.2 rfl hk.1
  · exact False.elim hk
theorem rl_f2d (h : RH σ τ lv lay ν m0) (hn : m0 ≤ n) (hi : m_cd μ pc = .f2d) (hk : m_do (rX σ τ lay ν m0) d μ ls I F R n Q (m_step lv d μ (.f2d) pc ls st I F R n)) : Ev lay d μ pc (ls.map (vs σ)) (st.map (vs σ)) (rI τ I) (rI τ F) (rR σ τ R) (ν n) (rQ σ τ ν m0 Q) := by
  simp only [m_step] at hk
  split at hk
  · exact rl_n hi hn hk.2 rfl hk.1
  · exact False.elim hk
theorem rl_fadd (h : RH σ τ lv lay ν m0) (hn : m0 ≤ n) (hi : m_cd μ pc = .fadd) (hk : m_do (rX σ τ lay ν m0) d μ ls I F R n Q (m_step lv d μ (.fadd) pc ls st I F R n)) : Ev lay d μ pc (ls.map (vs σ)) (st.map (vs σ)) (rI τ I) (rI τ F) (rR σ τ R) (ν n) (rQ σ τ ν m0 Q) := by
  simp only [m_step] at hk
  split at hk
  · exact rl_n hi hn hk.2 rfl hk.1
  · exact False.elim hk
theorem rl_fsub (h : RH σ τ lv lay ν m0) (hn : m0 ≤ n) (hi : m_cd μ pc = .fsub) (hk : m_do (rX σ τ lay ν m0) d μ ls I F R n Q (m_step lv d μ (.fsub) pc ls st I F R n)) : Ev lay d μ pc (ls.map (vs σ)) (st.map (vs σ)) (rI τ I) (rI τ F) (rR σ τ R) (ν n) (rQ σ τ ν m0 Q) := by
  simp only [m_step] at hk
  split at hk
  · exact rl_n hi hn hk.2 rfl hk.1
  · exact False.elim hk
theorem rl_fmul (h : RH σ τ lv lay ν m0) (hn : m0 ≤ n) (hi : m_cd μ pc = .fmul) (hk : m_do (rX σ τ lay ν m0) d μ ls I F R n Q (m_step lv d μ (.fmul) pc ls st I F R n)) : Ev lay d μ pc (ls.map (vs σ)) (st.map (vs σ)) (rI τ I) (rI τ F) (rR σ τ R) (ν n) (rQ σ τ ν m0 Q) := by
  simp only [m_step] at hk
  split at hk
  · exact rl_n hi hn hk.2 rfl hk.1
  · exact False.elim hk
theorem rl_fdiv (h : RH σ τ lv lay ν m0) (hn : m0 ≤ n) (hi : m_cd μ pc = .fdiv) (hk : m_do (rX σ τ lay ν m0) d μ ls I F R n Q (m_step lv d μ (.fdiv) pc ls st I F R n)) : Ev lay d μ pc (ls.map (vs σ)) (st.map (vs σ)) (rI τ I) (rI τ F) (rR σ τ R) (ν n) (rQ σ τ ν m0 Q) := by
  simp only [m_step] at hk
  split at hk
  · exact rl_n hi hn hk.2 rfl hk.1
  · exact False.elim hk
theorem rl_dadd (h : RH σ τ lv lay ν m0) (hn : m0 ≤ n) (hi : m_cd μ pc = .dadd) (hk : m_do (rX σ τ lay ν m0) d μ ls I F R n Q (m_step lv d μ (.dadd) pc ls st I F R n)) : Ev lay d μ pc (ls.map (vs σ)) (st.map (vs σ)) (rI τ I) (rI τ F) (rR σ τ R) (ν n) (rQ σ τ ν m0 Q) := by
  simp only [m_step] at hk
  split at hk
  · exact rl_n hi hn hk.2 rfl hk.1
  · exact False.elim hk
theorem rl_dsub (h : RH σ τ lv lay ν m0) (hn : m0 ≤ n) (hi : m_cd μ pc = .dsub) (hk : m_do (rX σ τ lay ν m0) d μ ls I F R n Q (m_step lv d μ (.dsub) pc ls st I F R n)) : Ev lay d μ pc (ls.map (vs σ)) (st.map (vs σ)) (rI τ I) (rI τ F) (rR σ τ R) (ν n) (rQ σ τ ν m0 Q) := by
  simp only [m_step] at hk
  split at hk
  · exact rl_n hi hn hk.2 rfl hk.1
  · exact False.elim hk
theorem rl_dmul (h : RH σ τ lv lay ν m0) (hn : m0 ≤ n) (hi : m_cd μ pc = .dmul) (hk : m_do (rX σ τ lay ν m0) d μ ls I F R n Q (m_step lv d μ (.dmul) pc ls st I F R n)) : Ev lay d μ pc (ls.map (vs σ)) (st.map (vs σ)) (rI τ I) (rI τ F) (rR σ τ R) (ν n) (rQ σ τ ν m0 Q) := by
  simp only [m_step] at hk
  split at hk
  · exact rl_n hi hn hk.2 rfl hk.1
  · exact False.elim hk
theorem rl_ddiv (h : RH σ τ lv lay ν m0) (hn : m0 ≤ n) (hi : m_cd μ pc = .ddiv) (hk : m_do (rX σ τ lay ν m0) d μ ls I F R n Q (m_step lv d μ (.ddiv) pc ls st I F R n)) : Ev lay d μ pc (ls.map (vs σ)) (st.map (vs σ)) (rI τ I) (rI τ F) (rR σ τ R) (ν n) (rQ σ τ ν m0 Q) := by
  simp only [m_step] at hk
  split at hk
  · exact rl_n hi hn hk.2 rfl hk.1
  · exact False.elim hk
theorem rl_fcmp {v : _} (h : RH σ τ lv lay ν m0) (hn : m0 ≤ n) (hi : m_cd μ pc = .fcmp v) (hk : m_do (rX σ τ lay ν m0) d μ ls I F R n Q (m_step lv d μ (.fcmp v) pc ls st I F R n)) : Ev lay d μ pc (ls.map (vs σ)) (st.map (vs σ)) (rI τ I) (rI τ F) (rR σ τ R) (ν n) (rQ σ τ ν m0 Q) := by
  simp only [m_step] at hk
  split at hk
  · exact rl_n hi hn hk.2 rfl hk.1
  · exact False.elim hk
theorem rl_dcmp {v : _} (h : RH σ τ lv lay ν m0) (hn : m0 ≤ n) (hi : m_cd μ pc = .dcmp v) (hk : m_do (rX σ τ lay ν m0) d μ ls I F R n Q (m_step lv d μ (.dcmp v) pc ls st I F R n)) : Ev lay d μ pc (ls.map (vs σ)) (st.map (vs σ)) (rI τ I) (rI τ F) (rR σ τ R) (ν n) (rQ σ τ ν m0 Q) := by
  simp only [m_step] at hk
  split at hk
  · exact rl_n hi hn hk.2 rfl hk.1
  · exact False.elim hk
theorem rl_iconst {v : _} (h : RH σ τ lv lay ν m0) (hn : m0 ≤ n) (hi : m_cd μ pc = .iconst v) (hk : m_do (rX σ τ lay ν m0) d μ ls I F R n Q (m_step lv d μ (.iconst v) pc ls st I F R n)) : Ev lay d μ pc (ls.map (vs σ)) (st.map (vs σ)) (rI τ I) (rI τ F) (rR σ τ R) (ν n) (rQ σ τ ν m0 Q) := by
  exact rl_n hi hn hk.2 rfl hk.1
theorem rl_bipush {v : _} (h : RH σ τ lv lay ν m0) (hn : m0 ≤ n) (hi : m_cd μ pc = .bipush v) (hk : m_do (rX σ τ lay ν m0) d μ ls I F R n Q (m_step lv d μ (.bipush v) pc ls st I F R n)) : Ev lay d μ pc (ls.map (vs σ)) (st.map (vs σ)) (rI τ I) (rI τ F) (rR σ τ R) (ν n) (rQ σ τ ν m0 Q) := by
  exact rl_n hi hn hk.2 rfl hk.1
theorem rl_sipush {v : _} (h : RH σ τ lv lay ν m0) (hn : m0 ≤ n) (hi : m_cd μ pc = .sipush v) (hk : m_do (rX σ τ lay ν m0) d μ ls I F R n Q (m_step lv d μ (.sipush v) pc ls st I F R n)) : Ev lay d μ pc (ls.map (vs σ)) (st.map (vs σ)) (rI τ I) (rI τ F) (rR σ τ R) (ν n) (rQ σ τ ν m0 Q) := by
  exact rl_n hi hn hk.2 rfl hk.1
theorem rl_lconst {v : _} (h : RH σ τ lv lay ν m0) (hn : m0 ≤ n) (hi : m_cd μ pc = .lconst v) (hk : m_do (rX σ τ lay ν m0) d μ ls I F R n Q (m_step lv d μ (.lconst v) pc ls st I F R n)) : Ev lay d μ pc (ls.map (vs σ)) (st.map (vs σ)) (rI τ I) (rI τ F) (rR σ τ R) (ν n) (rQ σ τ ν m0 Q) := by
  exact rl_n hi hn hk.2 rfl hk.1
theorem rl_dup (h : RH σ τ lv lay ν m0) (hn : m0 ≤ n) (hi : m_cd μ pc = .dup) (hk : m_do (rX σ τ lay ν m0) d μ ls I F R n Q (m_step lv d μ (.dup) pc ls st I F R n)) : Ev lay d μ pc (ls.map (vs σ)) (st.map (vs σ)) (rI τ I) (rI τ F) (rR σ τ R) (ν n) (rQ σ τ ν m0 Q) := by
  simp only [m_step] at hk
  split at hk
  · refine rl_n hi hn hk.2 rfl ?_
    rw [vs_c]
    exact hk.1
  · exact False.elim hk
theorem rl_dup2 (h : RH σ τ lv lay ν m0) (hn : m0 ≤ n) (hi : m_cd μ pc = .dup2) (hk : m_do (rX σ τ lay ν m0) d μ ls I F R n Q (m_step lv d μ (.dup2) pc ls st I F R n)) : Ev lay d μ pc (ls.map (vs σ)) (st.map (vs σ)) (rI τ I) (rI τ F) (rR σ τ R) (ν n) (rQ σ τ ν m0 Q) := by
  simp only [m_step] at hk
  split at hk
  · refine rl_n hi hn hk.2 rfl ?_
    rw [vs_c, vs_c]
    exact hk.1
  · exact False.elim hk
theorem rl_pop1 (h : RH σ τ lv lay ν m0) (hn : m0 ≤ n) (hi : m_cd μ pc = .pop) (hk : m_do (rX σ τ lay ν m0) d μ ls I F R n Q (m_step lv d μ (.pop) pc ls st I F R n)) : Ev lay d μ pc (ls.map (vs σ)) (st.map (vs σ)) (rI τ I) (rI τ F) (rR σ τ R) (ν n) (rQ σ τ ν m0 Q) := by
  simp only [m_step] at hk
  split at hk
  · refine rl_n hi hn hk.2 rfl ?_
    rw [vs_c]
    exact hk.1
  · exact False.elim hk
theorem rl_iload_n {v : _} (h : RH σ τ lv lay ν m0) (hn : m0 ≤ n) (hi : m_cd μ pc = .iload_n v) (hk : m_do (rX σ τ lay ν m0) d μ ls I F R n Q (m_step lv d μ (.iload_n v) pc ls st I F R n)) : Ev lay d μ pc (ls.map (vs σ)) (st.map (vs σ)) (rI τ I) (rI τ F) (rR σ τ R) (ν n) (rQ σ τ ν m0 Q) := by
  simp only [m_step] at hk
  split at hk
  · rename_i he
    exact rl_n hi hn hk.2 (by simp only [m_step, List.getElem?_map, he, Option.map_some, vs_i]; rfl) hk.1
  · exact False.elim hk
theorem rl_iload {v : _} (h : RH σ τ lv lay ν m0) (hn : m0 ≤ n) (hi : m_cd μ pc = .iload v) (hk : m_do (rX σ τ lay ν m0) d μ ls I F R n Q (m_step lv d μ (.iload v) pc ls st I F R n)) : Ev lay d μ pc (ls.map (vs σ)) (st.map (vs σ)) (rI τ I) (rI τ F) (rR σ τ R) (ν n) (rQ σ τ ν m0 Q) := by
  simp only [m_step] at hk
  split at hk
  · rename_i he
    exact rl_n hi hn hk.2 (by simp only [m_step, List.getElem?_map, he, Option.map_some, vs_i]; rfl) hk.1
  · exact False.elim hk
theorem rl_lload_n {v : _} (h : RH σ τ lv lay ν m0) (hn : m0 ≤ n) (hi : m_cd μ pc = .lload_n v) (hk : m_do (rX σ τ lay ν m0) d μ ls I F R n Q (m_step lv d μ (.lload_n v) pc ls st I F R n)) : Ev lay d μ pc (ls.map (vs σ)) (st.map (vs σ)) (rI τ I) (rI τ F) (rR σ τ R) (ν n) (rQ σ τ ν m0 Q) := by
  simp only [m_step] at hk
  split at hk
  · rename_i he
    exact rl_n hi hn hk.2 (by simp only [m_step, List.getElem?_map, he, Option.map_some, vs_l]; rfl) hk.1
  · exact False.elim hk
theorem rl_lload {v : _} (h : RH σ τ lv lay ν m0) (hn : m0 ≤ n) (hi : m_cd μ pc = .lload v) (hk : m_do (rX σ τ lay ν m0) d μ ls I F R n Q (m_step lv d μ (.lload v) pc ls st I F R n)) : Ev lay d μ pc (ls.map (vs σ)) (st.map (vs σ)) (rI τ I) (rI τ F) (rR σ τ R) (ν n) (rQ σ τ ν m0 Q) := by
  simp only [m_step] at hk
  split at hk
  · rename_i he
    exact rl_n hi hn hk.2 (by simp only [m_step, List.getElem?_map, he, Option.map_some, vs_l]; rfl) hk.1
  · exact False.elim hk
theorem rl_fload_n {v : _} (h : RH σ τ lv lay ν m0) (hn : m0 ≤ n) (hi : m_cd μ pc = .fload_n v) (hk : m_do (rX σ τ lay ν m0) d μ ls I F R n Q (m_step lv d μ (.fload_n v) pc ls st I F R n)) : Ev lay d μ pc (ls.map (vs σ)) (st.map (vs σ)) (rI τ I) (rI τ F) (rR σ τ R) (ν n) (rQ σ τ ν m0 Q) := by
  simp only [m_step] at hk
  split at hk
  · rename_i he
    exact rl_n hi hn hk.2 (by simp only [m_step, List.getElem?_map, he, Option.map_some, vs_f]; rfl) hk.1
  · exact False.elim hk
theorem rl_fload {v : _} (h : RH σ τ lv lay ν m0) (hn : m0 ≤ n) (hi : m_cd μ pc = .fload v) (hk : m_do (rX σ τ lay ν m0) d μ ls I F R n Q (m_step lv d μ (.fload v) pc ls st I F R n)) : Ev lay d μ pc (ls.map (vs σ)) (st.map (vs σ)) (rI τ I) (rI τ F) (rR σ τ R) (ν n) (rQ σ τ ν m0 Q) := by
  simp only [m_step] at hk
  split at hk
  · rename_i he
    exact rl_n hi hn hk.2 (by simp only [m_step, List.getElem?_map, he, Option.map_some, vs_f]; rfl) hk.1
  · exact False.elim hk
theorem rl_dload_n {v : _} (h : RH σ τ lv lay ν m0) (hn : m0 ≤ n) (hi : m_cd μ pc = .dload_n v) (hk : m_do (rX σ τ lay ν m0) d μ ls I F R n Q (m_step lv d μ (.dload_n v) pc ls st I F R n)) : Ev lay d μ pc (ls.map (vs σ)) (st.map (vs σ)) (rI τ I) (rI τ F) (rR σ τ R) (ν n) (rQ σ τ ν m0 Q) := by
  simp only [m_step] at hk
  split at hk
  · rename_i he
    exact rl_n hi hn hk.2 (by simp only [m_step, List.getElem?_map, he, Option.map_some, vs_d]; rfl) hk.1
  · exact False.elim hk
theorem rl_dload {v : _} (h : RH σ τ lv lay ν m0) (hn : m0 ≤ n) (hi : m_cd μ pc = .dload v) (hk : m_do (rX σ τ lay ν m0) d μ ls I F R n Q (m_step lv d μ (.dload v) pc ls st I F R n)) : Ev lay d μ pc (ls.map (vs σ)) (st.map (vs σ)) (rI τ I) (rI τ F) (rR σ τ R) (ν n) (rQ σ τ ν m0 Q) := by
  simp only [m_step] at hk
  split at hk
  · rename_i he
    exact rl_n hi hn hk.2 (by simp only [m_step, List.getElem?_map, he, Option.map_some, vs_d]; rfl) hk.1
  · exact False.elim hk
theorem rl_aload_n {v : _} (h : RH σ τ lv lay ν m0) (hn : m0 ≤ n) (hi : m_cd μ pc = .aload_n v) (hk : m_do (rX σ τ lay ν m0) d μ ls I F R n Q (m_step lv d μ (.aload_n v) pc ls st I F R n)) : Ev lay d μ pc (ls.map (vs σ)) (st.map (vs σ)) (rI τ I) (rI τ F) (rR σ τ R) (ν n) (rQ σ τ ν m0 Q) := by
  simp only [m_step] at hk
  split at hk
  · rename_i he
    exact rl_n hi hn hk.2 (by simp only [m_step, List.getElem?_map, he, Option.map_some, vs_r]; rfl) hk.1
  · rename_i he
    exact rl_n hi hn hk.2 (by simp only [m_step, List.getElem?_map, he, Option.map_some, vs_n]; rfl) hk.1
  · exact False.elim hk
theorem rl_aload {v : _} (h : RH σ τ lv lay ν m0) (hn : m0 ≤ n) (hi : m_cd μ pc = .aload v) (hk : m_do (rX σ τ lay ν m0) d μ ls I F R n Q (m_step lv d μ (.aload v) pc ls st I F R n)) : Ev lay d μ pc (ls.map (vs σ)) (st.map (vs σ)) (rI τ I) (rI τ F) (rR σ τ R) (ν n) (rQ σ τ ν m0 Q) := by
  simp only [m_step] at hk
  split at hk
  · rename_i he
    exact rl_n hi hn hk.2 (by simp only [m_step, List.getElem?_map, he, Option.map_some, vs_r]; rfl) hk.1
  · rename_i he
    exact rl_n hi hn hk.2 (by simp only [m_step, List.getElem?_map, he, Option.map_some, vs_n]; rfl) hk.1
  · exact False.elim hk
theorem rl_istore_n {v : _} (h : RH σ τ lv lay ν m0) (hn : m0 ≤ n) (hi : m_cd μ pc = .istore_n v) (hk : m_do (rX σ τ lay ν m0) d μ ls I F R n Q (m_step lv d μ (.istore_n v) pc ls st I F R n)) : Ev lay d μ pc (ls.map (vs σ)) (st.map (vs σ)) (rI τ I) (rI τ F) (rR σ τ R) (ν n) (rQ σ τ ν m0 Q) := by
  simp only [m_step] at hk
  split at hk
  · exact rl_n hi hn hk.2 (by rw [← rl_s1]; rfl) (by rw [List.length_map]; exact hk.1)
  · exact False.elim hk
theorem rl_istore {v : _} (h : RH σ τ lv lay ν m0) (hn : m0 ≤ n) (hi : m_cd μ pc = .istore v) (hk : m_do (rX σ τ lay ν m0) d μ ls I F R n Q (m_step lv d μ (.istore v) pc ls st I F R n)) : Ev lay d μ pc (ls.map (vs σ)) (st.map (vs σ)) (rI τ I) (rI τ F) (rR σ τ R) (ν n) (rQ σ τ ν m0 Q) := by
  simp only [m_step] at hk
  split at hk
  · exact rl_n hi hn hk.2 (by rw [← rl_s1]; rfl) (by rw [List.length_map]; exact hk.1)
  · exact False.elim hk
theorem rl_fstore_n {v : _} (h : RH σ τ lv lay ν m0) (hn : m0 ≤ n) (hi : m_cd μ pc = .fstore_n v) (hk : m_do (rX σ τ lay ν m0) d μ ls I F R n Q (m_step lv d μ (.fstore_n v) pc ls st I F R n)) : Ev lay d μ pc (ls.map (vs σ)) (st.map (vs σ)) (rI τ I) (rI τ F) (rR σ τ R) (ν n) (rQ σ τ ν m0 Q) := by
  simp only [m_step] at hk
  split at hk
  · exact rl_n hi hn hk.2 (by rw [← rl_s1]; rfl) (by rw [List.length_map]; exact hk.1)
  · exact False.elim hk
theorem rl_fstore {v : _} (h : RH σ τ lv lay ν m0) (hn : m0 ≤ n) (hi : m_cd μ pc = .fstore v) (hk : m_do (rX σ τ lay ν m0) d μ ls I F R n Q (m_step lv d μ (.fstore v) pc ls st I F R n)) : Ev lay d μ pc (ls.map (vs σ)) (st.map (vs σ)) (rI τ I) (rI τ F) (rR σ τ R) (ν n) (rQ σ τ ν m0 Q) := by
  simp only [m_step] at hk
  split at hk
  · exact rl_n hi hn hk.2 (by rw [← rl_s1]; rfl) (by rw [List.length_map]; exact hk.1)
  · exact False.elim hk
theorem rl_lstore_n {v : _} (h : RH σ τ lv lay ν m0) (hn : m0 ≤ n) (hi : m_cd μ pc = .lstore_n v) (hk : m_do (rX σ τ lay ν m0) d μ ls I F R n Q (m_step lv d μ (.lstore_n v) pc ls st I F R n)) : Ev lay d μ pc (ls.map (vs σ)) (st.map (vs σ)) (rI τ I) (rI τ F) (rR σ τ R) (ν n) (rQ σ τ ν m0 Q) := by
  simp only [m_step] at hk
  split at hk
  · exact rl_n hi hn hk.2 (by rw [← rl_s2]; rfl) (by rw [List.length_map]; exact hk.1)
  · exact False.elim hk
theorem rl_lstore {v : _} (h : RH σ τ lv lay ν m0) (hn : m0 ≤ n) (hi : m_cd μ pc = .lstore v) (hk : m_do (rX σ τ lay ν m0) d μ ls I F R n Q (m_step lv d μ (.lstore v) pc ls st I F R n)) : Ev lay d μ pc (ls.map (vs σ)) (st.map (vs σ)) (rI τ I) (rI τ F) (rR σ τ R) (ν n) (rQ σ τ ν m0 Q) := by
  simp only [m_step] at hk
  split at hk
  · exact rl_n hi hn hk.2 (by rw [← rl_s2]; rfl) (by rw [List.length_map]; exact hk.1)
  · exact False.elim hk
theorem rl_dstore_n {v : _} (h : RH σ τ lv lay ν m0) (hn : m0 ≤ n) (hi : m_cd μ pc = .dstore_n v) (hk : m_do (rX σ τ lay ν m0) d μ ls I F R n Q (m_step lv d μ (.dstore_n v) pc ls st I F R n)) : Ev lay d μ pc (ls.map (vs σ)) (st.map (vs σ)) (rI τ I) (rI τ F) (rR σ τ R) (ν n) (rQ σ τ ν m0 Q) := by
  simp only [m_step] at hk
  split at hk
  · exact rl_n hi hn hk.2 (by rw [← rl_s2]; rfl) (by rw [List.length_map]; exact hk.1)
  · exact False.elim hk
theorem rl_dstore {v : _} (h : RH σ τ lv lay ν m0) (hn : m0 ≤ n) (hi : m_cd μ pc = .dstore v) (hk : m_do (rX σ τ lay ν m0) d μ ls I F R n Q (m_step lv d μ (.dstore v) pc ls st I F R n)) : Ev lay d μ pc (ls.map (vs σ)) (st.map (vs σ)) (rI τ I) (rI τ F) (rR σ τ R) (ν n) (rQ σ τ ν m0 Q) := by
  simp only [m_step] at hk
  split at hk
  · exact rl_n hi hn hk.2 (by rw [← rl_s2]; rfl) (by rw [List.length_map]; exact hk.1)
  · exact False.elim hk
theorem rl_astore_n {v : _} (h : RH σ τ lv lay ν m0) (hn : m0 ≤ n) (hi : m_cd μ pc = .astore_n v) (hk : m_do (rX σ τ lay ν m0) d μ ls I F R n Q (m_step lv d μ (.astore_n v) pc ls st I F R n)) : Ev lay d μ pc (ls.map (vs σ)) (st.map (vs σ)) (rI τ I) (rI τ F) (rR σ τ R) (ν n) (rQ σ τ ν m0 Q) := by
  simp only [m_step] at hk
  split at hk
  · exact rl_n hi hn hk.2 (by rw [← rl_s1]; rfl) (by rw [List.length_map]; exact hk.1)
  · exact rl_n hi hn hk.2 (by rw [← rl_s1]; rfl) (by rw [List.length_map]; exact hk.1)
  · exact False.elim hk
theorem rl_astore {v : _} (h : RH σ τ lv lay ν m0) (hn : m0 ≤ n) (hi : m_cd μ pc = .astore v) (hk : m_do (rX σ τ lay ν m0) d μ ls I F R n Q (m_step lv d μ (.astore v) pc ls st I F R n)) : Ev lay d μ pc (ls.map (vs σ)) (st.map (vs σ)) (rI τ I) (rI τ F) (rR σ τ R) (ν n) (rQ σ τ ν m0 Q) := by
  simp only [m_step] at hk
  split at hk
  · exact rl_n hi hn hk.2 (by rw [← rl_s1]; rfl) (by rw [List.length_map]; exact hk.1)
  · exact rl_n hi hn hk.2 (by rw [← rl_s1]; rfl) (by rw [List.length_map]; exact hk.1)
  · exact False.elim hk
theorem rl_iinc {i : _} {v : _} (h : RH σ τ lv lay ν m0) (hn : m0 ≤ n) (hi : m_cd μ pc = .iinc i v) (hk : m_do (rX σ τ lay ν m0) d μ ls I F R n Q (m_step lv d μ (.iinc i v) pc ls st I F R n)) : Ev lay d μ pc (ls.map (vs σ)) (st.map (vs σ)) (rI τ I) (rI τ F) (rR σ τ R) (ν n) (rQ σ τ ν m0 Q) := by
  simp only [m_step] at hk
  split at hk
  · rename_i he
    exact rl_n hi hn hk.2 (by simp only [m_step, List.getElem?_map, he, Option.map_some, vs_i]; rw [← rl_s1]; rfl) hk.1
  · exact False.elim hk
theorem rl_ldc {v : _} (h : RH σ τ lv lay ν m0) (hn : m0 ≤ n) (hi : m_cd μ pc = .ldc v) (hk : m_do (rX σ τ lay ν m0) d μ ls I F R n Q (m_step lv d μ (.ldc v) pc ls st I F R n)) : Ev lay d μ pc (ls.map (vs σ)) (st.map (vs σ)) (rI τ I) (rI τ F) (rR σ τ R) (ν n) (rQ σ τ ν m0 Q) := by
  simp only [m_step] at hk
  split at hk
  · rename_i he
    exact rl_n hi hn hk.2 (by simp only [m_step, he]; rfl) hk.1
  · rename_i he
    exact rl_n hi hn hk.2 (by simp only [m_step, he]; rfl) hk.1
  · exact False.elim hk
theorem rl_ldc_w {v : _} (h : RH σ τ lv lay ν m0) (hn : m0 ≤ n) (hi : m_cd μ pc = .ldc_w v) (hk : m_do (rX σ τ lay ν m0) d μ ls I F R n Q (m_step lv d μ (.ldc_w v) pc ls st I F R n)) : Ev lay d μ pc (ls.map (vs σ)) (st.map (vs σ)) (rI τ I) (rI τ F) (rR σ τ R) (ν n) (rQ σ τ ν m0 Q) := by
  simp only [m_step] at hk
  split at hk
  · rename_i he
    exact rl_n hi hn hk.2 (by simp only [m_step, he]; rfl) hk.1
  · exact False.elim hk
theorem rl_ldc2_w {v : _} (h : RH σ τ lv lay ν m0) (hn : m0 ≤ n) (hi : m_cd μ pc = .ldc2_w v) (hk : m_do (rX σ τ lay ν m0) d μ ls I F R n Q (m_step lv d μ (.ldc2_w v) pc ls st I F R n)) : Ev lay d μ pc (ls.map (vs σ)) (st.map (vs σ)) (rI τ I) (rI τ F) (rR σ τ R) (ν n) (rQ σ τ ν m0 Q) := by
  simp only [m_step] at hk
  split at hk
  · rename_i he
    exact rl_n hi hn hk.2 (by simp only [m_step, he]; rfl) hk.1
  · rename_i he
    exact rl_n hi hn hk.2 (by simp only [m_step, he]; rfl) hk.1
  · exact False.elim hk
theorem rl_goto {v : _} (h : RH σ τ lv lay ν m0) (hn : m0 ≤ n) (hi : m_cd μ pc = .goto v) (hk : m_do (rX σ τ lay ν m0) d μ ls I F R n Q (m_step lv d μ (.goto v) pc ls st I F R n)) : Ev lay d μ pc (ls.map (vs σ)) (st.map (vs σ)) (rI τ I) (rI τ F) (rR σ τ R) (ν n) (rQ σ τ ν m0 Q) := by
  simp only [m_step, m_jmp] at hk
  split at hk
  · rename_i he
    exact rl_n hi hn hk.2 (by simp only [m_step, m_jmp, he]; rfl) hk.1
  · exact False.elim hk
theorem rl_if_eq {v : _} (h : RH σ τ lv lay ν m0) (hn : m0 ≤ n) (hi : m_cd μ pc = .ifCond .eq v) (hk : m_do (rX σ τ lay ν m0) d μ ls I F R n Q (m_step lv d μ (.ifCond .eq v) pc ls st I F R n)) : Ev lay d μ pc (ls.map (vs σ)) (st.map (vs σ)) (rI τ I) (rI τ F) (rR σ τ R) (ν n) (rQ σ τ ν m0 Q) := by
  simp only [m_step, m_jmp] at hk
  split at hk
  · split at hk
    · rename_i he
      exact rl_n hi hn hk.2 (by simp only [m_step, m_jmp, List.map_cons, vs_i, he]; rfl) hk.1
    · exact False.elim hk
  · exact False.elim hk
theorem rl_if_ne {v : _} (h : RH σ τ lv lay ν m0) (hn : m0 ≤ n) (hi : m_cd μ pc = .ifCond .ne v) (hk : m_do (rX σ τ lay ν m0) d μ ls I F R n Q (m_step lv d μ (.ifCond .ne v) pc ls st I F R n)) : Ev lay d μ pc (ls.map (vs σ)) (st.map (vs σ)) (rI τ I) (rI τ F) (rR σ τ R) (ν n) (rQ σ τ ν m0 Q) := by
  simp only [m_step, m_jmp] at hk
  split at hk
  · split at hk
    · rename_i he
      exact rl_n hi hn hk.2 (by simp only [m_step, m_jmp, List.map_cons, vs_i, he]; rfl) hk.1
    · exact False.elim hk
  · exact False.elim hk
theorem rl_if_lt {v : _} (h : RH σ τ lv lay ν m0) (hn : m0 ≤ n) (hi : m_cd μ pc = .ifCond .lt v) (hk : m_do (rX σ τ lay ν m0) d μ ls I F R n Q (m_step lv d μ (.ifCond .lt v) pc ls st I F R n)) : Ev lay d μ pc (ls.map (vs σ)) (st.map (vs σ)) (rI τ I) (rI τ F) (rR σ τ R) (ν n) (rQ σ τ ν m0 Q) := by
  simp only [m_step, m_jmp] at hk
  split at hk
  · split at hk
    · rename_i he
      exact rl_n hi hn hk.2 (by simp only [m_step, m_jmp, List.map_cons, vs_i, he]; rfl) hk.1
    · exact False.elim hk
  · exact False.elim hk
theorem rl_if_ge {v : _} (h : RH σ τ lv lay ν m0) (hn : m0 ≤ n) (hi : m_cd μ pc = .ifCond .ge v) (hk : m_do (rX σ τ lay ν m0) d μ ls I F R n Q (m_step lv d μ (.ifCond .ge v) pc ls st I F R n)) : Ev lay d μ pc (ls.map (vs σ)) (st.map (vs σ)) (rI τ I) (rI τ F) (rR σ τ R) (ν n) (rQ σ τ ν m0 Q) := by
  simp only [m_step, m_jmp] at hk
  split at hk
  · split at hk
    · rename_i he
      exact rl_n hi hn hk.2 (by simp only [m_step, m_jmp, List.map_cons, vs_i, he]; rfl) hk.1
    · exact False.elim hk
  · exact False.elim hk
theorem rl_if_gt {v : _} (h : RH σ τ lv lay ν m0) (hn : m0 ≤ n) (hi : m_cd μ pc = .ifCond .gt v) (hk : m_do (rX σ τ lay ν m0) d μ ls I F R n Q (m_step lv d μ (.ifCond .gt v) pc ls st I F R n)) : Ev lay d μ pc (ls.map (vs σ)) (st.map (vs σ)) (rI τ I) (rI τ F) (rR σ τ R) (ν n) (rQ σ τ ν m0 Q) := by
  simp only [m_step, m_jmp] at hk
  split at hk
  · split at hk
    · rename_i he
      exact rl_n hi hn hk.2 (by simp only [m_step, m_jmp, List.map_cons, vs_i, he]; rfl) hk.1
    · exact False.elim hk
  · exact False.elim hk
theorem rl_if_le {v : _} (h : RH σ τ lv lay ν m0) (hn : m0 ≤ n) (hi : m_cd μ pc = .ifCond .le v) (hk : m_do (rX σ τ lay ν m0) d μ ls I F R n Q (m_step lv d μ (.ifCond .le v) pc ls st I F R n)) : Ev lay d μ pc (ls.map (vs σ)) (st.map (vs σ)) (rI τ I) (rI τ F) (rR σ τ R) (ν n) (rQ σ τ ν m0 Q) := by
  simp only [m_step, m_jmp] at hk
  split at hk
  · split at hk
    · rename_i he
      exact rl_n hi hn hk.2 (by simp only [m_step, m_jmp, List.map_cons, vs_i, he]; rfl) hk.1
    · exact False.elim hk
  · exact False.elim hk
theorem rl_ic_eq {v : _} (h : RH σ τ lv lay ν m0) (hn : m0 ≤ n) (hi : m_cd μ pc = .if_icmp .eq v) (hk : m_do (rX σ τ lay ν m0) d μ ls I F R n Q (m_step lv d μ (.if_icmp .eq v) pc ls st I F R n)) : Ev lay d μ pc (ls.map (vs σ)) (st.map (vs σ)) (rI τ I) (rI τ F) (rR σ τ R) (ν n) (rQ σ τ ν m0 Q) := by
  simp only [m_step, m_jmp] at hk
  split at hk
  · split at hk
    · rename_i he
      exact rl_n hi hn hk.2 (by simp only [m_step, m_jmp, List.map_cons, vs_i, he]; rfl) hk.1
    · exact False.elim hk
  · exact False.elim hk
theorem rl_ic_ne {v : _} (h : RH σ τ lv lay ν m0) (hn : m0 ≤ n) (hi : m_cd μ pc = .if_icmp .ne v) (hk : m_do (rX σ τ lay ν m0) d μ ls I F R n Q (m_step lv d μ (.if_icmp .ne v) pc ls st I F R n)) : Ev lay d μ pc (ls.map (vs σ)) (st.map (vs σ)) (rI τ I) (rI τ F) (rR σ τ R) (ν n) (rQ σ τ ν m0 Q) := by
  simp only [m_step, m_jmp] at hk
  split at hk
  · split at hk
    · rename_i he
      exact rl_n hi hn hk.2 (by simp only [m_step, m_jmp, List.map_cons, vs_i, he]; rfl) hk.1
    · exact False.elim hk
  · exact False.elim hk
theorem rl_ic_lt {v : _} (h : RH σ τ lv lay ν m0) (hn : m0 ≤ n) (hi : m_cd μ pc = .if_icmp .lt v) (hk : m_do (rX σ τ lay ν m0) d μ ls I F R n Q (m_step lv d μ (.if_icmp .lt v) pc ls st I F R n)) : Ev lay d μ pc (ls.map (vs σ)) (st.map (vs σ)) (rI τ I) (rI τ F) (rR σ τ R) (ν n) (rQ σ τ ν m0 Q) := by
  simp only [m_step, m_jmp] at hk
  split at hk
  · split at hk
    · rename_i he
      exact rl_n hi hn hk.2 (by simp only [m_step, m_jmp, List.map_cons, vs_i, he]; rfl) hk.1
    · exact False.elim hk
  · exact False.elim hk
theorem rl_ic_ge {v : _} (h : RH σ τ lv lay ν m0) (hn : m0 ≤ n) (hi : m_cd μ pc = .if_icmp .ge v) (hk : m_do (rX σ τ lay ν m0) d μ ls I F R n Q (m_step lv d μ (.if_icmp .ge v) pc ls st I F R n)) : Ev lay d μ pc (ls.map (vs σ)) (st.map (vs σ)) (rI τ I) (rI τ F) (rR σ τ R) (ν n) (rQ σ τ ν m0 Q) := by
  simp only [m_step, m_jmp] at hk
  split at hk
  · split at hk
    · rename_i he
      exact rl_n hi hn hk.2 (by simp only [m_step, m_jmp, List.map_cons, vs_i, he]; rfl) hk.1
    · exact False.elim hk
  · exact False.elim hk
theorem rl_ic_gt {v : _} (h : RH σ τ lv lay ν m0) (hn : m0 ≤ n) (hi : m_cd μ pc = .if_icmp .gt v) (hk : m_do (rX σ τ lay ν m0) d μ ls I F R n Q (m_step lv d μ (.if_icmp .gt v) pc ls st I F R n)) : Ev lay d μ pc (ls.map (vs σ)) (st.map (vs σ)) (rI τ I) (rI τ F) (rR σ τ R) (ν n) (rQ σ τ ν m0 Q) := by
  simp only [m_step, m_jmp] at hk
  split at hk
  · split at hk
    · rename_i he
      exact rl_n hi hn hk.2 (by simp only [m_step, m_jmp, List.map_cons, vs_i, he]; rfl) hk.1
    · exact False.elim hk
  · exact False.elim hk
theorem rl_ic_le {v : _} (h : RH σ τ lv lay ν m0) (hn : m0 ≤ n) (hi : m_cd μ pc = .if_icmp .le v) (hk : m_do (rX σ τ lay ν m0) d μ ls I F R n Q (m_step lv d μ (.if_icmp .le v) pc ls st I F R n)) : Ev lay d μ pc (ls.map (vs σ)) (st.map (vs σ)) (rI τ I) (rI τ F) (rR σ τ R) (ν n) (rQ σ τ ν m0 Q) := by
  simp only [m_step, m_jmp] at hk
  split at hk
  · split at hk
    · rename_i he
      exact rl_n hi hn hk.2 (by simp only [m_step, m_jmp, List.map_cons, vs_i, he]; rfl) hk.1
    · exact False.elim hk
  · exact False.elim hk
theorem rl_ifnull {v : _} (h : RH σ τ lv lay ν m0) (hn : m0 ≤ n) (hi : m_cd μ pc = .ifnull v) (hk : m_do (rX σ τ lay ν m0) d μ ls I F R n Q (m_step lv d μ (.ifnull v) pc ls st I F R n)) : Ev lay d μ pc (ls.map (vs σ)) (st.map (vs σ)) (rI τ I) (rI τ F) (rR σ τ R) (ν n) (rQ σ τ ν m0 Q) := by
  simp only [m_step, m_jmp] at hk
  split at hk
  · split at hk
    · rename_i he
      exact rl_n hi hn hk.2 (by simp only [m_step, m_jmp, List.map_cons, vs_n, he]; rfl) hk.1
    · exact False.elim hk
  · exact rl_n hi hn hk.2 rfl hk.1
  · exact False.elim hk
theorem rl_ifnonnull {v : _} (h : RH σ τ lv lay ν m0) (hn : m0 ≤ n) (hi : m_cd μ pc = .ifnonnull v) (hk : m_do (rX σ τ lay ν m0) d μ ls I F R n Q (m_step lv d μ (.ifnonnull v) pc ls st I F R n)) : Ev lay d μ pc (ls.map (vs σ)) (st.map (vs σ)) (rI τ I) (rI τ F) (rR σ τ R) (ν n) (rQ σ τ ν m0 Q) := by
  simp only [m_step, m_jmp] at hk
  split at hk
  · exact rl_n hi hn hk.2 rfl hk.1
  · split at hk
    · rename_i he
      exact rl_n hi hn hk.2 (by simp only [m_step, m_jmp, List.map_cons, vs_r, he]; rfl) hk.1
    · exact False.elim hk
  · exact False.elim hk
theorem rl_tsw {a b c : _} {e : _} (h : RH σ τ lv lay ν m0) (hn : m0 ≤ n) (hi : m_cd μ pc = .tableswitch a b c e) (hk : m_do (rX σ τ lay ν m0) d μ ls I F R n Q (m_step lv d μ (.tableswitch a b c e) pc ls st I F R n)) : Ev lay d μ pc (ls.map (vs σ)) (st.map (vs σ)) (rI τ I) (rI τ F) (rR σ τ R) (ν n) (rQ σ τ ν m0 Q) := by
  simp only [m_step, m_jmp] at hk
  split at hk
  · rename_i x r
    by_cases hc : x.toInt < b ∨ c < x.toInt
    · rw [if_pos hc] at hk
      split at hk
      · rename_i he
        exact rl_n hi hn hk.2 (by simp only [m_step, m_jmp, List.map_cons, vs_i, if_pos hc, he]; rfl) hk.1
      · exact False.elim hk
    · rw [if_neg hc] at hk
      split at hk
      · rename_i ho
        split at hk
        · rename_i he
          exact rl_n hi hn hk.2 (by simp only [m_step, m_jmp, List.map_cons, vs_i, if_neg hc, ho, he]; rfl) hk.1
        · exact False.elim hk
      · exact False.elim hk
  · exact False.elim hk
theorem rl_lsw {a : _} {b : _} (h : RH σ τ lv lay ν m0) (hn : m0 ≤ n) (hi : m_cd μ pc = .lookupswitch a b) (hk : m_do (rX σ τ lay ν m0) d μ ls I F R n Q (m_step lv d μ (.lookupswitch a b) pc ls st I F R n)) : Ev lay d μ pc (ls.map (vs σ)) (st.map (vs σ)) (rI τ I) (rI τ F) (rR σ τ R) (ν n) (rQ σ τ ν m0 Q) := by
  simp only [m_step, m_jmp] at hk
  split at hk
  · split at hk
    · rename_i he
      exact rl_n hi hn hk.2 (by simp only [m_step, m_jmp, List.map_cons, vs_i, he]; rfl) hk.1
    · exact False.elim hk
  · exact False.elim hk
theorem rl_lreturn (h : RH σ τ lv lay ν m0) (hn : m0 ≤ n) (hi : m_cd μ pc = .lreturn) (hk : m_do (rX σ τ lay ν m0) d μ ls I F R n Q (m_step lv d μ (.lreturn) pc ls st I F R n)) : Ev lay d μ pc (ls.map (vs σ)) (st.map (vs σ)) (rI τ I) (rI τ F) (rR σ τ R) (ν n) (rQ σ τ ν m0 Q) := by
  simp only [m_step] at hk
  split at hk
  · split at hk
    · rename_i he
      exact rl_v h hi hn hk.2 (by simp only [m_step, he]; rfl) hk.1
    · exact False.elim hk
  · exact False.elim hk
theorem rl_freturn (h : RH σ τ lv lay ν m0) (hn : m0 ≤ n) (hi : m_cd μ pc = .freturn) (hk : m_do (rX σ τ lay ν m0) d μ ls I F R n Q (m_step lv d μ (.freturn) pc ls st I F R n)) : Ev lay d μ pc (ls.map (vs σ)) (st.map (vs σ)) (rI τ I) (rI τ F) (rR σ τ R) (ν n) (rQ σ τ ν m0 Q) := by
  simp only [m_step] at hk
  split at hk
  · split at hk
    · rename_i he
      exact rl_v h hi hn hk.2 (by simp only [m_step, he]; rfl) hk.1
    · exact False.elim hk
  · exact False.elim hk
theorem rl_dreturn (h : RH σ τ lv lay ν m0) (hn : m0 ≤ n) (hi : m_cd μ pc = .dreturn) (hk : m_do (rX σ τ lay ν m0) d μ ls I F R n Q (m_step lv d μ (.dreturn) pc ls st I F R n)) : Ev lay d μ pc (ls.map (vs σ)) (st.map (vs σ)) (rI τ I) (rI τ F) (rR σ τ R) (ν n) (rQ σ τ ν m0 Q) := by
  simp only [m_step] at hk
  split at hk
  · split at hk
    · rename_i he
      exact rl_v h hi hn hk.2 (by simp only [m_step, he]; rfl) hk.1
    · exact False.elim hk
  · exact False.elim hk
theorem rl_return_ (h : RH σ τ lv lay ν m0) (hn : m0 ≤ n) (hi : m_cd μ pc = .return_) (hk : m_do (rX σ τ lay ν m0) d μ ls I F R n Q (m_step lv d μ (.return_) pc ls st I F R n)) : Ev lay d μ pc (ls.map (vs σ)) (st.map (vs σ)) (rI τ I) (rI τ F) (rR σ τ R) (ν n) (rQ σ τ ν m0 Q) := by
  simp only [m_step] at hk
  split at hk
  · split at hk
    · rename_i he
      exact rl_v h hi hn hk.2 (by simp only [m_step, he]; rfl) hk.1
    · exact False.elim hk
  · exact False.elim hk
theorem rl_ireturn (h : RH σ τ lv lay ν m0) (hn : m0 ≤ n) (hi : m_cd μ pc = .ireturn) (hk : m_do (rX σ τ lay ν m0) d μ ls I F R n Q (m_step lv d μ (.ireturn) pc ls st I F R n)) : Ev lay d μ pc (ls.map (vs σ)) (st.map (vs σ)) (rI τ I) (rI τ F) (rR σ τ R) (ν n) (rQ σ τ ν m0 Q) := by
  simp only [m_step] at hk
  split at hk
  · split at hk
    · rename_i he
      exact rl_v h hi hn hk.2 (by simp only [m_step, he]; rfl) hk.1
    · rename_i he
      exact rl_v h hi hn hk.2 (by simp only [m_step, List.map_cons, List.map_nil, vs_i, he]; rfl) hk.1
    · exact False.elim hk
  · exact False.elim hk
theorem rl_fv (h : RH σ τ lv lay ν m0) {ty a k : Nat} : m_fv ty (rI τ I) (rR σ τ R) (σ a) k = vs σ (m_fv ty I R a k) := by
  unfold m_fv
  split
  · rw [rR_at h.1, vs_rv h.1 h.2.2.1]
  · rw [rI_at h.1]
    rfl
theorem rl_getfield {ix : _} (h : RH σ τ lv lay ν m0) (hn : m0 ≤ n) (hi : m_cd μ pc = .getfield ix) (hk : m_do (rX σ τ lay ν m0) d μ ls I F R n Q (m_step lv d μ (.getfield ix) pc ls st I F R n)) : Ev lay d μ pc (ls.map (vs σ)) (st.map (vs σ)) (rI τ I) (rI τ F) (rR σ τ R) (ν n) (rQ σ τ ν m0 Q) := by
  simp only [m_step] at hk
  split at hk
  · split at hk
    · rename_i he
      exact rl_n hi hn hk.2 (by simp only [m_step, List.map_cons, vs_r, he, rl_fv h]; rfl) (rl_k h hk.1)
    · exact False.elim hk
  · exact False.elim hk
theorem rl_putfield {ix : _} (h : RH σ τ lv lay ν m0) (hn : m0 ≤ n) (hi : m_cd μ pc = .putfield ix) (hk : m_do (rX σ τ lay ν m0) d μ ls I F R n Q (m_step lv d μ (.putfield ix) pc ls st I F R n)) : Ev lay d μ pc (ls.map (vs σ)) (st.map (vs σ)) (rI τ I) (rI τ F) (rR σ τ R) (ν n) (rQ σ τ ν m0 Q) := by
  simp only [m_step] at hk
  split at hk
  · split at hk
    · rename_i he
      split at hk
      · exact False.elim hk
      · rename_i hf
        split at hk
        · exact rl_n hi hn hk.2 (by simp only [m_step, List.map_cons, vs_r, vs_i, he, hf, rI_up h.1 h.2.1]; rfl) (rl_k h hk.1)
        · refine rl_n hi hn hk.2 (by simp only [m_step, List.map_cons, vs_r, vs_i, he, hf, rI_up h.1 h.2.1]; rfl) ?_
          exact ⟨rl_k h hk.1.1, hk.1.2⟩
        · refine rl_n hi hn hk.2 (by simp only [m_step, List.map_cons, vs_r, vs_i, he, hf, rI_up h.1 h.2.1]; rfl) ?_
          exact ⟨rl_k h hk.1.1, hk.1.2⟩
        · refine rl_n hi hn hk.2 (by simp only [m_step, List.map_cons, vs_r, vs_n, he, hf]; rw [← rR_up h.1 h.2.1, h.2.2.1]; rfl) (rl_k h hk.1)
        · refine rl_n hi hn hk.2 (by simp only [m_step, List.map_cons, vs_r, he, hf, rR_up h.1 h.2.1]; rfl) ?_
          exact ⟨rl_k h hk.1.1, s_ne h.1 h.2.2.1 hk.1.2⟩
        · exact False.elim hk
    · exact False.elim hk
  · exact False.elim hk
theorem rl_iaload (h : RH σ τ lv lay ν m0) (hn : m0 ≤ n) (hi : m_cd μ pc = .iaload) (hk : m_do (rX σ τ lay ν m0) d μ ls I F R n Q (m_step lv d μ (.iaload) pc ls st I F R n)) : Ev lay d μ pc (ls.map (vs σ)) (st.map (vs σ)) (rI τ I) (rI τ F) (rR σ τ R) (ν n) (rQ σ τ ν m0 Q) := by
  simp only [m_step] at hk
  split at hk
  · exact rl_n hi hn hk.2 (by simp only [m_step, List.map_cons, vs_r, vs_i, rI_at h.1]; rfl) (rl_m h hk.1 (by decide))
  · exact False.elim hk
theorem rl_faload (h : RH σ τ lv lay ν m0) (hn : m0 ≤ n) (hi : m_cd μ pc = .faload) (hk : m_do (rX σ τ lay ν m0) d μ ls I F R n Q (m_step lv d μ (.faload) pc ls st I F R n)) : Ev lay d μ pc (ls.map (vs σ)) (st.map (vs σ)) (rI τ I) (rI τ F) (rR σ τ R) (ν n) (rQ σ τ ν m0 Q) := by
  simp only [m_step] at hk
  split at hk
  · exact rl_n hi hn hk.2 (by simp only [m_step, List.map_cons, vs_r, vs_i, rI_at h.1]; rfl) (rl_m h hk.1 (by decide))
  · exact False.elim hk
theorem rl_baload (h : RH σ τ lv lay ν m0) (hn : m0 ≤ n) (hi : m_cd μ pc = .baload) (hk : m_do (rX σ τ lay ν m0) d μ ls I F R n Q (m_step lv d μ (.baload) pc ls st I F R n)) : Ev lay d μ pc (ls.map (vs σ)) (st.map (vs σ)) (rI τ I) (rI τ F) (rR σ τ R) (ν n) (rQ σ τ ν m0 Q) := by
  simp only [m_step] at hk
  split at hk
  · exact rl_n hi hn hk.2 (by simp only [m_step, List.map_cons, vs_r, vs_i, rI_at h.1]; rfl) (rl_m h hk.1 (by decide))
  · exact False.elim hk
theorem rl_caload (h : RH σ τ lv lay ν m0) (hn : m0 ≤ n) (hi : m_cd μ pc = .caload) (hk : m_do (rX σ τ lay ν m0) d μ ls I F R n Q (m_step lv d μ (.caload) pc ls st I F R n)) : Ev lay d μ pc (ls.map (vs σ)) (st.map (vs σ)) (rI τ I) (rI τ F) (rR σ τ R) (ν n) (rQ σ τ ν m0 Q) := by
  simp only [m_step] at hk
  split at hk
  · exact rl_n hi hn hk.2 (by simp only [m_step, List.map_cons, vs_r, vs_i, rI_at h.1]; rfl) (rl_m h hk.1 (by decide))
  · exact False.elim hk
theorem rl_aaload (h : RH σ τ lv lay ν m0) (hn : m0 ≤ n) (hi : m_cd μ pc = .aaload) (hk : m_do (rX σ τ lay ν m0) d μ ls I F R n Q (m_step lv d μ (.aaload) pc ls st I F R n)) : Ev lay d μ pc (ls.map (vs σ)) (st.map (vs σ)) (rI τ I) (rI τ F) (rR σ τ R) (ν n) (rQ σ τ ν m0 Q) := by
  simp only [m_step] at hk
  split at hk
  · exact rl_n hi hn hk.2 (by simp only [m_step, List.map_cons, vs_r, vs_i, rR_at h.1, vs_rv h.1 h.2.2.1]; rfl) (rl_m h hk.1 (by decide))
  · exact False.elim hk
theorem rl_iastore (h : RH σ τ lv lay ν m0) (hn : m0 ≤ n) (hi : m_cd μ pc = .iastore) (hk : m_do (rX σ τ lay ν m0) d μ ls I F R n Q (m_step lv d μ (.iastore) pc ls st I F R n)) : Ev lay d μ pc (ls.map (vs σ)) (st.map (vs σ)) (rI τ I) (rI τ F) (rR σ τ R) (ν n) (rQ σ τ ν m0 Q) := by
  simp only [m_step] at hk
  split at hk
  · refine rl_n hi hn hk.2 (by simp only [m_step, List.map_cons, vs_r, vs_i, rI_up h.1 h.2.1]; rfl) ?_
    exact ⟨s_ne h.1 h.2.2.1 hk.1.1, rl_m h hk.1.2 (by decide)⟩
  · exact False.elim hk
theorem rl_fastore (h : RH σ τ lv lay ν m0) (hn : m0 ≤ n) (hi : m_cd μ pc = .fastore) (hk : m_do (rX σ τ lay ν m0) d μ ls I F R n Q (m_step lv d μ (.fastore) pc ls st I F R n)) : Ev lay d μ pc (ls.map (vs σ)) (st.map (vs σ)) (rI τ I) (rI τ F) (rR σ τ R) (ν n) (rQ σ τ ν m0 Q) := by
  simp only [m_step] at hk
  split at hk
  · exact rl_n hi hn hk.2 (by simp only [m_step, List.map_cons, vs_r, vs_i, vs_f, rI_up h.1 h.2.1]; rfl) (rl_m h hk.1 (by decide))
  · exact False.elim hk
theorem rl_bastore (h : RH σ τ lv lay ν m0) (hn : m0 ≤ n) (hi : m_cd μ pc = .bastore) (hk : m_do (rX σ τ lay ν m0) d μ ls I F R n Q (m_step lv d μ (.bastore) pc ls st I F R n)) : Ev lay d μ pc (ls.map (vs σ)) (st.map (vs σ)) (rI τ I) (rI τ F) (rR σ τ R) (ν n) (rQ σ τ ν m0 Q) := by
  simp only [m_step] at hk
  split at hk
  · exact rl_n hi hn hk.2 (by simp only [m_step, List.map_cons, vs_r, vs_i, vs_f, rI_up h.1 h.2.1]; rfl) (rl_m h hk.1 (by decide))
  · exact False.elim hk
theorem rl_castore (h : RH σ τ lv lay ν m0) (hn : m0 ≤ n) (hi : m_cd μ pc = .castore) (hk : m_do (rX σ τ lay ν m0) d μ ls I F R n Q (m_step lv d μ (.castore) pc ls st I F R n)) : Ev lay d μ pc (ls.map (vs σ)) (st.map (vs σ)) (rI τ I) (rI τ F) (rR σ τ R) (ν n) (rQ σ τ ν m0 Q) := by
  simp only [m_step] at hk
  split at hk
  · exact rl_n hi hn hk.2 (by simp only [m_step, List.map_cons, vs_r, vs_i, vs_f, rI_up h.1 h.2.1]; rfl) (rl_m h hk.1 (by decide))
  · exact False.elim hk
theorem rl_aastore (h : RH σ τ lv lay ν m0) (hn : m0 ≤ n) (hi : m_cd μ pc = .aastore) (hk : m_do (rX σ τ lay ν m0) d μ ls I F R n Q (m_step lv d μ (.aastore) pc ls st I F R n)) : Ev lay d μ pc (ls.map (vs σ)) (st.map (vs σ)) (rI τ I) (rI τ F) (rR σ τ R) (ν n) (rQ σ τ ν m0 Q) := by
  simp only [m_step] at hk
  split at hk
  · refine rl_n hi hn hk.2 (by simp only [m_step, List.map_cons, vs_r, vs_i, rR_up h.1 h.2.1]; rfl) ?_
    exact ⟨rl_m h hk.1.1 (by decide), s_ne h.1 h.2.2.1 hk.1.2.1, rl_k h hk.1.2.2⟩
  · exact False.elim hk
theorem rl_arraylength (h : RH σ τ lv lay ν m0) (hn : m0 ≤ n) (hi : m_cd μ pc = .arraylength) (hk : m_do (rX σ τ lay ν m0) d μ ls I F R n Q (m_step lv d μ (.arraylength) pc ls st I F R n)) : Ev lay d μ pc (ls.map (vs σ)) (st.map (vs σ)) (rI τ I) (rI τ F) (rR σ τ R) (ν n) (rQ σ τ ν m0 Q) := by
  simp only [m_step] at hk
  split at hk
  · have e := rl_in h (a := _) rfl (Nat.ne_of_lt hk.1)
    exact rl_n hi hn hk.2 (by simp only [m_step, List.map_cons, vs_r, e]; rfl) hk.1
  · exact False.elim hk
theorem rl_newarray {t : _} (h : RH σ τ lv lay ν m0) (hn : m0 ≤ n) (hi : m_cd μ pc = .newarray t) (hk : m_do (rX σ τ lay ν m0) d μ ls I F R n Q (m_step lv d μ (.newarray t) pc ls st I F R n)) : Ev lay d μ pc (ls.map (vs σ)) (st.map (vs σ)) (rI τ I) (rI τ F) (rR σ τ R) (ν n) (rQ σ τ ν m0 Q) := by
  simp only [m_step] at hk
  split at hk
  · split at hk
    · obtain ⟨e1, e2, e3⟩ := rl_nw h hn hk.1.2.2 (by simp)
      refine rl_n hi (Nat.le_succ_of_le hn) hk.2 (by simp only [m_step, List.map_cons, vs_r, vs_i, e1, rI_row h.1 h.2.1]; rw [e2]; rfl) ?_
      exact ⟨hk.1.1, hk.1.2.1, e3⟩
    · obtain ⟨e1, e2, e3⟩ := rl_nw h hn hk.1.2.2 (by simp)
      refine rl_n hi (Nat.le_succ_of_le hn) hk.2 (by simp only [m_step, List.map_cons, vs_r, vs_i, e1, rI_row h.1 h.2.1]; rw [e2]; rfl) ?_
      exact ⟨hk.1.1, hk.1.2.1, e3⟩
    · obtain ⟨e1, e2, e3⟩ := rl_nw h hn hk.1.2.2 (by simp)
      refine rl_n hi (Nat.le_succ_of_le hn) hk.2 (by simp only [m_step, List.map_cons, vs_r, vs_i, e1, rI_row h.1 h.2.1]; rw [e2]; rfl) ?_
      exact ⟨hk.1.1, hk.1.2.1, e3⟩
    · obtain ⟨e1, e2, e3⟩ := rl_nw h hn hk.1.2.2 (by simp)
      refine rl_n hi (Nat.le_succ_of_le hn) hk.2 (by simp only [m_step, List.map_cons, vs_r, vs_i, e1, rI_row h.1 h.2.1]; rw [e2]; rfl) ?_
      exact ⟨hk.1.1, hk.1.2.1, e3⟩
    · exact False.elim hk
  · exact False.elim hk
theorem rl_anewarray {ix : _} (h : RH σ τ lv lay ν m0) (hn : m0 ≤ n) (hi : m_cd μ pc = .anewarray ix) (hk : m_do (rX σ τ lay ν m0) d μ ls I F R n Q (m_step lv d μ (.anewarray ix) pc ls st I F R n)) : Ev lay d μ pc (ls.map (vs σ)) (st.map (vs σ)) (rI τ I) (rI τ F) (rR σ τ R) (ν n) (rQ σ τ ν m0 Q) := by
  simp only [m_step] at hk
  split at hk
  · split at hk
    · rename_i he
      obtain ⟨e1, e2, e3⟩ := rl_nw h hn hk.1.2.2 (by simp)
      refine rl_n hi (Nat.le_succ_of_le hn) hk.2 (by simp only [m_step, List.map_cons, vs_r, vs_i, he, e1, rR_row h.1 h.2.1 h.2.2.1]; rw [e2]; rfl) ?_
      exact ⟨hk.1.1, hk.1.2.1, e3⟩
    · exact False.elim hk
  · exact False.elim hk
theorem rl_new {ix : _} (h : RH σ τ lv lay ν m0) (hn : m0 ≤ n) (hi : m_cd μ pc = .new ix) (hk : m_do (rX σ τ lay ν m0) d μ ls I F R n Q (m_step lv d μ (.new ix) pc ls st I F R n)) : Ev lay d μ pc (ls.map (vs σ)) (st.map (vs σ)) (rI τ I) (rI τ F) (rR σ τ R) (ν n) (rQ σ τ ν m0 Q) := by
  simp only [m_step] at hk
  split at hk
  · rename_i he
    obtain ⟨e1, e2, e3⟩ := rl_nw h hn hk.1 (by simp)
    exact rl_n hi (Nat.le_succ_of_le hn) hk.2 (by simp only [m_step, he, e1, rI_row h.1 h.2.1, rR_row h.1 h.2.1 h.2.2.1]; rw [e2]; rfl) e3
  · exact False.elim hk
theorem rl_virt {ix : _} (h : RH σ τ lv lay ν m0) (hn : m0 ≤ n) (hi : m_cd μ pc = .invokevirtual ix) (hk : m_do (rX σ τ lay ν m0) d μ ls I F R n Q (m_step lv d μ (.invokevirtual ix) pc ls st I F R n)) : Ev lay d μ pc (ls.map (vs σ)) (st.map (vs σ)) (rI τ I) (rI τ F) (rR σ τ R) (ν n) (rQ σ τ ν m0 Q) := by
  simp only [m_step] at hk
  split at hk
  · rename_i he
    split at hk
    · rename_i hp
      split at hk
      · rename_i hb
        refine rl_c h hi hn hk.2 (as := _ :: _) (by simp only [m_step, he, rl_pop' hp, List.map_cons, vs_r, rl_hb hb]; rfl) ?_
        exact ⟨rl_k h hk.1.1, rl_cat hk.1.2.1, hk.1.2.2⟩
      · exact False.elim hk
    · exact False.elim hk
  · exact False.elim hk
theorem rl_spec {ix : _} (h : RH σ τ lv lay ν m0) (hn : m0 ≤ n) (hi : m_cd μ pc = .invokespecial ix) (hk : m_do (rX σ τ lay ν m0) d μ ls I F R n Q (m_step lv d μ (.invokespecial ix) pc ls st I F R n)) : Ev lay d μ pc (ls.map (vs σ)) (st.map (vs σ)) (rI τ I) (rI τ F) (rR σ τ R) (ν n) (rQ σ τ ν m0 Q) := by
  simp only [m_step] at hk
  split at hk
  · rename_i he
    split at hk
    · rename_i hp
      split at hk
      · rename_i hb
        refine rl_c h hi hn hk.2 (as := _ :: _) (by simp only [m_step, he, rl_pop' hp, List.map_cons, vs_r, rl_hb hb]; rfl) ?_
        exact ⟨rl_cat hk.1.1, hk.1.2⟩
      · exact False.elim hk
    · exact False.elim hk
  · rename_i he
    split at hk
    · rename_i hp
      split at hk
      · rename_i hb
        refine rl_c h hi hn hk.2 (as := _ :: _) (by simp only [m_step, he, rl_pop' hp, List.map_cons, vs_r, rl_hb hb]; rfl) ?_
        exact ⟨rl_cat hk.1.1, hk.1.2⟩
      · exact False.elim hk
    · exact False.elim hk
  · rename_i he
    split at hk
    · refine rl_n hi hn hk.2 (by simp only [m_step, he, List.map_cons, vs_r]; rfl) ?_
      exact ⟨rl_cat hk.1.1, hk.1.2⟩
    · exact False.elim hk
  · exact False.elim hk
theorem rl_stat {ix : _} (h : RH σ τ lv lay ν m0) (hn : m0 ≤ n) (hi : m_cd μ pc = .invokestatic ix) (hk : m_do (rX σ τ lay ν m0) d μ ls I F R n Q (m_step lv d μ (.invokestatic ix) pc ls st I F R n)) : Ev lay d μ pc (ls.map (vs σ)) (st.map (vs σ)) (rI τ I) (rI τ F) (rR σ τ R) (ν n) (rQ σ τ ν m0 Q) := by
  simp only [m_step] at hk
  split at hk
  · rename_i he
    split at hk
    · rename_i hp
      split at hk
      · rename_i hb
        refine rl_c h hi hn hk.2 (by simp only [m_step, he, rl_pop' hp, rl_hb0 hb]; rfl) ?_
        exact ⟨rl_cat hk.1.1, hk.1.2⟩
      · exact False.elim hk
    · exact False.elim hk
  · rename_i he
    split at hk
    · split at hk
      · rename_i ha
        have e := rl_in h ha (by decide)
        have eb := rl_in h hk.1.2.2.1 (by decide)
        refine rl_n hi hn hk.2 (by simp only [m_step, he, List.map_cons, vs_r, vs_i, e, ha, rI_row h.1 h.2.1, rI_at h.1]; rfl) ?_
        exact ⟨s_ne h.1 h.2.2.1 hk.1.1, s_ne h.1 h.2.2.1 hk.1.2.1, by rw [eb]; exact hk.1.2.2.1, hk.1.2.2.2.1, by rw [eb]; exact hk.1.2.2.2.2.1, rl_cat hk.1.2.2.2.2.2.1, hk.1.2.2.2.2.2.2⟩
      · rename_i ha
        have e := rl_in h ha (by decide)
        have eb := rl_in h hk.1.1 (by decide)
        refine rl_n hi hn hk.2 (by simp only [m_step, he, List.map_cons, vs_r, vs_i, e, ha, rI_row h.1 h.2.1, rI_at h.1]; rfl) ?_
        exact ⟨by rw [eb]; exact hk.1.1, hk.1.2.1, by rw [eb]; exact hk.1.2.2.1, rl_cat hk.1.2.2.2.1, hk.1.2.2.2.2⟩
      · exact False.elim hk
    · exact False.elim hk
  · rename_i he
    split at hk
    · refine rl_n hi hn hk.2 (by simp only [m_step, he, List.map_cons, vs_i]; rfl) ?_
      exact ⟨rl_cat hk.1.1, hk.1.2⟩
    · exact False.elim hk
  · rename_i he
    split at hk
    · refine rl_n hi hn hk.2 (by simp only [m_step, he, List.map_cons, vs_i]; rfl) ?_
      exact ⟨rl_cat hk.1.1, hk.1.2⟩
    · exact False.elim hk
  · exact False.elim hk
theorem rl_clo (h : RH σ τ lv lay ν m0) : m_clo lv (rX σ τ lay ν m0) := by
  intro d μ pc ls st I F R n Q hk hn
  generalize hi : m_cd μ pc = ins at hk
  cases ins with
  | iadd => exact rl_iadd h hn hi hk
  | isub => exact rl_isub h hn hi hk
  | imul => exact rl_imul h hn hi hk
  | iand => exact rl_iand h hn hi hk
  | ior => exact rl_ior h hn hi hk
  | ixor => exact rl_ixor h hn hi hk
  | ishl => exact rl_ishl h hn hi hk
  | ishr => exact rl_ishr h hn hi hk
  | iushr => exact rl_iushr h hn hi hk
  | idiv => exact rl_idiv h hn hi hk
  | irem => exact rl_irem h hn hi hk
  | ineg => exact rl_ineg h hn hi hk
  | ladd => exact rl_ladd h hn hi hk
  | lsub => exact rl_lsub h hn hi hk
  | lmul => exact rl_lmul h hn hi hk
  | land => exact rl_land h hn hi hk
  | lor => exact rl_lor h hn hi hk
  | lshl => exact rl_lshl h hn hi hk
  | lshr => exact rl_lshr h hn hi hk
  | lushr => exact rl_lushr h hn hi hk
  | lcmp => exact rl_lcmp h hn hi hk
  | i2l => exact rl_i2l h hn hi hk
  | l2i => exact rl_l2i h hn hi hk
  | i2c => exact rl_i2c h hn hi hk
  | i2f => exact rl_i2f h hn hi hk
  | i2d => exact rl_i2d h hn hi hk
  | f2i => exact rl_f2i h hn hi hk
  | d2i => exact rl_d2i h hn hi hk
  | d2l => exact rl_d2l h hn hi hk
  | f2d => exact rl_f2d h hn hi hk
  | fadd => exact rl_fadd h hn hi hk
  | fsub => exact rl_fsub h hn hi hk
  | fmul => exact rl_fmul h hn hi hk
  | fdiv => exact rl_fdiv h hn hi hk
  | dadd => exact rl_dadd h hn hi hk
  | dsub => exact rl_dsub h hn hi hk
  | dmul => exact rl_dmul h hn hi hk
  | ddiv => exact rl_ddiv h hn hi hk
  | fcmp v => exact rl_fcmp h hn hi hk
  | dcmp v => exact rl_dcmp h hn hi hk
  | iconst v => exact rl_iconst h hn hi hk
  | bipush v => exact rl_bipush h hn hi hk
  | sipush v => exact rl_sipush h hn hi hk
  | lconst v => exact rl_lconst h hn hi hk
  | dup => exact rl_dup h hn hi hk
  | dup2 => exact rl_dup2 h hn hi hk
  | pop => exact rl_pop1 h hn hi hk
  | iload_n v => exact rl_iload_n h hn hi hk
  | iload v => exact rl_iload h hn hi hk
  | lload_n v => exact rl_lload_n h hn hi hk
  | lload v => exact rl_lload h hn hi hk
  | fload_n v => exact rl_fload_n h hn hi hk
  | fload v => exact rl_fload h hn hi hk
  | dload_n v => exact rl_dload_n h hn hi hk
  | dload v => exact rl_dload h hn hi hk
  | aload_n v => exact rl_aload_n h hn hi hk
  | aload v => exact rl_aload h hn hi hk
  | istore_n v => exact rl_istore_n h hn hi hk
  | istore v => exact rl_istore h hn hi hk
  | fstore_n v => exact rl_fstore_n h hn hi hk
  | fstore v => exact rl_fstore h hn hi hk
  | lstore_n v => exact rl_lstore_n h hn hi hk
  | lstore v => exact rl_lstore h hn hi hk
  | dstore_n v => exact rl_dstore_n h hn hi hk
  | dstore v => exact rl_dstore h hn hi hk
  | astore_n v => exact rl_astore_n h hn hi hk
  | astore v => exact rl_astore h hn hi hk
  | iinc i v => exact rl_iinc h hn hi hk
  | ldc v => exact rl_ldc h hn hi hk
  | ldc_w v => exact rl_ldc_w h hn hi hk
  | ldc2_w v => exact rl_ldc2_w h hn hi hk
  | fconst v =>
    match v, hi, hk with
    | 0, hi, hk => exact rl_n hi hn hk.2 rfl hk.1
    | 1, hi, hk => exact rl_n hi hn hk.2 rfl hk.1
    | 2, hi, hk => exact rl_n hi hn hk.2 rfl hk.1
  | dconst v =>
    match v, hi, hk with
    | 0, hi, hk => exact rl_n hi hn hk.2 rfl hk.1
    | 1, hi, hk => exact rl_n hi hn hk.2 rfl hk.1
  | goto v => exact rl_goto h hn hi hk
  | ifCond c off => cases c with
    | eq => exact rl_if_eq h hn hi hk
    | ne => exact rl_if_ne h hn hi hk
    | lt => exact rl_if_lt h hn hi hk
    | ge => exact rl_if_ge h hn hi hk
    | gt => exact rl_if_gt h hn hi hk
    | le => exact rl_if_le h hn hi hk
  | if_icmp c off => cases c with
    | eq => exact rl_ic_eq h hn hi hk
    | ne => exact rl_ic_ne h hn hi hk
    | lt => exact rl_ic_lt h hn hi hk
    | ge => exact rl_ic_ge h hn hi hk
    | gt => exact rl_ic_gt h hn hi hk
    | le => exact rl_ic_le h hn hi hk
  | ifnull v => exact rl_ifnull h hn hi hk
  | ifnonnull v => exact rl_ifnonnull h hn hi hk
  | tableswitch a b c e => exact rl_tsw h hn hi hk
  | lookupswitch a b => exact rl_lsw h hn hi hk
  | lreturn => exact rl_lreturn h hn hi hk
  | freturn => exact rl_freturn h hn hi hk
  | dreturn => exact rl_dreturn h hn hi hk
  | return_ => exact rl_return_ h hn hi hk
  | ireturn => exact rl_ireturn h hn hi hk
  | getfield ix => exact rl_getfield h hn hi hk
  | putfield ix => exact rl_putfield h hn hi hk
  | iaload => exact rl_iaload h hn hi hk
  | faload => exact rl_faload h hn hi hk
  | baload => exact rl_baload h hn hi hk
  | caload => exact rl_caload h hn hi hk
  | aaload => exact rl_aaload h hn hi hk
  | iastore => exact rl_iastore h hn hi hk
  | fastore => exact rl_fastore h hn hi hk
  | bastore => exact rl_bastore h hn hi hk
  | castore => exact rl_castore h hn hi hk
  | aastore => exact rl_aastore h hn hi hk
  | arraylength => exact rl_arraylength h hn hi hk
  | newarray v => exact rl_newarray h hn hi hk
  | anewarray v => exact rl_anewarray h hn hi hk
  | new v => exact rl_new h hn hi hk
  | invokevirtual ix => exact rl_virt h hn hi hk
  | invokespecial ix => exact rl_spec h hn hi hk
  | invokestatic ix => exact rl_stat h hn hi hk
  | _ => exact False.elim hk
/-- a run under names is a run -/
theorem reloc (h : RH σ τ lv lay ν m0) (hn : m0 ≤ n) (k : Ev lv d μ pc ls st I F R n Q) : Ev lay d μ pc (ls.map (vs σ)) (st.map (vs σ)) (rI τ I) (rI τ F) (rR σ τ R) (ν n) (rQ σ τ ν m0 Q) := k (rX σ τ lay ν m0) rl_mono (rl_clo h) hn
end RLR
end RELOC
