-- what a picture of memory means on the real heap, and that the machine's steps are the JVM's
def m_k (base b a : Nat) : Nat := match a with
  | 0 => b
  | a + 1 => base + (a + 1)
def m_cv (base b : Nat) (v : Value) : Value := match v with
  | .ref a => .ref (m_k base b a)
  | .int x => .int x
  | .long x => .long x
  | .float x => .float x
  | .double x => .double x
  | .null => .null
  | .retAddr x => .retAddr x
def m_ro (base r : Nat) : Option Nat := match r with
  | 0 => none
  | r + 1 => some (base + (r + 1))
def m_fc (base ty : Nat) (x : Int32) (r : Nat) : Value := match ty with
  | 3 => va_rf (m_ro base r)
  | _ => .int x
abbrev m_ID : Type := ClassId × ClassId × ClassId × ClassId × ClassId
def m_tys (ids : m_ID) : List (ClassId × FieldType) := [(ids.1, .int), (ids.2.1, .float), (ids.2.2.1, .boolean), (ids.2.2.2.1, .char), (ids.2.2.2.2, .object "ShelfSlots$Shed")]
def m_ce (base : Nat) (ids : m_ID) (k : Nat × Nat) (ri : Nat → Int32) (rf : Nat → UInt32) (rr : Nat → Nat) : va_E := match k.1 with
  | 0 => .inl (ids.1, k.2, .inl ri)
  | 1 => .inl (ids.2.1, k.2, .inr (.inr (.inl rf)))
  | 2 => .inl (ids.2.2.1, k.2, .inl ri)
  | 3 => .inl (ids.2.2.2.1, k.2, .inl ri)
  | 4 => .inl (ids.2.2.2.2, k.2, .inr (.inr (.inr (.inr fun j => m_ro base (rr j)))))
  | ci + 5 => .inr (ci, (List.range (m_c ci).2.2.1).map fun k => m_fc base (m_tyc ((m_c ci).2.2.2 k)) (ri k) (rr k))
theorem m_ce_o {base : Nat} {ids : m_ID} {ci z : Nat} {ri : Nat → Int32} {rf : Nat → UInt32} {rr : Nat → Nat} : m_ce base ids (5 + ci, z) ri rf rr = .inr (ci, (List.range (m_c ci).2.2.1).map fun k => m_fc base (m_tyc ((m_c ci).2.2.2 k)) (ri k) (rr k)) := by
  rw [Nat.add_comm]
  rfl
def m_w (base : Nat) (ids : m_ID) (lay : mL) (I : mI) (F : mF) (R : mR) (n : Nat) : va_W := (List.range (n - 1)).map fun j => (base + (j + 1), m_ce base ids (lay (j + 1)) (I (j + 1)) (F (j + 1)) (R (j + 1)))
section MW
variable {base : Nat} {ids : m_ID} {lay : mL} {I I' : mI} {F F' : mF} {R R' : mR} {n a : Nat}
theorem m_w_get (h1 : 1 ≤ a) (h2 : a < n) : (m_w base ids lay I F R n)[a - 1]? = some (base + a, m_ce base ids (lay a) (I a) (F a) (R a)) := by
  unfold m_w
  rw [List.getElem?_map, List.getElem?_range (by omega)]
  simp only [Option.map_some]
  rw [show a - 1 + 1 = a by omega]
theorem m_w_at {k : Nat} {q : Nat × va_E} (h : (m_w base ids lay I F R n)[k]? = some q) : k + 1 < n ∧ q = (base + (k + 1), m_ce base ids (lay (k + 1)) (I (k + 1)) (F (k + 1)) (R (k + 1))) := by
  unfold m_w at h
  rw [List.getElem?_map] at h
  cases hk : (List.range (n - 1))[k]? with
  | none => rw [hk] at h; cases h
  | some j =>
    rw [hk] at h
    have hl := (List.getElem?_eq_some_iff.mp hk).1
    rw [List.length_range] at hl
    rw [List.getElem?_range hl] at hk
    cases hk
    simp only [Option.map_some, Option.some.injEq] at h
    exact ⟨by omega, h.symm⟩
theorem m_w_D : va_D (fun q : Nat => base < q) (m_w base ids lay I F R n) := by
  refine ⟨fun i j p q hi hj e => ?_, fun k q hk => ?_⟩
  · obtain ⟨-, rfl⟩ := m_w_at hi
    obtain ⟨-, rfl⟩ := m_w_at hj
    simp only at e
    omega
  · obtain ⟨-, rfl⟩ := m_w_at hk
    show base < base + (k + 1)
    omega
theorem m_w_set (h1 : 1 ≤ a) (h2 : a < n) (hI : ∀ x, x ≠ a → I' x = I x) (hF : ∀ x, x ≠ a → F' x = F x) (hR : ∀ x, x ≠ a → R' x = R x) : (m_w base ids lay I F R n).set (a - 1) (base + a, m_ce base ids (lay a) (I' a) (F' a) (R' a)) = m_w base ids lay I' F' R' n := by
  apply List.ext_getElem?
  intro k
  rw [List.getElem?_set]
  by_cases hk : a - 1 = k
  · subst hk
    rw [if_pos rfl, m_w_get h1 h2, if_pos (by simp only [m_w, List.length_map, List.length_range]; omega)]
  · rw [if_neg hk]
    by_cases hl : k + 1 < n
    · have e1 := m_w_get (base := base) (ids := ids) (lay := lay) (I := I) (F := F) (R := R) (a := k + 1) (n := n) (by omega) hl
      have e2 := m_w_get (base := base) (ids := ids) (lay := lay) (I := I') (F := F') (R := R') (a := k + 1) (n := n) (by omega) hl
      rw [Nat.add_sub_cancel] at e1 e2
      rw [e1, e2, hI _ (by omega), hF _ (by omega), hR _ (by omega)]
    · rw [List.getElem?_eq_none (by simp only [m_w, List.length_map, List.length_range]; omega), List.getElem?_eq_none (by simp only [m_w, List.length_map, List.length_range]; omega)]
theorem m_w_push (h1 : 1 ≤ n) (hI : ∀ x, x ≠ n → I' x = I x) (hF : ∀ x, x ≠ n → F' x = F x) (hR : ∀ x, x ≠ n → R' x = R x) : m_w base ids lay I' F' R' (n + 1) = m_w base ids lay I F R n ++ [(base + n, m_ce base ids (lay n) (I' n) (F' n) (R' n))] := by
  unfold m_w
  rw [show n + 1 - 1 = (n - 1) + 1 by omega, List.range_succ, List.map_append]
  congr 1
  · apply List.map_congr_left
    intro j hj
    have := List.mem_range.mp hj
    rw [hI _ (by omega), hF _ (by omega), hR _ (by omega)]
  · simp only [List.map_cons, List.map_nil]
    rw [show n - 1 + 1 = n by omega]
end MW
def m_cz (k : Nat × Nat) : Nat := match k.1 with
  | 0 => k.2
  | 1 => k.2
  | 2 => k.2
  | 3 => k.2
  | 4 => k.2
  | ci + 5 => (m_c ci).2.2.1
theorem m_cz_o {ci z : Nat} : m_cz (5 + ci, z) = (m_c ci).2.2.1 := by
  rw [Nat.add_comm]
  rfl
def m_sz (lay : mL) : Nat → Nat
  | 0 => 0
  | n + 1 => m_sz lay n + m_cz (lay n)
theorem m_sz_le {lay : mL} {n n' : Nat} (h : n ≤ n') : m_sz lay n ≤ m_sz lay n' := by
  induction h with
  | refl => exact Nat.le_refl _
  | step _ ih => exact Nat.le_trans ih (Nat.le_add_right _ _)
-- locals
def m_ll (base b : Nat) (ls : List Value) : List (Nat × Value) := (List.range ls.length).filterMap fun i => match ls[i]? with
  | some v => if v = m_j then none else some (i, m_cv base b v)
  | none => none
theorem m_ll_mem {base b : Nat} {ls : List Value} {q : Nat × Value} : q ∈ m_ll base b ls ↔ ∃ v, ls[q.1]? = some v ∧ v ≠ m_j ∧ q.2 = m_cv base b v := by
  unfold m_ll
  rw [List.mem_filterMap]
  constructor
  · rintro ⟨i, -, h⟩
    cases hv : ls[i]? with
    | none => rw [hv] at h; cases h
    | some v =>
      rw [hv] at h
      simp only at h
      by_cases hj : v = m_j
      · rw [if_pos hj] at h; cases h
      · rw [if_neg hj] at h
        cases h
        exact ⟨v, hv, hj, rfl⟩
  · rintro ⟨v, h1, h2, h3⟩
    refine ⟨q.1, List.mem_range.mpr (List.getElem?_eq_some_iff.mp h1).1, ?_⟩
    rw [h1]
    simp only
    rw [if_neg h2, ← h3]
def m_lr (base b : Nat) (rl : Array Slot) (nL : Nat) (ls : List Value) : Prop := lv_has rl nL (m_ll base b ls) ∧ ls.length = nL
theorem m_lr_get {base b : Nat} {rl : Array Slot} {nL : Nat} {ls : List Value} (h : m_lr base b rl nL ls) {i : Nat} {v : Value} (hv : ls[i]? = some v) (hj : v ≠ m_j) : rl[i]? = some (.val (m_cv base b v)) := h.1.2.2 (i, m_cv base b v) (m_ll_mem.mpr ⟨v, hv, hj, rfl⟩)
theorem m_lr_mem {base b : Nat} {ls : List Value} {i : Nat} {v : Value} (hv : ls[i]? = some v) (hj : v ≠ m_j) : ∃ k : Nat, (m_ll base b ls)[k]? = some (i, m_cv base b v) := List.getElem?_of_mem (m_ll_mem.mpr ⟨v, hv, hj, rfl⟩)
theorem m_cv_cat {base b : Nat} (v : Value) : (m_cv base b v).category = v.category := by cases v <;> rfl
theorem m_kl_eq {v w : Value} (h : m_kl v = w) (hw : w ≠ m_j) : v = w ∧ ¬ v.category = 2 := by
  subst h
  cases v <;> first | exact absurd rfl hw | exact ⟨rfl, by decide⟩ | exact ⟨rfl, fun h => by cases h⟩
theorem m_kil_len (ls : List Value) (i : Nat) : (m_kil ls i).length = ls.length := by
  cases i <;> simp [m_kil]
theorem m_kil_get {ls : List Value} {i j : Nat} {w : Value} (h : (m_kil ls i)[j]? = some w) (hw : w ≠ m_j) : ls[j]? = some w ∧ ¬ (j + 1 = i ∧ w.category = 2) := by
  cases i with
  | zero => exact ⟨h, fun q => by omega⟩
  | succ i =>
    simp only [m_kil, List.getElem?_modify] at h
    cases hv : ls[j]? with
    | none => rw [hv] at h; simp at h
    | some v =>
      rw [hv] at h
      by_cases hij : i = j
      · subst hij
        simp at h
        obtain ⟨rfl, h2⟩ := m_kl_eq h hw
        exact ⟨rfl, fun q => h2 q.2⟩
      · simp [hij] at h
        subst h
        exact ⟨rfl, fun q => by omega⟩
theorem m_lr_s1 {base b : Nat} {rl rl' : Array Slot} {nL : Nat} {ls : List Value} {i : Nat} {v : Value} (h : m_lr base b rl nL ls) (hi : i < ls.length) (h' : lv_has rl' nL ((i, m_cv base b v) :: (m_ll base b ls).filter (fun q => !(q.1 == i) && !(q.1 + 1 == i && q.2.category == 2)))) : m_lr base b rl' nL (m_s1 ls i v) := by
  refine ⟨⟨h'.1, h'.2.1, fun q hq => ?_⟩, by simp only [m_s1, List.length_set, m_kil_len]; exact h.2⟩
  obtain ⟨w, h1, h2, h3⟩ := m_ll_mem.mp hq
  apply h'.2.2
  unfold m_s1 at h1
  rw [List.getElem?_set] at h1
  by_cases hk : i = q.1
  · rw [if_pos hk, if_pos (by rw [m_kil_len]; omega)] at h1
    cases h1
    refine List.mem_cons.mpr (Or.inl ?_)
    rw [← h3, hk]
  · rw [if_neg hk] at h1
    obtain ⟨g1, g2⟩ := m_kil_get h1 h2
    refine List.mem_cons.mpr (Or.inr (List.mem_filter.mpr ⟨m_ll_mem.mpr ⟨w, g1, h2, h3⟩, ?_⟩))
    have e1 : (q.1 == i) = false := by simpa using fun q => hk q.symm
    have e2 : (q.1 + 1 == i && q.2.category == 2) = false := by
      rw [h3, m_cv_cat]
      simpa using fun a c => g2 ⟨a, c⟩
    rw [e1, e2]
    rfl
theorem m_lr_s2 {base b : Nat} {rl rl' : Array Slot} {nL : Nat} {ls : List Value} {i : Nat} {v : Value} (h : m_lr base b rl nL ls) (hi : i + 1 < ls.length) (h' : lv_has rl' nL ((i, m_cv base b v) :: (m_ll base b ls).filter (fun q => !(q.1 == i) && (!(q.1 == i + 1) && !(q.1 + 1 == i && q.2.category == 2))))) : m_lr base b rl' nL (m_s2 ls i v) := by
  refine ⟨⟨h'.1, h'.2.1, fun q hq => ?_⟩, by simp only [m_s2, List.length_set, m_kil_len]; exact h.2⟩
  obtain ⟨w, h1, h2, h3⟩ := m_ll_mem.mp hq
  apply h'.2.2
  unfold m_s2 at h1
  rw [List.getElem?_set, List.getElem?_set] at h1
  by_cases hk1 : i + 1 = q.1
  · rw [if_pos hk1, if_pos (by rw [List.length_set, m_kil_len]; omega)] at h1
    cases h1
    exact absurd rfl h2
  · rw [if_neg hk1] at h1
    by_cases hk : i = q.1
    · rw [if_pos hk, if_pos (by rw [m_kil_len]; omega)] at h1
      cases h1
      refine List.mem_cons.mpr (Or.inl ?_)
      rw [← h3, hk]
    · rw [if_neg hk] at h1
      obtain ⟨g1, g2⟩ := m_kil_get h1 h2
      refine List.mem_cons.mpr (Or.inr (List.mem_filter.mpr ⟨m_ll_mem.mpr ⟨w, g1, h2, h3⟩, ?_⟩))
      have e1 : (q.1 == i) = false := by simpa using fun q => hk q.symm
      have e3 : (q.1 == i + 1) = false := by simpa using fun q => hk1 q.symm
      have e2 : (q.1 + 1 == i && q.2.category == 2) = false := by
        rw [h3, m_cv_cat]
        simpa using fun a c => g2 ⟨a, c⟩
      rw [e1, e2, e3]
      rfl
theorem m_lv_args {base b : Nat} : ∀ (as : List Value) (i : Nat) (q : Nat) (v : Value), (m_sl as)[q]? = some v → v ≠ m_j → (i + q, m_cv base b v) ∈ lv_args i (as.map (m_cv base b))
  | [], _, _, _, h, _ => by simp [m_sl] at h
  | a :: r, i, q, v, h, hj => by
    simp only [List.map_cons, lv_args, m_cv_cat]
    cases q with
    | zero =>
      have : a = v := by cases a <;> simpa [m_sl] using h
      subst this
      exact List.mem_cons_self
    | succ q =>
      refine List.mem_cons_of_mem _ ?_
      by_cases hc : a.category = 2
      · rw [if_pos hc]
        have h2 : (m_j :: m_sl r)[q]? = some v := by cases a <;> first | (simp [Value.category] at hc; done) | simpa [m_sl] using h
        cases q with
        | zero => cases h2; exact absurd rfl hj
        | succ q =>
          have := m_lv_args (base := base) (b := b) r (i + 2) q v (by simpa using h2) hj
          rw [show i + (q + 1 + 1) = i + 2 + q by omega]
          exact this
      · rw [if_neg hc]
        have h2 : (m_sl r)[q]? = some v := by cases a <;> first | (exact absurd rfl hc) | simpa [m_sl] using h
        have := m_lv_args (base := base) (b := b) r (i + 1) q v h2 hj
        rw [show i + (q + 1) = i + 1 + q by omega]
        exact this
theorem m_sl_len {base b : Nat} : ∀ (as : List Value), (lg_sl (as.map (m_cv base b))).length = (m_sl as).length
  | [] => rfl
  | a :: r => by
    have ih := m_sl_len (base := base) (b := b) r
    unfold lg_sl at ih ⊢
    rw [List.map_cons, List.flatMap_cons, List.length_append, ih, m_cv_cat]
    cases a <;> simp [m_sl, Value.category] <;> omega
theorem m_lr_ent {base b : Nat} {as : List Value} {ml : Nat} (h : (m_sl as).length ≤ ml) : m_lr base b ((lg_sl (as.map (m_cv base b)) ++ List.replicate (ml - (lg_sl (as.map (m_cv base b))).length) Slot.unset).toArray) ml (m_ent as ml) := by
  have hl := lv_entry (as.map (m_cv base b)) (n := ml) (by rw [m_sl_len]; exact h)
  refine ⟨⟨hl.1, hl.2.1, fun q hq => ?_⟩, by simp only [m_ent, List.length_append, List.length_replicate]; omega⟩
  obtain ⟨v, h1, h2, h3⟩ := m_ll_mem.mp hq
  apply hl.2.2
  unfold m_ent at h1
  rw [List.getElem?_append] at h1
  by_cases hk : q.1 < (m_sl as).length
  · rw [if_pos hk] at h1
    have := m_lv_args (base := base) (b := b) as 0 q.1 v h1 h2
    rw [Nat.zero_add] at this
    rw [← h3] at this
    exact this
  · rw [if_neg hk] at h1
    have := List.mem_of_getElem? h1
    rw [List.mem_replicate] at this
    exact absurd this.2 h2
def m_pic (base : Nat) (ids : m_ID) (D : va_G) (lay : mL) (L : Nat) (xs : Nat → Int32) (I : mI) (F : mF) (R : mR) (n : Nat) (H : Heap) : Prop := va_P D vwCl (m_w base ids lay I F R n) H ∧ H.size = base + n ∧ 1 ≤ n ∧ ∀ j, j < L → I 0 j = xs j
def m_kx (base b L : Nat) (xs : Nat → Int32) (ids : m_ID) (D : va_G) (U : State) : Prop := va_K D vwCl (m_tys ids) U ∧ (∀ q ∈ m_nests, va_Nw (.methodLinkNest q.1 q.2.1 q.2.2.1 q.2.2.2) U) ∧ va_AO "ShelfSlots$Shed" U ∧ va_X b L xs U U.heap ∧ base < U.heap.size ∧ b ≤ base
def m_cx (base b L : Nat) (xs : Nat → Int32) (ids : m_ID) (D : va_G) (p : Program) (s : State) (m : MethodId) (args : Array Value) (meth : Method) (c : Code) (μ : Nat) : Prop :=
  p.tables.exec = Jvm.exec ∧ c.code = (m_q μ).2.1 ∧ meth.sig.returnType = m_rt μ ∧ c.maxLocals = m_ml μ ∧ s.vm.findClass (m_q μ).1.cls = some m.cls ∧ (∀ w ∈ m_wt, w.before args s = true) ∧ meth.locks = false ∧ (m_ini μ = true → meth.name = "<init>") ∧ m_kx base b L xs ids D s ∧ μ < m_all.length
def m_end (μ pc : Nat) (v : Option Value) : Prop := match v with
  | none => m_cd μ pc = .return_ ∧ m_rt μ = none
  | some (.int x) => m_cd μ pc = .ireturn ∧ ∃ t, m_rt μ = some t ∧ narrow t (.int x) = .int x
  | some (.long _) => m_cd μ pc = .lreturn ∧ m_rt μ = some .long
  | some (.float _) => m_cd μ pc = .freturn ∧ m_rt μ = some .float
  | some (.double _) => m_cd μ pc = .dreturn ∧ m_rt μ = some .double
  | _ => False
def m_A (base : Nat) : Nat → Prop := fun q => base < q
def m_cs (base b : Nat) (st : List Value) : List Value := st.map (m_cv base b)
/-- from a real frame that shows (pc, ls, st) over a heap that shows I F R n, one comes to Qr, if one comes to it from the end with v, I', F', R', n' -/
def m_S (l : Launch) (base b L : Nat) (xs : Nat → Int32) (ids : m_ID) (D : va_G) (lay : mL) (d μ pc : Nat) (ls st : List Value) (I : mI) (F : mF) (R : mR) (n : Nat) (v : Option Value) (I' : mI) (F' : mF) (R' : mR) (n' : Nat) : Prop :=
  ∀ (p : Program) (e : Env) (R0 : Room) (s : State) (m : MethodId) (args : Array Value) (below : List Frame) (meth : Method) (c : Code) (Qr : State → Prop) (H : Heap) (locs : List Loc) (cells slots : Nat) (rl : Array Slot),
    m_cx base b L xs ids D p s m args meth c μ → m_pic base ids D lay L xs I F R n H → va_S (m_A base) s.heap H locs → m_lr base b rl (m_ml μ) ls →
    cells + (n' - n) ≤ R0.cells → slots + (m_sz lay n' - m_sz lay n) ≤ R0.slots → d ≤ R0.frames → 34 * d ≤ R0.locals →
    (∀ (pc' : Nat) (H' : Heap) (locs' : List Loc) (rl' : Array Slot), m_end μ pc' v → m_pic base ids D lay L xs I' F' R' n' H' → va_S (m_A base) s.heap H' locs' → W p l e R0 s m args below meth c H' locs' (cells + (n' - n)) (slots + (m_sz lay n' - m_sz lay n)) Qr (F0 m pc' rl' v.toList)) →
    W p l e R0 s m args below meth c H locs cells slots Qr (F0 m pc rl (m_cs base b st))
def m_wf (ls st : List Value) (R : mR) (n : Nat) : Prop := (∀ a, Value.ref a ∈ ls → a < n) ∧ (∀ a, Value.ref a ∈ st → a < n) ∧ ∀ a k, R a k < n
def m_X (l : Launch) (base b L : Nat) (xs : Nat → Int32) (ids : m_ID) (D : va_G) (lay : mL) : mX := fun d μ pc ls st I F R n Q => m_wf ls st R n →
  ∃ (v : Option Value) (I' : mI) (F' : mF) (R' : mR) (n' : Nat), Q v I' F' R' n' ∧ n ≤ n' ∧ (∀ a k, R' a k < n') ∧ (∀ a, v ≠ some (.ref a)) ∧ m_S l base b L xs ids D lay d μ pc ls st I F R n v I' F' R' n'
theorem m_dec {μ pc : Nat} {i : Instr} (h : m_cd μ pc = i) (hn : i ≠ .nop) (hs : m_sw i = false) : decode (m_q μ).2.1 pc = .ok (i, m_len i) := by
  obtain ⟨k, h1, h2⟩ := m_cd_ok (μ := μ) (pc := pc) (by rw [h]; exact hn)
  rw [h] at h1 h2
  rcases h2 with h2 | h2
  · rw [hs] at h2; cases h2
  · rw [h1, h2]
theorem m_decS {μ pc : Nat} {i : Instr} (h : m_cd μ pc = i) (hn : i ≠ .nop) : ∃ k, decode (m_q μ).2.1 pc = .ok (i, k) := by
  obtain ⟨k, h1, -⟩ := m_cd_ok (μ := μ) (pc := pc) (by rw [h]; exact hn)
  rw [h] at h1
  exact ⟨k, h1⟩
section TR
variable {l : Launch} {base b L : Nat} {xs : Nat → Int32} {ids : m_ID} {D : va_G} {lay : mL} {d μ pc pc1 n n1 : Nat} {ls st ls1 st1 : List Value} {I I1 : mI} {F F1 : mF} {R R1 : mR} {Q : mP}
theorem m_trans (hn : n ≤ n1) (hwf : m_wf ls st R n → m_wf ls1 st1 R1 n1)
    (hT : m_wf ls st R n → ∀ (p : Program) (e : Env) (R0 : Room) (s : State) (m : MethodId) (args : Array Value) (below : List Frame) (meth : Method) (c : Code) (Qr : State → Prop) (H : Heap) (locs : List Loc) (cells slots : Nat) (rl : Array Slot),
      m_cx base b L xs ids D p s m args meth c μ → m_pic base ids D lay L xs I F R n H → va_S (m_A base) s.heap H locs → m_lr base b rl (m_ml μ) ls →
      cells + (n1 - n) ≤ R0.cells → slots + (m_sz lay n1 - m_sz lay n) ≤ R0.slots → d ≤ R0.frames → 34 * d ≤ R0.locals →
      (∀ (H1 : Heap) (locs1 : List Loc) (rl1 : Array Slot), m_pic base ids D lay L xs I1 F1 R1 n1 H1 → va_S (m_A base) s.heap H1 locs1 → m_lr base b rl1 (m_ml μ) ls1 → W p l e R0 s m args below meth c H1 locs1 (cells + (n1 - n)) (slots + (m_sz lay n1 - m_sz lay n)) Qr (F0 m pc1 rl1 (m_cs base b st1))) →
      W p l e R0 s m args below meth c H locs cells slots Qr (F0 m pc rl (m_cs base b st)))
    (k : m_X l base b L xs ids D lay d μ pc1 ls1 st1 I1 F1 R1 n1 Q) : m_X l base b L xs ids D lay d μ pc ls st I F R n Q := by
  intro hw
  obtain ⟨v, I', F', R', n', hq, hn', hR', hv, hS⟩ := k (hwf hw)
  refine ⟨v, I', F', R', n', hq, Nat.le_trans hn hn', hR', hv, ?_⟩
  intro p e R0 s m args below meth c Qr H locs cells slots rl hcx hpic hva hlr hc hs hd hloc hret
  have z1 := m_sz_le (lay := lay) hn
  have z2 := m_sz_le (lay := lay) hn'
  refine hT hw p e R0 s m args below meth c Qr H locs cells slots rl hcx hpic hva hlr (by omega) (by omega) hd hloc ?_
  intro H1 locs1 rl1 hpic1 hva1 hlr1
  refine hS p e R0 s m args below meth c Qr H1 locs1 _ _ rl1 hcx hpic1 hva1 hlr1 (by omega) (by omega) hd hloc ?_
  intro pc' H' locs' rl' h1 h2 h3
  have := hret pc' H' locs' rl' h1 h2 h3
  rw [show cells + (n1 - n) + (n' - n1) = cells + (n' - n) by omega, show slots + (m_sz lay n1 - m_sz lay n) + (m_sz lay n' - m_sz lay n1) = slots + (m_sz lay n' - m_sz lay n) by omega]
  exact this
/-- a step that makes nothing -/
theorem m_same (hwf : m_wf ls st R n → m_wf ls1 st1 R1 n)
    (hT : m_wf ls st R n → ∀ (p : Program) (e : Env) (R0 : Room) (s : State) (m : MethodId) (args : Array Value) (below : List Frame) (meth : Method) (c : Code) (Qr : State → Prop) (H : Heap) (locs : List Loc) (cells slots : Nat) (rl : Array Slot),
      m_cx base b L xs ids D p s m args meth c μ → m_pic base ids D lay L xs I F R n H → va_S (m_A base) s.heap H locs → m_lr base b rl (m_ml μ) ls →
      cells ≤ R0.cells → slots ≤ R0.slots → d ≤ R0.frames → 34 * d ≤ R0.locals →
      (∀ (H1 : Heap) (locs1 : List Loc) (rl1 : Array Slot), m_pic base ids D lay L xs I1 F1 R1 n H1 → va_S (m_A base) s.heap H1 locs1 → m_lr base b rl1 (m_ml μ) ls1 → W p l e R0 s m args below meth c H1 locs1 cells slots Qr (F0 m pc1 rl1 (m_cs base b st1))) →
      W p l e R0 s m args below meth c H locs cells slots Qr (F0 m pc rl (m_cs base b st)))
    (k : m_X l base b L xs ids D lay d μ pc1 ls1 st1 I1 F1 R1 n Q) : m_X l base b L xs ids D lay d μ pc ls st I F R n Q := by
  refine m_trans (Nat.le_refl n) hwf ?_ k
  intro hw p e R0 s m args below meth c Qr H locs cells slots rl hcx hpic hva hlr hc hs hd hloc kk
  refine hT hw p e R0 s m args below meth c Qr H locs cells slots rl hcx hpic hva hlr (by omega) (by omega) hd hloc ?_
  intro H1 locs1 rl1 h1 h2 h3
  have := kk H1 locs1 rl1 h1 h2 h3
  rw [Nat.sub_self, Nat.sub_self, Nat.add_zero, Nat.add_zero] at this
  exact this
/-- a step of the stack alone -/
theorem m_pure (hst : ∀ a, Value.ref a ∈ st1 → Value.ref a ∈ st ∨ Value.ref a ∈ ls)
    (hT : ∀ (p : Program) (e : Env) (R0 : Room) (s : State) (m : MethodId) (args : Array Value) (below : List Frame) (meth : Method) (c : Code) (Qr : State → Prop) (H : Heap) (locs : List Loc) (cells slots : Nat) (rl : Array Slot),
      p.tables.exec = Jvm.exec → c.code = (m_q μ).2.1 → s.vm.findClass (m_own (m_ox μ)) = some m.cls → (∀ w ∈ m_wt, w.before args s = true) → m_lr base b rl (m_ml μ) ls →
      W p l e R0 s m args below meth c H locs cells slots Qr (F0 m pc1 rl (m_cs base b st1)) → W p l e R0 s m args below meth c H locs cells slots Qr (F0 m pc rl (m_cs base b st)))
    (k : m_X l base b L xs ids D lay d μ pc1 ls st1 I F R n Q) : m_X l base b L xs ids D lay d μ pc ls st I F R n Q := by
  refine m_trans (Nat.le_refl n) (fun h => ⟨h.1, fun a ha => (hst a ha).elim (h.2.1 a) (h.1 a), h.2.2⟩) ?_ k
  intro _ p e R0 s m args below meth c Qr H locs cells slots rl hcx hpic hva hlr hc hs hd hloc kk
  obtain ⟨hx, hb, hr, hml, hown, hts, hlk, hini, hkx, hm⟩ := hcx
  have ho : s.vm.findClass (m_own (m_ox μ)) = some m.cls := by
    rw [show m_own (m_ox μ) = (m_q μ).1.cls from m_own_all _ (m_q_in hm)]
    exact hown
  refine hT p e R0 s m args below meth c Qr H locs cells slots rl hx hb ho hts hlr ?_
  have := kk H locs rl hpic hva hlr
  simpa using this
end TR
section YR
variable {l : Launch} {base b L : Nat} {xs : Nat → Int32} {ids : m_ID} {D : va_G} {lay : mL} {d μ pc n : Nat} {ls st : List Value} {I : mI} {F : mF} {R : mR} {Q : mP}
theorem x_iadd {x y : Int32} {r : List Value} (hi : m_cd μ pc = .iadd) (k : m_X l base b L xs ids D lay d μ (pc + 1) ls (.int (x + y) :: r) I F R n Q) : m_X l base b L xs ids D lay d μ pc ls (.int y :: .int x :: r) I F R n Q :=
  m_pure (by intro a h; simp at h ⊢; exact Or.inl h) (fun _ _ _ _ _ _ _ _ _ _ _ _ _ _ _ hx hb _ _ _ kk => lv_iadd hx hb (m_dec hi nofun rfl) kk) k
theorem y_iadd (hi : m_cd μ pc = .iadd) (k : m_do (m_X l base b L xs ids D lay) d μ ls I F R n Q (m_step lay d μ (.iadd) pc ls st I F R n)) : m_X l base b L xs ids D lay d μ pc ls st I F R n Q := by
  simp only [m_step] at k
  split at k
  · exact x_iadd hi k.2
  · exact False.elim k
theorem x_isub {x y : Int32} {r : List Value} (hi : m_cd μ pc = .isub) (k : m_X l base b L xs ids D lay d μ (pc + 1) ls (.int (x - y) :: r) I F R n Q) : m_X l base b L xs ids D lay d μ pc ls (.int y :: .int x :: r) I F R n Q :=
  m_pure (by intro a h; simp at h ⊢; exact Or.inl h) (fun _ _ _ _ _ _ _ _ _ _ _ _ _ _ _ hx hb _ _ _ kk => lv_isub hx hb (m_dec hi nofun rfl) kk) k
theorem y_isub (hi : m_cd μ pc = .isub) (k : m_do (m_X l base b L xs ids D lay) d μ ls I F R n Q (m_step lay d μ (.isub) pc ls st I F R n)) : m_X l base b L xs ids D lay d μ pc ls st I F R n Q := by
  simp only [m_step] at k
  split at k
  · exact x_isub hi k.2
  · exact False.elim k
theorem x_imul {x y : Int32} {r : List Value} (hi : m_cd μ pc = .imul) (k : m_X l base b L xs ids D lay d μ (pc + 1) ls (.int (x * y) :: r) I F R n Q) : m_X l base b L xs ids D lay d μ pc ls (.int y :: .int x :: r) I F R n Q :=
  m_pure (by intro a h; simp at h ⊢; exact Or.inl h) (fun _ _ _ _ _ _ _ _ _ _ _ _ _ _ _ hx hb _ _ _ kk => lv_imul hx hb (m_dec hi nofun rfl) kk) k
theorem y_imul (hi : m_cd μ pc = .imul) (k : m_do (m_X l base b L xs ids D lay) d μ ls I F R n Q (m_step lay d μ (.imul) pc ls st I F R n)) : m_X l base b L xs ids D lay d μ pc ls st I F R n Q := by
  simp only [m_step] at k
  split at k
  · exact x_imul hi k.2
  · exact False.elim k
theorem x_iand {x y : Int32} {r : List Value} (hi : m_cd μ pc = .iand) (k : m_X l base b L xs ids D lay d μ (pc + 1) ls (.int (x &&& y) :: r) I F R n Q) : m_X l base b L xs ids D lay d μ pc ls (.int y :: .int x :: r) I F R n Q :=
  m_pure (by intro a h; simp at h ⊢; exact Or.inl h) (fun _ _ _ _ _ _ _ _ _ _ _ _ _ _ _ hx hb _ _ _ kk => lv_iand hx hb (m_dec hi nofun rfl) kk) k
theorem y_iand (hi : m_cd μ pc = .iand) (k : m_do (m_X l base b L xs ids D lay) d μ ls I F R n Q (m_step lay d μ (.iand) pc ls st I F R n)) : m_X l base b L xs ids D lay d μ pc ls st I F R n Q := by
  simp only [m_step] at k
  split at k
  · exact x_iand hi k.2
  · exact False.elim k
theorem x_ior {x y : Int32} {r : List Value} (hi : m_cd μ pc = .ior) (k : m_X l base b L xs ids D lay d μ (pc + 1) ls (.int (x ||| y) :: r) I F R n Q) : m_X l base b L xs ids D lay d μ pc ls (.int y :: .int x :: r) I F R n Q :=
  m_pure (by intro a h; simp at h ⊢; exact Or.inl h) (fun _ _ _ _ _ _ _ _ _ _ _ _ _ _ _ hx hb _ _ _ kk => lv_ior hx hb (m_dec hi nofun rfl) kk) k
theorem y_ior (hi : m_cd μ pc = .ior) (k : m_do (m_X l base b L xs ids D lay) d μ ls I F R n Q (m_step lay d μ (.ior) pc ls st I F R n)) : m_X l base b L xs ids D lay d μ pc ls st I F R n Q := by
  simp only [m_step] at k
  split at k
  · exact x_ior hi k.2
  · exact False.elim k
theorem x_ixor {x y : Int32} {r : List Value} (hi : m_cd μ pc = .ixor) (k : m_X l base b L xs ids D lay d μ (pc + 1) ls (.int (x ^^^ y) :: r) I F R n Q) : m_X l base b L xs ids D lay d μ pc ls (.int y :: .int x :: r) I F R n Q :=
  m_pure (by intro a h; simp at h ⊢; exact Or.inl h) (fun _ _ _ _ _ _ _ _ _ _ _ _ _ _ _ hx hb _ _ _ kk => lv_ixor hx hb (m_dec hi nofun rfl) kk) k
theorem y_ixor (hi : m_cd μ pc = .ixor) (k : m_do (m_X l base b L xs ids D lay) d μ ls I F R n Q (m_step lay d μ (.ixor) pc ls st I F R n)) : m_X l base b L xs ids D lay d μ pc ls st I F R n Q := by
  simp only [m_step] at k
  split at k
  · exact x_ixor hi k.2
  · exact False.elim k
theorem x_ishl {x y : Int32} {r : List Value} (hi : m_cd μ pc = .ishl) (k : m_X l base b L xs ids D lay d μ (pc + 1) ls (.int (x <<< (y &&& 31)) :: r) I F R n Q) : m_X l base b L xs ids D lay d μ pc ls (.int y :: .int x :: r) I F R n Q :=
  m_pure (by intro a h; simp at h ⊢; exact Or.inl h) (fun _ _ _ _ _ _ _ _ _ _ _ _ _ _ _ hx hb _ _ _ kk => lv_ishl hx hb (m_dec hi nofun rfl) kk) k
theorem y_ishl (hi : m_cd μ pc = .ishl) (k : m_do (m_X l base b L xs ids D lay) d μ ls I F R n Q (m_step lay d μ (.ishl) pc ls st I F R n)) : m_X l base b L xs ids D lay d μ pc ls st I F R n Q := by
  simp only [m_step] at k
  split at k
  · exact x_ishl hi k.2
  · exact False.elim k
theorem x_ishr {x y : Int32} {r : List Value} (hi : m_cd μ pc = .ishr) (k : m_X l base b L xs ids D lay d μ (pc + 1) ls (.int (x >>> (y &&& 31)) :: r) I F R n Q) : m_X l base b L xs ids D lay d μ pc ls (.int y :: .int x :: r) I F R n Q :=
  m_pure (by intro a h; simp at h ⊢; exact Or.inl h) (fun _ _ _ _ _ _ _ _ _ _ _ _ _ _ _ hx hb _ _ _ kk => lv_ishr hx hb (m_dec hi nofun rfl) kk) k
theorem y_ishr (hi : m_cd μ pc = .ishr) (k : m_do (m_X l base b L xs ids D lay) d μ ls I F R n Q (m_step lay d μ (.ishr) pc ls st I F R n)) : m_X l base b L xs ids D lay d μ pc ls st I F R n Q := by
  simp only [m_step] at k
  split at k
  · exact x_ishr hi k.2
  · exact False.elim k
theorem x_iushr {x y : Int32} {r : List Value} (hi : m_cd μ pc = .iushr) (k : m_X l base b L xs ids D lay d μ (pc + 1) ls (.int (x.toUInt32 >>> (y.toUInt32 &&& Int32.toUInt32 31)).toInt32 :: r) I F R n Q) : m_X l base b L xs ids D lay d μ pc ls (.int y :: .int x :: r) I F R n Q :=
  m_pure (by intro a h; simp at h ⊢; exact Or.inl h) (fun _ _ _ _ _ _ _ _ _ _ _ _ _ _ _ hx hb _ _ _ kk => lv_iushr hx hb (m_dec hi nofun rfl) rfl kk) k
theorem y_iushr (hi : m_cd μ pc = .iushr) (k : m_do (m_X l base b L xs ids D lay) d μ ls I F R n Q (m_step lay d μ (.iushr) pc ls st I F R n)) : m_X l base b L xs ids D lay d μ pc ls st I F R n Q := by
  simp only [m_step] at k
  split at k
  · exact x_iushr hi k.2
  · exact False.elim k
theorem x_idiv {x y : Int32} {r : List Value} (hi : m_cd μ pc = .idiv) (hc : ¬ y = 0) (k : m_X l base b L xs ids D lay d μ (pc + 1) ls (.int (x / y) :: r) I F R n Q) : m_X l base b L xs ids D lay d μ pc ls (.int y :: .int x :: r) I F R n Q :=
  m_pure (by intro a h; simp at h ⊢; exact Or.inl h) (fun _ _ _ _ _ _ _ _ _ _ _ _ _ _ _ hx hb _ _ _ kk => lv_idiv hx hb (m_dec hi nofun rfl) hc kk) k
theorem y_idiv (hi : m_cd μ pc = .idiv) (k : m_do (m_X l base b L xs ids D lay) d μ ls I F R n Q (m_step lay d μ (.idiv) pc ls st I F R n)) : m_X l base b L xs ids D lay d μ pc ls st I F R n Q := by
  simp only [m_step] at k
  split at k
  · exact x_idiv hi k.1 k.2
  · exact False.elim k
theorem x_irem {x y : Int32} {r : List Value} (hi : m_cd μ pc = .irem) (hc : ¬ y = 0) (k : m_X l base b L xs ids D lay d μ (pc + 1) ls (.int (x - x / y * y) :: r) I F R n Q) : m_X l base b L xs ids D lay d μ pc ls (.int y :: .int x :: r) I F R n Q :=
  m_pure (by intro a h; simp at h ⊢; exact Or.inl h) (fun _ _ _ _ _ _ _ _ _ _ _ _ _ _ _ hx hb _ _ _ kk => lv_irem hx hb (m_dec hi nofun rfl) hc kk) k
theorem y_irem (hi : m_cd μ pc = .irem) (k : m_do (m_X l base b L xs ids D lay) d μ ls I F R n Q (m_step lay d μ (.irem) pc ls st I F R n)) : m_X l base b L xs ids D lay d μ pc ls st I F R n Q := by
  simp only [m_step] at k
  split at k
  · exact x_irem hi k.1 k.2
  · exact False.elim k
theorem x_ineg {x : Int32} {r : List Value} (hi : m_cd μ pc = .ineg) (k : m_X l base b L xs ids D lay d μ (pc + 1) ls (.int (-x) :: r) I F R n Q) : m_X l base b L xs ids D lay d μ pc ls (.int x :: r) I F R n Q :=
  m_pure (by intro a h; simp at h ⊢; exact Or.inl h) (fun _ _ _ _ _ _ _ _ _ _ _ _ _ _ _ hx hb _ _ _ kk => lv_ineg hx hb (m_dec hi nofun rfl) kk) k
theorem y_ineg (hi : m_cd μ pc = .ineg) (k : m_do (m_X l base b L xs ids D lay) d μ ls I F R n Q (m_step lay d μ (.ineg) pc ls st I F R n)) : m_X l base b L xs ids D lay d μ pc ls st I F R n Q := by
  simp only [m_step] at k
  split at k
  · exact x_ineg hi k.2
  · exact False.elim k
theorem x_ladd {x y : Int64} {r : List Value} (hi : m_cd μ pc = .ladd) (k : m_X l base b L xs ids D lay d μ (pc + 1) ls (.long (x + y) :: r) I F R n Q) : m_X l base b L xs ids D lay d μ pc ls (.long y :: .long x :: r) I F R n Q :=
  m_pure (by intro a h; simp at h ⊢; exact Or.inl h) (fun _ _ _ _ _ _ _ _ _ _ _ _ _ _ _ hx hb _ _ _ kk => lv_ladd hx hb (m_dec hi nofun rfl) kk) k
theorem y_ladd (hi : m_cd μ pc = .ladd) (k : m_do (m_X l base b L xs ids D lay) d μ ls I F R n Q (m_step lay d μ (.ladd) pc ls st I F R n)) : m_X l base b L xs ids D lay d μ pc ls st I F R n Q := by
  simp only [m_step] at k
  split at k
  · exact x_ladd hi k.2
  · exact False.elim k
theorem x_lsub {x y : Int64} {r : List Value} (hi : m_cd μ pc = .lsub) (k : m_X l base b L xs ids D lay d μ (pc + 1) ls (.long (x - y) :: r) I F R n Q) : m_X l base b L xs ids D lay d μ pc ls (.long y :: .long x :: r) I F R n Q :=
  m_pure (by intro a h; simp at h ⊢; exact Or.inl h) (fun _ _ _ _ _ _ _ _ _ _ _ _ _ _ _ hx hb _ _ _ kk => lv_lsub hx hb (m_dec hi nofun rfl) kk) k
theorem y_lsub (hi : m_cd μ pc = .lsub) (k : m_do (m_X l base b L xs ids D lay) d μ ls I F R n Q (m_step lay d μ (.lsub) pc ls st I F R n)) : m_X l base b L xs ids D lay d μ pc ls st I F R n Q := by
  simp only [m_step] at k
  split at k
  · exact x_lsub hi k.2
  · exact False.elim k
theorem x_lmul {x y : Int64} {r : List Value} (hi : m_cd μ pc = .lmul) (k : m_X l base b L xs ids D lay d μ (pc + 1) ls (.long (x * y) :: r) I F R n Q) : m_X l base b L xs ids D lay d μ pc ls (.long y :: .long x :: r) I F R n Q :=
  m_pure (by intro a h; simp at h ⊢; exact Or.inl h) (fun _ _ _ _ _ _ _ _ _ _ _ _ _ _ _ hx hb _ _ _ kk => lv_lmul hx hb (m_dec hi nofun rfl) kk) k
theorem y_lmul (hi : m_cd μ pc = .lmul) (k : m_do (m_X l base b L xs ids D lay) d μ ls I F R n Q (m_step lay d μ (.lmul) pc ls st I F R n)) : m_X l base b L xs ids D lay d μ pc ls st I F R n Q := by
  simp only [m_step] at k
  split at k
  · exact x_lmul hi k.2
  · exact False.elim k
theorem x_land {x y : Int64} {r : List Value} (hi : m_cd μ pc = .land) (k : m_X l base b L xs ids D lay d μ (pc + 1) ls (.long (x &&& y) :: r) I F R n Q) : m_X l base b L xs ids D lay d μ pc ls (.long y :: .long x :: r) I F R n Q :=
  m_pure (by intro a h; simp at h ⊢; exact Or.inl h) (fun _ _ _ _ _ _ _ _ _ _ _ _ _ _ _ hx hb _ _ _ kk => lv_land hx hb (m_dec hi nofun rfl) kk) k
theorem y_land (hi : m_cd μ pc = .land) (k : m_do (m_X l base b L xs ids D lay) d μ ls I F R n Q (m_step lay d μ (.land) pc ls st I F R n)) : m_X l base b L xs ids D lay d μ pc ls st I F R n Q := by
  simp only [m_step] at k
  split at k
  · exact x_land hi k.2
  · exact False.elim k
theorem x_lor {x y : Int64} {r : List Value} (hi : m_cd μ pc = .lor) (k : m_X l base b L xs ids D lay d μ (pc + 1) ls (.long (x ||| y) :: r) I F R n Q) : m_X l base b L xs ids D lay d μ pc ls (.long y :: .long x :: r) I F R n Q :=
  m_pure (by intro a h; simp at h ⊢; exact Or.inl h) (fun _ _ _ _ _ _ _ _ _ _ _ _ _ _ _ hx hb _ _ _ kk => lv_lor hx hb (m_dec hi nofun rfl) kk) k
theorem y_lor (hi : m_cd μ pc = .lor) (k : m_do (m_X l base b L xs ids D lay) d μ ls I F R n Q (m_step lay d μ (.lor) pc ls st I F R n)) : m_X l base b L xs ids D lay d μ pc ls st I F R n Q := by
  simp only [m_step] at k
  split at k
  · exact x_lor hi k.2
  · exact False.elim k
theorem x_lshl {x : Int64} {y : Int32} {r : List Value} (hi : m_cd μ pc = .lshl) (k : m_X l base b L xs ids D lay d μ (pc + 1) ls (.long (x <<< (y.toInt64 &&& 63)) :: r) I F R n Q) : m_X l base b L xs ids D lay d μ pc ls (.int y :: .long x :: r) I F R n Q :=
  m_pure (by intro a h; simp at h ⊢; exact Or.inl h) (fun _ _ _ _ _ _ _ _ _ _ _ _ _ _ _ hx hb _ _ _ kk => lv_lshl hx hb (m_dec hi nofun rfl) rfl kk) k
theorem y_lshl (hi : m_cd μ pc = .lshl) (k : m_do (m_X l base b L xs ids D lay) d μ ls I F R n Q (m_step lay d μ (.lshl) pc ls st I F R n)) : m_X l base b L xs ids D lay d μ pc ls st I F R n Q := by
  simp only [m_step] at k
  split at k
  · exact x_lshl hi k.2
  · exact False.elim k
theorem x_lshr {x : Int64} {y : Int32} {r : List Value} (hi : m_cd μ pc = .lshr) (k : m_X l base b L xs ids D lay d μ (pc + 1) ls (.long (x >>> (y.toInt64 &&& 63)) :: r) I F R n Q) : m_X l base b L xs ids D lay d μ pc ls (.int y :: .long x :: r) I F R n Q :=
  m_pure (by intro a h; simp at h ⊢; exact Or.inl h) (fun _ _ _ _ _ _ _ _ _ _ _ _ _ _ _ hx hb _ _ _ kk => lv_lshr hx hb (m_dec hi nofun rfl) rfl kk) k
theorem y_lshr (hi : m_cd μ pc = .lshr) (k : m_do (m_X l base b L xs ids D lay) d μ ls I F R n Q (m_step lay d μ (.lshr) pc ls st I F R n)) : m_X l base b L xs ids D lay d μ pc ls st I F R n Q := by
  simp only [m_step] at k
  split at k
  · exact x_lshr hi k.2
  · exact False.elim k
theorem x_lushr {x : Int64} {y : Int32} {r : List Value} (hi : m_cd μ pc = .lushr) (k : m_X l base b L xs ids D lay d μ (pc + 1) ls (.long ((x.toUInt64 >>> (y.toInt64.toUInt64 &&& Int64.toUInt64 63)).toInt64) :: r) I F R n Q) : m_X l base b L xs ids D lay d μ pc ls (.int y :: .long x :: r) I F R n Q :=
  m_pure (by intro a h; simp at h ⊢; exact Or.inl h) (fun _ _ _ _ _ _ _ _ _ _ _ _ _ _ _ hx hb _ _ _ kk => lv_lushr hx hb (m_dec hi nofun rfl) rfl kk) k
theorem y_lushr (hi : m_cd μ pc = .lushr) (k : m_do (m_X l base b L xs ids D lay) d μ ls I F R n Q (m_step lay d μ (.lushr) pc ls st I F R n)) : m_X l base b L xs ids D lay d μ pc ls st I F R n Q := by
  simp only [m_step] at k
  split at k
  · exact x_lushr hi k.2
  · exact False.elim k
theorem x_lcmp {x y : Int64} {r : List Value} (hi : m_cd μ pc = .lcmp) (k : m_X l base b L xs ids D lay d μ (pc + 1) ls (.int (lg_cmp x y) :: r) I F R n Q) : m_X l base b L xs ids D lay d μ pc ls (.long y :: .long x :: r) I F R n Q :=
  m_pure (by intro a h; simp at h ⊢; exact Or.inl h) (fun _ _ _ _ _ _ _ _ _ _ _ _ _ _ _ hx hb _ _ _ kk => W.lcmp hx hb (m_dec hi nofun rfl) kk) k
theorem y_lcmp (hi : m_cd μ pc = .lcmp) (k : m_do (m_X l base b L xs ids D lay) d μ ls I F R n Q (m_step lay d μ (.lcmp) pc ls st I F R n)) : m_X l base b L xs ids D lay d μ pc ls st I F R n Q := by
  simp only [m_step] at k
  split at k
  · exact x_lcmp hi k.2
  · exact False.elim k
theorem x_i2l {x : Int32} {r : List Value} (hi : m_cd μ pc = .i2l) (k : m_X l base b L xs ids D lay d μ (pc + 1) ls (.long x.toInt64 :: r) I F R n Q) : m_X l base b L xs ids D lay d μ pc ls (.int x :: r) I F R n Q :=
  m_pure (by intro a h; simp at h ⊢; exact Or.inl h) (fun _ _ _ _ _ _ _ _ _ _ _ _ _ _ _ hx hb _ _ _ kk => lv_i2l hx hb (m_dec hi nofun rfl) rfl kk) k
theorem y_i2l (hi : m_cd μ pc = .i2l) (k : m_do (m_X l base b L xs ids D lay) d μ ls I F R n Q (m_step lay d μ (.i2l) pc ls st I F R n)) : m_X l base b L xs ids D lay d μ pc ls st I F R n Q := by
  simp only [m_step] at k
  split at k
  · exact x_i2l hi k.2
  · exact False.elim k
theorem x_l2i {x : Int64} {r : List Value} (hi : m_cd μ pc = .l2i) (k : m_X l base b L xs ids D lay d μ (pc + 1) ls (.int x.toInt32 :: r) I F R n Q) : m_X l base b L xs ids D lay d μ pc ls (.long x :: r) I F R n Q :=
  m_pure (by intro a h; simp at h ⊢; exact Or.inl h) (fun _ _ _ _ _ _ _ _ _ _ _ _ _ _ _ hx hb _ _ _ kk => lv_l2i hx hb (m_dec hi nofun rfl) rfl kk) k
theorem y_l2i (hi : m_cd μ pc = .l2i) (k : m_do (m_X l base b L xs ids D lay) d μ ls I F R n Q (m_step lay d μ (.l2i) pc ls st I F R n)) : m_X l base b L xs ids D lay d μ pc ls st I F R n Q := by
  simp only [m_step] at k
  split at k
  · exact x_l2i hi k.2
  · exact False.elim k
theorem x_i2c {x : Int32} {r : List Value} (hi : m_cd μ pc = .i2c) (k : m_X l base b L xs ids D lay d μ (pc + 1) ls (.int (x.toUInt32 % 65536).toInt32 :: r) I F R n Q) : m_X l base b L xs ids D lay d μ pc ls (.int x :: r) I F R n Q :=
  m_pure (by intro a h; simp at h ⊢; exact Or.inl h) (fun _ _ _ _ _ _ _ _ _ _ _ _ _ _ _ hx hb _ _ _ kk => lv_i2c hx hb (m_dec hi nofun rfl) rfl kk) k
theorem y_i2c (hi : m_cd μ pc = .i2c) (k : m_do (m_X l base b L xs ids D lay) d μ ls I F R n Q (m_step lay d μ (.i2c) pc ls st I F R n)) : m_X l base b L xs ids D lay d μ pc ls st I F R n Q := by
  simp only [m_step] at k
  split at k
  · exact x_i2c hi k.2
  · exact False.elim k
theorem x_i2f {x : Int32} {r : List Value} (hi : m_cd μ pc = .i2f) (k : m_X l base b L xs ids D lay d μ (pc + 1) ls (.float (FP.i2f x) :: r) I F R n Q) : m_X l base b L xs ids D lay d μ pc ls (.int x :: r) I F R n Q :=
  m_pure (by intro a h; simp at h ⊢; exact Or.inl h) (fun _ _ _ _ _ _ _ _ _ _ _ _ _ _ _ hx hb _ _ _ kk => lv_i2f hx hb (m_dec hi nofun rfl) kk) k
theorem y_i2f (hi : m_cd μ pc = .i2f) (k : m_do (m_X l base b L xs ids D lay) d μ ls I F R n Q (m_step lay d μ (.i2f) pc ls st I F R n)) : m_X l base b L xs ids D lay d μ pc ls st I F R n Q := by
  simp only [m_step] at k
  split at k
  · exact x_i2f hi k.2
  · exact False.elim k
theorem x_i2d {x : Int32} {r : List Value} (hi : m_cd μ pc = .i2d) (k : m_X l base b L xs ids D lay d μ (pc + 1) ls (.double (FP.i2d x) :: r) I F R n Q) : m_X l base b L xs ids D lay d μ pc ls (.int x :: r) I F R n Q :=
  m_pure (by intro a h; simp at h ⊢; exact Or.inl h) (fun _ _ _ _ _ _ _ _ _ _ _ _ _ _ _ hx hb _ _ _ kk => lv_i2d hx hb (m_dec hi nofun rfl) kk) k
theorem y_i2d (hi : m_cd μ pc = .i2d) (k : m_do (m_X l base b L xs ids D lay) d μ ls I F R n Q (m_step lay d μ (.i2d) pc ls st I F R n)) : m_X l base b L xs ids D lay d μ pc ls st I F R n Q := by
  simp only [m_step] at k
  split at k
  · exact x_i2d hi k.2
  · exact False.elim k
theorem x_f2i {x : UInt32} {r : List Value} (hi : m_cd μ pc = .f2i) (k : m_X l base b L xs ids D lay d μ (pc + 1) ls (.int (FP.f2i x) :: r) I F R n Q) : m_X l base b L xs ids D lay d μ pc ls (.float x :: r) I F R n Q :=
  m_pure (by intro a h; simp at h ⊢; exact Or.inl h) (fun _ _ _ _ _ _ _ _ _ _ _ _ _ _ _ hx hb _ _ _ kk => lv_f2i hx hb (m_dec hi nofun rfl) kk) k
theorem y_f2i (hi : m_cd μ pc = .f2i) (k : m_do (m_X l base b L xs ids D lay) d μ ls I F R n Q (m_step lay d μ (.f2i) pc ls st I F R n)) : m_X l base b L xs ids D lay d μ pc ls st I F R n Q := by
  simp only [m_step] at k
  split at k
  · exact x_f2i hi k.2
  · exact False.elim k
theorem x_d2i {x : UInt64} {r : List Value} (hi : m_cd μ pc = .d2i) (k : m_X l base b L xs ids D lay d μ (pc + 1) ls (.int (FP.d2i x) :: r) I F R n Q) : m_X l base b L xs ids D lay d μ pc ls (.double x :: r) I F R n Q :=
  m_pure (by intro a h; simp at h ⊢; exact Or.inl h) (fun _ _ _ _ _ _ _ _ _ _ _ _ _ _ _ hx hb _ _ _ kk => lv_d2i hx hb (m_dec hi nofun rfl) kk) k
theorem y_d2i (hi : m_cd μ pc = .d2i) (k : m_do (m_X l base b L xs ids D lay) d μ ls I F R n Q (m_step lay d μ (.d2i) pc ls st I F R n)) : m_X l base b L xs ids D lay d μ pc ls st I F R n Q := by
  simp only [m_step] at k
  split at k
  · exact x_d2i hi k.2
  · exact False.elim k
theorem x_d2l {x : UInt64} {r : List Value} (hi : m_cd μ pc = .d2l) (k : m_X l base b L xs ids D lay d μ (pc + 1) ls (.long (FP.d2l x) :: r) I F R n Q) : m_X l base b L xs ids D lay d μ pc ls (.double x :: r) I F R n Q :=
  m_pure (by intro a h; simp at h ⊢; exact Or.inl h) (fun _ _ _ _ _ _ _ _ _ _ _ _ _ _ _ hx hb _ _ _ kk => lv_d2l hx hb (m_dec hi nofun rfl) kk) k
theorem y_d2l (hi : m_cd μ pc = .d2l) (k : m_do (m_X l base b L xs ids D lay) d μ ls I F R n Q (m_step lay d μ (.d2l) pc ls st I F R n)) : m_X l base b L xs ids D lay d μ pc ls st I F R n Q := by
  simp only [m_step] at k
  split at k
  · exact x_d2l hi k.2
  · exact False.elim k
theorem x_f2d {x : UInt32} {r : List Value} (hi : m_cd μ pc = .f2d) (hc : vf_n64 (FP.f2d x)) (k : m_X l base b L xs ids D lay d μ (pc + 1) ls (.double (FP.f2d x) :: r) I F R n Q) : m_X l base b L xs ids D lay d μ pc ls (.float x :: r) I F R n Q :=
  m_pure (by intro a h; simp at h ⊢; exact Or.inl h) (fun _ _ _ _ _ _ _ _ _ _ _ _ _ _ _ hx hb _ _ _ kk => lv_f2d hx hb (m_dec hi nofun rfl) hc kk) k
theorem y_f2d (hi : m_cd μ pc = .f2d) (k : m_do (m_X l base b L xs ids D lay) d μ ls I F R n Q (m_step lay d μ (.f2d) pc ls st I F R n)) : m_X l base b L xs ids D lay d μ pc ls st I F R n Q := by
  simp only [m_step] at k
  split at k
  · exact x_f2d hi k.1 k.2
  · exact False.elim k
theorem x_fadd {x y : UInt32} {r : List Value} (hi : m_cd μ pc = .fadd) (hc : vf_n32 (FP.fadd x y)) (k : m_X l base b L xs ids D lay d μ (pc + 1) ls (.float (FP.fadd x y) :: r) I F R n Q) : m_X l base b L xs ids D lay d μ pc ls (.float y :: .float x :: r) I F R n Q :=
  m_pure (by intro a h; simp at h ⊢; exact Or.inl h) (fun _ _ _ _ _ _ _ _ _ _ _ _ _ _ _ hx hb _ _ _ kk => lv_fadd hx hb (m_dec hi nofun rfl) hc kk) k
theorem y_fadd (hi : m_cd μ pc = .fadd) (k : m_do (m_X l base b L xs ids D lay) d μ ls I F R n Q (m_step lay d μ (.fadd) pc ls st I F R n)) : m_X l base b L xs ids D lay d μ pc ls st I F R n Q := by
  simp only [m_step] at k
  split at k
  · exact x_fadd hi k.1 k.2
  · exact False.elim k
theorem x_fsub {x y : UInt32} {r : List Value} (hi : m_cd μ pc = .fsub) (hc : vf_n32 (FP.fsub x y)) (k : m_X l base b L xs ids D lay d μ (pc + 1) ls (.float (FP.fsub x y) :: r) I F R n Q) : m_X l base b L xs ids D lay d μ pc ls (.float y :: .float x :: r) I F R n Q :=
  m_pure (by intro a h; simp at h ⊢; exact Or.inl h) (fun _ _ _ _ _ _ _ _ _ _ _ _ _ _ _ hx hb _ _ _ kk => lv_fsub hx hb (m_dec hi nofun rfl) hc kk) k
theorem y_fsub (hi : m_cd μ pc = .fsub) (k : m_do (m_X l base b L xs ids D lay) d μ ls I F R n Q (m_step lay d μ (.fsub) pc ls st I F R n)) : m_X l base b L xs ids D lay d μ pc ls st I F R n Q := by
  simp only [m_step] at k
  split at k
  · exact x_fsub hi k.1 k.2
  · exact False.elim k
theorem x_fmul {x y : UInt32} {r : List Value} (hi : m_cd μ pc = .fmul) (hc : vf_n32 (FP.fmul x y)) (k : m_X l base b L xs ids D lay d μ (pc + 1) ls (.float (FP.fmul x y) :: r) I F R n Q) : m_X l base b L xs ids D lay d μ pc ls (.float y :: .float x :: r) I F R n Q :=
  m_pure (by intro a h; simp at h ⊢; exact Or.inl h) (fun _ _ _ _ _ _ _ _ _ _ _ _ _ _ _ hx hb _ _ _ kk => lv_fmul hx hb (m_dec hi nofun rfl) hc kk) k
theorem y_fmul (hi : m_cd μ pc = .fmul) (k : m_do (m_X l base b L xs ids D lay) d μ ls I F R n Q (m_step lay d μ (.fmul) pc ls st I F R n)) : m_X l base b L xs ids D lay d μ pc ls st I F R n Q := by
  simp only [m_step] at k
  split at k
  · exact x_fmul hi k.1 k.2
  · exact False.elim k
theorem x_fdiv {x y : UInt32} {r : List Value} (hi : m_cd μ pc = .fdiv) (hc : vf_n32 (FP.fdiv x y)) (k : m_X l base b L xs ids D lay d μ (pc + 1) ls (.float (FP.fdiv x y) :: r) I F R n Q) : m_X l base b L xs ids D lay d μ pc ls (.float y :: .float x :: r) I F R n Q :=
  m_pure (by intro a h; simp at h ⊢; exact Or.inl h) (fun _ _ _ _ _ _ _ _ _ _ _ _ _ _ _ hx hb _ _ _ kk => lv_fdiv hx hb (m_dec hi nofun rfl) hc kk) k
theorem y_fdiv (hi : m_cd μ pc = .fdiv) (k : m_do (m_X l base b L xs ids D lay) d μ ls I F R n Q (m_step lay d μ (.fdiv) pc ls st I F R n)) : m_X l base b L xs ids D lay d μ pc ls st I F R n Q := by
  simp only [m_step] at k
  split at k
  · exact x_fdiv hi k.1 k.2
  · exact False.elim k
theorem x_dadd {x y : UInt64} {r : List Value} (hi : m_cd μ pc = .dadd) (hc : vf_n64 (FP.dadd x y)) (k : m_X l base b L xs ids D lay d μ (pc + 1) ls (.double (FP.dadd x y) :: r) I F R n Q) : m_X l base b L xs ids D lay d μ pc ls (.double y :: .double x :: r) I F R n Q :=
  m_pure (by intro a h; simp at h ⊢; exact Or.inl h) (fun _ _ _ _ _ _ _ _ _ _ _ _ _ _ _ hx hb _ _ _ kk => lv_dadd hx hb (m_dec hi nofun rfl) hc kk) k
theorem y_dadd (hi : m_cd μ pc = .dadd) (k : m_do (m_X l base b L xs ids D lay) d μ ls I F R n Q (m_step lay d μ (.dadd) pc ls st I F R n)) : m_X l base b L xs ids D lay d μ pc ls st I F R n Q := by
  simp only [m_step] at k
  split at k
  · exact x_dadd hi k.1 k.2
  · exact False.elim k
theorem x_dsub {x y : UInt64} {r : List Value} (hi : m_cd μ pc = .dsub) (hc : vf_n64 (FP.dsub x y)) (k : m_X l base b L xs ids D lay d μ (pc + 1) ls (.double (FP.dsub x y) :: r) I F R n Q) : m_X l base b L xs ids D lay d μ pc ls (.double y :: .double x :: r) I F R n Q :=
  m_pure (by intro a h; simp at h ⊢; exact Or.inl h) (fun _ _ _ _ _ _ _ _ _ _ _ _ _ _ _ hx hb _ _ _ kk => lv_dsub hx hb (m_dec hi nofun rfl) hc kk) k
theorem y_dsub (hi : m_cd μ pc = .dsub) (k : m_do (m_X l base b L xs ids D lay) d μ ls I F R n Q (m_step lay d μ (.dsub) pc ls st I F R n)) : m_X l base b L xs ids D lay d μ pc ls st I F R n Q := by
  simp only [m_step] at k
  split at k
  · exact x_dsub hi k.1 k.2
  · exact False.elim k
theorem x_dmul {x y : UInt64} {r : List Value} (hi : m_cd μ pc = .dmul) (hc : vf_n64 (FP.dmul x y)) (k : m_X l base b L xs ids D lay d μ (pc + 1) ls (.double (FP.dmul x y) :: r) I F R n Q) : m_X l base b L xs ids D lay d μ pc ls (.double y :: .double x :: r) I F R n Q :=
  m_pure (by intro a h; simp at h ⊢; exact Or.inl h) (fun _ _ _ _ _ _ _ _ _ _ _ _ _ _ _ hx hb _ _ _ kk => lv_dmul hx hb (m_dec hi nofun rfl) hc kk) k
theorem y_dmul (hi : m_cd μ pc = .dmul) (k : m_do (m_X l base b L xs ids D lay) d μ ls I F R n Q (m_step lay d μ (.dmul) pc ls st I F R n)) : m_X l base b L xs ids D lay d μ pc ls st I F R n Q := by
  simp only [m_step] at k
  split at k
  · exact x_dmul hi k.1 k.2
  · exact False.elim k
theorem x_ddiv {x y : UInt64} {r : List Value} (hi : m_cd μ pc = .ddiv) (hc : vf_n64 (FP.ddiv x y)) (k : m_X l base b L xs ids D lay d μ (pc + 1) ls (.double (FP.ddiv x y) :: r) I F R n Q) : m_X l base b L xs ids D lay d μ pc ls (.double y :: .double x :: r) I F R n Q :=
  m_pure (by intro a h; simp at h ⊢; exact Or.inl h) (fun _ _ _ _ _ _ _ _ _ _ _ _ _ _ _ hx hb _ _ _ kk => lv_ddiv hx hb (m_dec hi nofun rfl) hc kk) k
theorem y_ddiv (hi : m_cd μ pc = .ddiv) (k : m_do (m_X l base b L xs ids D lay) d μ ls I F R n Q (m_step lay d μ (.ddiv) pc ls st I F R n)) : m_X l base b L xs ids D lay d μ pc ls st I F R n Q := by
  simp only [m_step] at k
  split at k
  · exact x_ddiv hi k.1 k.2
  · exact False.elim k
theorem x_fcmp {x y : UInt32} {op : CmpOp} {r : List Value} (hi : m_cd μ pc = .fcmp op) (k : m_X l base b L xs ids D lay d μ (pc + 1) ls (.int (Op.cmpValue (FP.fcmp x y) op) :: r) I F R n Q) : m_X l base b L xs ids D lay d μ pc ls (.float y :: .float x :: r) I F R n Q :=
  m_pure (by intro a h; simp at h ⊢; exact Or.inl h) (fun _ _ _ _ _ _ _ _ _ _ _ _ _ _ _ hx hb _ _ _ kk => lv_fcmp hx hb (m_dec hi nofun rfl) kk) k
theorem y_fcmp {op : CmpOp} (hi : m_cd μ pc = .fcmp op) (k : m_do (m_X l base b L xs ids D lay) d μ ls I F R n Q (m_step lay d μ (.fcmp op) pc ls st I F R n)) : m_X l base b L xs ids D lay d μ pc ls st I F R n Q := by
  simp only [m_step] at k
  split at k
  · exact x_fcmp hi k.2
  · exact False.elim k
theorem x_dcmp {x y : UInt64} {op : CmpOp} {r : List Value} (hi : m_cd μ pc = .dcmp op) (k : m_X l base b L xs ids D lay d μ (pc + 1) ls (.int (Op.cmpValue (FP.dcmp x y) op) :: r) I F R n Q) : m_X l base b L xs ids D lay d μ pc ls (.double y :: .double x :: r) I F R n Q :=
  m_pure (by intro a h; simp at h ⊢; exact Or.inl h) (fun _ _ _ _ _ _ _ _ _ _ _ _ _ _ _ hx hb _ _ _ kk => lv_dcmp hx hb (m_dec hi nofun rfl) kk) k
theorem y_dcmp {op : CmpOp} (hi : m_cd μ pc = .dcmp op) (k : m_do (m_X l base b L xs ids D lay) d μ ls I F R n Q (m_step lay d μ (.dcmp op) pc ls st I F R n)) : m_X l base b L xs ids D lay d μ pc ls st I F R n Q := by
  simp only [m_step] at k
  split at k
  · exact x_dcmp hi k.2
  · exact False.elim k
theorem y_iconst {v : Int} (hi : m_cd μ pc = .iconst v) (k : m_do (m_X l base b L xs ids D lay) d μ ls I F R n Q (m_step lay d μ (.iconst v) pc ls st I F R n)) : m_X l base b L xs ids D lay d μ pc ls st I F R n Q := by
  refine m_pure (pc1 := pc + 1) (st1 := .int (Int32.ofInt v) :: st) (by intro a h; simp at h; exact Or.inl h) (fun _ _ _ _ _ _ _ _ _ _ _ _ _ _ _ hx hb _ _ _ kk => ?_) k.2
  exact lv_iconst hx hb (m_dec hi nofun rfl) rfl kk
theorem y_bipush {v : Int} (hi : m_cd μ pc = .bipush v) (k : m_do (m_X l base b L xs ids D lay) d μ ls I F R n Q (m_step lay d μ (.bipush v) pc ls st I F R n)) : m_X l base b L xs ids D lay d μ pc ls st I F R n Q := by
  refine m_pure (pc1 := pc + 2) (st1 := .int (Int8.ofInt v).toInt32 :: st) (by intro a h; simp at h; exact Or.inl h) (fun _ _ _ _ _ _ _ _ _ _ _ _ _ _ _ hx hb _ _ _ kk => ?_) k.2
  exact lv_bipush hx hb (m_dec hi nofun rfl) rfl kk
theorem y_sipush {v : Int} (hi : m_cd μ pc = .sipush v) (k : m_do (m_X l base b L xs ids D lay) d μ ls I F R n Q (m_step lay d μ (.sipush v) pc ls st I F R n)) : m_X l base b L xs ids D lay d μ pc ls st I F R n Q := by
  refine m_pure (pc1 := pc + 3) (st1 := .int (Int16.ofInt v).toInt32 :: st) (by intro a h; simp at h; exact Or.inl h) (fun _ _ _ _ _ _ _ _ _ _ _ _ _ _ _ hx hb _ _ _ kk => ?_) k.2
  exact lv_sipush hx hb (m_dec hi nofun rfl) rfl kk
theorem y_lconst {v : Fin 2} (hi : m_cd μ pc = .lconst v) (k : m_do (m_X l base b L xs ids D lay) d μ ls I F R n Q (m_step lay d μ (.lconst v) pc ls st I F R n)) : m_X l base b L xs ids D lay d μ pc ls st I F R n Q := by
  refine m_pure (pc1 := pc + 1) (st1 := .long (Int64.ofNat (v : Nat)) :: st) (by intro a h; simp at h; exact Or.inl h) (fun _ _ _ _ _ _ _ _ _ _ _ _ _ _ _ hx hb _ _ _ kk => ?_) k.2
  exact lv_lconst hx hb (m_dec hi nofun rfl) rfl kk
theorem y_fconst0 (hi : m_cd μ pc = .fconst 0) (k : m_do (m_X l base b L xs ids D lay) d μ ls I F R n Q (m_step lay d μ (.fconst 0) pc ls st I F R n)) : m_X l base b L xs ids D lay d μ pc ls st I F R n Q := by
  refine m_pure (pc1 := pc + 1) (st1 := .float 0 :: st) (by intro a h; simp at h; exact Or.inl h) (fun _ _ _ _ _ _ _ _ _ _ _ _ _ _ _ hx hb _ _ _ kk => ?_) k.2
  exact lv_fconst0 hx hb (m_dec hi nofun rfl) kk
theorem y_fconst1 (hi : m_cd μ pc = .fconst 1) (k : m_do (m_X l base b L xs ids D lay) d μ ls I F R n Q (m_step lay d μ (.fconst 1) pc ls st I F R n)) : m_X l base b L xs ids D lay d μ pc ls st I F R n Q := by
  refine m_pure (pc1 := pc + 1) (st1 := .float 0x3f800000 :: st) (by intro a h; simp at h; exact Or.inl h) (fun _ _ _ _ _ _ _ _ _ _ _ _ _ _ _ hx hb _ _ _ kk => ?_) k.2
  exact lv_fconst1 hx hb (m_dec hi nofun rfl) kk
theorem y_fconst2 (hi : m_cd μ pc = .fconst 2) (k : m_do (m_X l base b L xs ids D lay) d μ ls I F R n Q (m_step lay d μ (.fconst 2) pc ls st I F R n)) : m_X l base b L xs ids D lay d μ pc ls st I F R n Q := by
  refine m_pure (pc1 := pc + 1) (st1 := .float 0x40000000 :: st) (by intro a h; simp at h; exact Or.inl h) (fun _ _ _ _ _ _ _ _ _ _ _ _ _ _ _ hx hb _ _ _ kk => ?_) k.2
  exact lv_fconst2 hx hb (m_dec hi nofun rfl) kk
theorem y_dconst0 (hi : m_cd μ pc = .dconst 0) (k : m_do (m_X l base b L xs ids D lay) d μ ls I F R n Q (m_step lay d μ (.dconst 0) pc ls st I F R n)) : m_X l base b L xs ids D lay d μ pc ls st I F R n Q := by
  refine m_pure (pc1 := pc + 1) (st1 := .double 0 :: st) (by intro a h; simp at h; exact Or.inl h) (fun _ _ _ _ _ _ _ _ _ _ _ _ _ _ _ hx hb _ _ _ kk => ?_) k.2
  exact lv_dconst0 hx hb (m_dec hi nofun rfl) kk
theorem y_dconst1 (hi : m_cd μ pc = .dconst 1) (k : m_do (m_X l base b L xs ids D lay) d μ ls I F R n Q (m_step lay d μ (.dconst 1) pc ls st I F R n)) : m_X l base b L xs ids D lay d μ pc ls st I F R n Q := by
  refine m_pure (pc1 := pc + 1) (st1 := .double 0x3ff0000000000000 :: st) (by intro a h; simp at h; exact Or.inl h) (fun _ _ _ _ _ _ _ _ _ _ _ _ _ _ _ hx hb _ _ _ kk => ?_) k.2
  exact lv_dconst1 hx hb (m_dec hi nofun rfl) kk
theorem y_iload_n {k : Fin 4} (hi : m_cd μ pc = .iload_n k) (k0 : m_do (m_X l base b L xs ids D lay) d μ ls I F R n Q (m_step lay d μ (.iload_n k) pc ls st I F R n)) : m_X l base b L xs ids D lay d μ pc ls st I F R n Q := by
  simp only [m_step] at k0
  split at k0
  · rename_i x hx0
    refine m_pure (pc1 := pc + 1) (st1 := .int x :: st) (by intro a h; simp at h; exact Or.inl h) (fun _ _ _ _ _ _ _ _ _ _ _ _ _ _ _ hx hb _ _ hlr kk => ?_) k0.2
    exact lv_iload_n hx hb (m_dec hi nofun rfl) rfl (m_lr_get hlr hx0 nofun) kk
  · exact False.elim k0
theorem y_iload {k : Nat} (hi : m_cd μ pc = .iload k) (k0 : m_do (m_X l base b L xs ids D lay) d μ ls I F R n Q (m_step lay d μ (.iload k) pc ls st I F R n)) : m_X l base b L xs ids D lay d μ pc ls st I F R n Q := by
  simp only [m_step] at k0
  split at k0
  · rename_i x hx0
    refine m_pure (pc1 := pc + 2) (st1 := .int x :: st) (by intro a h; simp at h; exact Or.inl h) (fun _ _ _ _ _ _ _ _ _ _ _ _ _ _ _ hx hb _ _ hlr kk => ?_) k0.2
    exact lv_iload hx hb (m_dec hi nofun rfl) (m_lr_get hlr hx0 nofun) kk
  · exact False.elim k0
theorem y_lload_n {k : Fin 4} (hi : m_cd μ pc = .lload_n k) (k0 : m_do (m_X l base b L xs ids D lay) d μ ls I F R n Q (m_step lay d μ (.lload_n k) pc ls st I F R n)) : m_X l base b L xs ids D lay d μ pc ls st I F R n Q := by
  simp only [m_step] at k0
  split at k0
  · rename_i x hx0
    refine m_pure (pc1 := pc + 1) (st1 := .long x :: st) (by intro a h; simp at h; exact Or.inl h) (fun _ _ _ _ _ _ _ _ _ _ _ _ _ _ _ hx hb _ _ hlr kk => ?_) k0.2
    exact lv_lload_n hx hb (m_dec hi nofun rfl) rfl (m_lr_get hlr hx0 nofun) kk
  · exact False.elim k0
theorem y_lload {k : Nat} (hi : m_cd μ pc = .lload k) (k0 : m_do (m_X l base b L xs ids D lay) d μ ls I F R n Q (m_step lay d μ (.lload k) pc ls st I F R n)) : m_X l base b L xs ids D lay d μ pc ls st I F R n Q := by
  simp only [m_step] at k0
  split at k0
  · rename_i x hx0
    refine m_pure (pc1 := pc + 2) (st1 := .long x :: st) (by intro a h; simp at h; exact Or.inl h) (fun _ _ _ _ _ _ _ _ _ _ _ _ _ _ _ hx hb _ _ hlr kk => ?_) k0.2
    exact lv_lload hx hb (m_dec hi nofun rfl) (m_lr_get hlr hx0 nofun) kk
  · exact False.elim k0
theorem y_fload_n {k : Fin 4} (hi : m_cd μ pc = .fload_n k) (k0 : m_do (m_X l base b L xs ids D lay) d μ ls I F R n Q (m_step lay d μ (.fload_n k) pc ls st I F R n)) : m_X l base b L xs ids D lay d μ pc ls st I F R n Q := by
  simp only [m_step] at k0
  split at k0
  · rename_i x hx0
    refine m_pure (pc1 := pc + 1) (st1 := .float x :: st) (by intro a h; simp at h; exact Or.inl h) (fun _ _ _ _ _ _ _ _ _ _ _ _ _ _ _ hx hb _ _ hlr kk => ?_) k0.2
    exact lv_fload_n hx hb (m_dec hi nofun rfl) rfl (m_lr_get hlr hx0 nofun) kk
  · exact False.elim k0
theorem y_fload {k : Nat} (hi : m_cd μ pc = .fload k) (k0 : m_do (m_X l base b L xs ids D lay) d μ ls I F R n Q (m_step lay d μ (.fload k) pc ls st I F R n)) : m_X l base b L xs ids D lay d μ pc ls st I F R n Q := by
  simp only [m_step] at k0
  split at k0
  · rename_i x hx0
    refine m_pure (pc1 := pc + 2) (st1 := .float x :: st) (by intro a h; simp at h; exact Or.inl h) (fun _ _ _ _ _ _ _ _ _ _ _ _ _ _ _ hx hb _ _ hlr kk => ?_) k0.2
    exact lv_fload hx hb (m_dec hi nofun rfl) (m_lr_get hlr hx0 nofun) kk
  · exact False.elim k0
theorem y_dload_n {k : Fin 4} (hi : m_cd μ pc = .dload_n k) (k0 : m_do (m_X l base b L xs ids D lay) d μ ls I F R n Q (m_step lay d μ (.dload_n k) pc ls st I F R n)) : m_X l base b L xs ids D lay d μ pc ls st I F R n Q := by
  simp only [m_step] at k0
  split at k0
  · rename_i x hx0
    refine m_pure (pc1 := pc + 1) (st1 := .double x :: st) (by intro a h; simp at h; exact Or.inl h) (fun _ _ _ _ _ _ _ _ _ _ _ _ _ _ _ hx hb _ _ hlr kk => ?_) k0.2
    exact lv_dload_n hx hb (m_dec hi nofun rfl) rfl (m_lr_get hlr hx0 nofun) kk
  · exact False.elim k0
theorem y_dload {k : Nat} (hi : m_cd μ pc = .dload k) (k0 : m_do (m_X l base b L xs ids D lay) d μ ls I F R n Q (m_step lay d μ (.dload k) pc ls st I F R n)) : m_X l base b L xs ids D lay d μ pc ls st I F R n Q := by
  simp only [m_step] at k0
  split at k0
  · rename_i x hx0
    refine m_pure (pc1 := pc + 2) (st1 := .double x :: st) (by intro a h; simp at h; exact Or.inl h) (fun _ _ _ _ _ _ _ _ _ _ _ _ _ _ _ hx hb _ _ hlr kk => ?_) k0.2
    exact lv_dload hx hb (m_dec hi nofun rfl) (m_lr_get hlr hx0 nofun) kk
  · exact False.elim k0
theorem y_aload_n {k : Fin 4} (hi : m_cd μ pc = .aload_n k) (k0 : m_do (m_X l base b L xs ids D lay) d μ ls I F R n Q (m_step lay d μ (.aload_n k) pc ls st I F R n)) : m_X l base b L xs ids D lay d μ pc ls st I F R n Q := by
  simp only [m_step] at k0
  split at k0
  · rename_i x hx0
    refine m_pure (pc1 := pc + 1) (st1 := .ref x :: st) (by intro a h; simp at h; exact h.elim (fun q => Or.inr (q ▸ List.mem_of_getElem? hx0)) Or.inl) (fun _ _ _ _ _ _ _ _ _ _ _ _ _ _ _ hx hb _ _ hlr kk => ?_) k0.2
    exact lv_aload_n hx hb (m_dec hi nofun rfl) rfl (m_lr_get hlr hx0 nofun) kk
  · rename_i hx0
    refine m_pure (pc1 := pc + 1) (st1 := .null :: st) (by intro a h; simp at h; exact Or.inl h) (fun _ _ _ _ _ _ _ _ _ _ _ _ _ _ _ hx hb _ _ hlr kk => ?_) k0.2
    exact lv_aload_nN hx hb (m_dec hi nofun rfl) rfl (m_lr_get hlr hx0 nofun) kk
  · exact False.elim k0
theorem y_aload {k : Nat} (hi : m_cd μ pc = .aload k) (k0 : m_do (m_X l base b L xs ids D lay) d μ ls I F R n Q (m_step lay d μ (.aload k) pc ls st I F R n)) : m_X l base b L xs ids D lay d μ pc ls st I F R n Q := by
  simp only [m_step] at k0
  split at k0
  · rename_i x hx0
    refine m_pure (pc1 := pc + 2) (st1 := .ref x :: st) (by intro a h; simp at h; exact h.elim (fun q => Or.inr (q ▸ List.mem_of_getElem? hx0)) Or.inl) (fun _ _ _ _ _ _ _ _ _ _ _ _ _ _ _ hx hb _ _ hlr kk => ?_) k0.2
    exact lv_aload hx hb (m_dec hi nofun rfl) (m_lr_get hlr hx0 nofun) kk
  · rename_i hx0
    refine m_pure (pc1 := pc + 2) (st1 := .null :: st) (by intro a h; simp at h; exact Or.inl h) (fun _ _ _ _ _ _ _ _ _ _ _ _ _ _ _ hx hb _ _ hlr kk => ?_) k0.2
    exact lv_aloadN hx hb (m_dec hi nofun rfl) (m_lr_get hlr hx0 nofun) kk
  · exact False.elim k0
theorem y_dup (hi : m_cd μ pc = .dup) (k : m_do (m_X l base b L xs ids D lay) d μ ls I F R n Q (m_step lay d μ .dup pc ls st I F R n)) : m_X l base b L xs ids D lay d μ pc ls st I F R n Q := by
  simp only [m_step] at k
  split at k
  · rename_i v r
    refine m_pure (pc1 := pc + 1) (st1 := v :: v :: r) (by intro a h; simp at h ⊢; exact Or.inl h) (fun _ _ _ _ _ _ _ _ _ _ _ _ _ _ _ hx hb _ _ hlr kk => ?_) k.2
    exact lv_dup hx hb (m_dec hi nofun rfl) ((m_cv_cat v).trans k.1) kk
  · exact False.elim k
theorem y_dup2 (hi : m_cd μ pc = .dup2) (k : m_do (m_X l base b L xs ids D lay) d μ ls I F R n Q (m_step lay d μ .dup2 pc ls st I F R n)) : m_X l base b L xs ids D lay d μ pc ls st I F R n Q := by
  simp only [m_step] at k
  split at k
  · rename_i v w r
    refine m_pure (pc1 := pc + 1) (st1 := v :: w :: v :: w :: r) (by intro a h; simp at h ⊢; rcases h with h | h | h | h | h <;> simp [h]) (fun _ _ _ _ _ _ _ _ _ _ _ _ _ _ _ hx hb _ _ hlr kk => ?_) k.2
    exact lv_dup2_11 hx hb (m_dec hi nofun rfl) ((m_cv_cat v).trans k.1.1) ((m_cv_cat w).trans k.1.2) kk
  · exact False.elim k
theorem y_pop (hi : m_cd μ pc = .pop) (k : m_do (m_X l base b L xs ids D lay) d μ ls I F R n Q (m_step lay d μ .pop pc ls st I F R n)) : m_X l base b L xs ids D lay d μ pc ls st I F R n Q := by
  simp only [m_step] at k
  split at k
  · rename_i v r
    refine m_pure (pc1 := pc + 1) (st1 := r) (by intro a h; simp; exact Or.inl (Or.inr h)) (fun _ _ _ _ _ _ _ _ _ _ _ _ _ _ _ hx hb _ _ hlr kk => ?_) k.2
    exact lv_pop hx hb (m_dec hi nofun rfl) ((m_cv_cat v).trans k.1) kk
  · exact False.elim k
theorem m_jmp_of {X : mX} {off : Int} {f : Nat → mO} (k : m_do X d μ ls I F R n Q (m_jmp pc off f)) : ∃ t : Nat, (pc : Int) + off = (t : Int) ∧ m_do X d μ ls I F R n Q (f t) := by
  unfold m_jmp at k
  split at k
  · rename_i t ht
    exact ⟨t, ht, k⟩
  · exact False.elim k
theorem y_goto {off : Int} (hi : m_cd μ pc = .goto off) (k : m_do (m_X l base b L xs ids D lay) d μ ls I F R n Q (m_step lay d μ (.goto off) pc ls st I F R n)) : m_X l base b L xs ids D lay d μ pc ls st I F R n Q := by
  simp only [m_step] at k
  obtain ⟨t, ht, k⟩ := m_jmp_of k
  refine m_pure (pc1 := t) (st1 := st) (fun a h => Or.inl h) (fun _ _ _ _ _ _ _ _ _ _ _ _ _ _ _ hx hb _ _ hlr kk => ?_) k.2
  exact lv_goto hx hb (m_dec hi nofun rfl) ht kk
theorem y_if_eq {off : Int} (hi : m_cd μ pc = .ifCond .eq off) (k : m_do (m_X l base b L xs ids D lay) d μ ls I F R n Q (m_step lay d μ (.ifCond .eq off) pc ls st I F R n)) : m_X l base b L xs ids D lay d μ pc ls st I F R n Q := by
  simp only [m_step] at k
  split at k
  · rename_i x r
    obtain ⟨t, ht, k⟩ := m_jmp_of k
    refine m_pure (pc1 := if x = 0 then t else pc + 3) (st1 := r) (by intro a h; simp; exact Or.inl h) (fun _ _ _ _ _ _ _ _ _ _ _ _ _ _ _ hx hb _ _ hlr kk => ?_) k.2
    exact lv_if_eq hx hb (m_dec hi nofun rfl) ht (fun h => by rw [if_pos h] at kk; exact kk) (fun h => by rw [if_neg h] at kk; exact kk)
  · exact False.elim k
theorem y_if_ne {off : Int} (hi : m_cd μ pc = .ifCond .ne off) (k : m_do (m_X l base b L xs ids D lay) d μ ls I F R n Q (m_step lay d μ (.ifCond .ne off) pc ls st I F R n)) : m_X l base b L xs ids D lay d μ pc ls st I F R n Q := by
  simp only [m_step] at k
  split at k
  · rename_i x r
    obtain ⟨t, ht, k⟩ := m_jmp_of k
    refine m_pure (pc1 := if x = 0 then pc + 3 else t) (st1 := r) (by intro a h; simp; exact Or.inl h) (fun _ _ _ _ _ _ _ _ _ _ _ _ _ _ _ hx hb _ _ hlr kk => ?_) k.2
    exact lv_if_ne hx hb (m_dec hi nofun rfl) ht (fun h => by rw [if_neg h] at kk; exact kk) (fun h => by rw [if_pos h] at kk; exact kk)
  · exact False.elim k
theorem y_if_lt {off : Int} (hi : m_cd μ pc = .ifCond .lt off) (k : m_do (m_X l base b L xs ids D lay) d μ ls I F R n Q (m_step lay d μ (.ifCond .lt off) pc ls st I F R n)) : m_X l base b L xs ids D lay d μ pc ls st I F R n Q := by
  simp only [m_step] at k
  split at k
  · rename_i x r
    obtain ⟨t, ht, k⟩ := m_jmp_of k
    refine m_pure (pc1 := if x < 0 then t else pc + 3) (st1 := r) (by intro a h; simp; exact Or.inl h) (fun _ _ _ _ _ _ _ _ _ _ _ _ _ _ _ hx hb _ _ hlr kk => ?_) k.2
    exact lv_if_lt hx hb (m_dec hi nofun rfl) ht (fun h => by rw [if_pos h] at kk; exact kk) (fun h => by rw [if_neg h] at kk; exact kk)
  · exact False.elim k
theorem y_if_ge {off : Int} (hi : m_cd μ pc = .ifCond .ge off) (k : m_do (m_X l base b L xs ids D lay) d μ ls I F R n Q (m_step lay d μ (.ifCond .ge off) pc ls st I F R n)) : m_X l base b L xs ids D lay d μ pc ls st I F R n Q := by
  simp only [m_step] at k
  split at k
  · rename_i x r
    obtain ⟨t, ht, k⟩ := m_jmp_of k
    refine m_pure (pc1 := if 0 ≤ x then t else pc + 3) (st1 := r) (by intro a h; simp; exact Or.inl h) (fun _ _ _ _ _ _ _ _ _ _ _ _ _ _ _ hx hb _ _ hlr kk => ?_) k.2
    exact lv_if_ge hx hb (m_dec hi nofun rfl) ht (fun h => by rw [if_pos h] at kk; exact kk) (fun h => by rw [if_neg h] at kk; exact kk)
  · exact False.elim k
theorem y_if_gt {off : Int} (hi : m_cd μ pc = .ifCond .gt off) (k : m_do (m_X l base b L xs ids D lay) d μ ls I F R n Q (m_step lay d μ (.ifCond .gt off) pc ls st I F R n)) : m_X l base b L xs ids D lay d μ pc ls st I F R n Q := by
  simp only [m_step] at k
  split at k
  · rename_i x r
    obtain ⟨t, ht, k⟩ := m_jmp_of k
    refine m_pure (pc1 := if 0 < x then t else pc + 3) (st1 := r) (by intro a h; simp; exact Or.inl h) (fun _ _ _ _ _ _ _ _ _ _ _ _ _ _ _ hx hb _ _ hlr kk => ?_) k.2
    exact lv_if_gt hx hb (m_dec hi nofun rfl) ht (fun h => by rw [if_pos h] at kk; exact kk) (fun h => by rw [if_neg h] at kk; exact kk)
  · exact False.elim k
theorem y_if_le {off : Int} (hi : m_cd μ pc = .ifCond .le off) (k : m_do (m_X l base b L xs ids D lay) d μ ls I F R n Q (m_step lay d μ (.ifCond .le off) pc ls st I F R n)) : m_X l base b L xs ids D lay d μ pc ls st I F R n Q := by
  simp only [m_step] at k
  split at k
  · rename_i x r
    obtain ⟨t, ht, k⟩ := m_jmp_of k
    refine m_pure (pc1 := if x ≤ 0 then t else pc + 3) (st1 := r) (by intro a h; simp; exact Or.inl h) (fun _ _ _ _ _ _ _ _ _ _ _ _ _ _ _ hx hb _ _ hlr kk => ?_) k.2
    exact lv_if_le hx hb (m_dec hi nofun rfl) ht (fun h => by rw [if_pos h] at kk; exact kk) (fun h => by rw [if_neg h] at kk; exact kk)
  · exact False.elim k
theorem y_icmp_eq {off : Int} (hi : m_cd μ pc = .if_icmp .eq off) (k : m_do (m_X l base b L xs ids D lay) d μ ls I F R n Q (m_step lay d μ (.if_icmp .eq off) pc ls st I F R n)) : m_X l base b L xs ids D lay d μ pc ls st I F R n Q := by
  simp only [m_step] at k
  split at k
  · rename_i y x r
    obtain ⟨t, ht, k⟩ := m_jmp_of k
    refine m_pure (pc1 := if x = y then t else pc + 3) (st1 := r) (by intro a h; simp; exact Or.inl h) (fun _ _ _ _ _ _ _ _ _ _ _ _ _ _ _ hx hb _ _ hlr kk => ?_) k.2
    exact lv_icmp_eq hx hb (m_dec hi nofun rfl) ht (fun h => by rw [if_pos h] at kk; exact kk) (fun h => by rw [if_neg h] at kk; exact kk)
  · exact False.elim k
theorem y_icmp_ne {off : Int} (hi : m_cd μ pc = .if_icmp .ne off) (k : m_do (m_X l base b L xs ids D lay) d μ ls I F R n Q (m_step lay d μ (.if_icmp .ne off) pc ls st I F R n)) : m_X l base b L xs ids D lay d μ pc ls st I F R n Q := by
  simp only [m_step] at k
  split at k
  · rename_i y x r
    obtain ⟨t, ht, k⟩ := m_jmp_of k
    refine m_pure (pc1 := if x = y then pc + 3 else t) (st1 := r) (by intro a h; simp; exact Or.inl h) (fun _ _ _ _ _ _ _ _ _ _ _ _ _ _ _ hx hb _ _ hlr kk => ?_) k.2
    exact lv_icmp_ne hx hb (m_dec hi nofun rfl) ht (fun h => by rw [if_neg h] at kk; exact kk) (fun h => by rw [if_pos h] at kk; exact kk)
  · exact False.elim k
theorem y_icmp_lt {off : Int} (hi : m_cd μ pc = .if_icmp .lt off) (k : m_do (m_X l base b L xs ids D lay) d μ ls I F R n Q (m_step lay d μ (.if_icmp .lt off) pc ls st I F R n)) : m_X l base b L xs ids D lay d μ pc ls st I F R n Q := by
  simp only [m_step] at k
  split at k
  · rename_i y x r
    obtain ⟨t, ht, k⟩ := m_jmp_of k
    refine m_pure (pc1 := if x < y then t else pc + 3) (st1 := r) (by intro a h; simp; exact Or.inl h) (fun _ _ _ _ _ _ _ _ _ _ _ _ _ _ _ hx hb _ _ hlr kk => ?_) k.2
    exact lv_icmp_lt hx hb (m_dec hi nofun rfl) ht (fun h => by rw [if_pos h] at kk; exact kk) (fun h => by rw [if_neg h] at kk; exact kk)
  · exact False.elim k
theorem y_icmp_ge {off : Int} (hi : m_cd μ pc = .if_icmp .ge off) (k : m_do (m_X l base b L xs ids D lay) d μ ls I F R n Q (m_step lay d μ (.if_icmp .ge off) pc ls st I F R n)) : m_X l base b L xs ids D lay d μ pc ls st I F R n Q := by
  simp only [m_step] at k
  split at k
  · rename_i y x r
    obtain ⟨t, ht, k⟩ := m_jmp_of k
    refine m_pure (pc1 := if y ≤ x then t else pc + 3) (st1 := r) (by intro a h; simp; exact Or.inl h) (fun _ _ _ _ _ _ _ _ _ _ _ _ _ _ _ hx hb _ _ hlr kk => ?_) k.2
    exact lv_icmp_ge hx hb (m_dec hi nofun rfl) ht (fun h => by rw [if_pos h] at kk; exact kk) (fun h => by rw [if_neg h] at kk; exact kk)
  · exact False.elim k
theorem y_icmp_gt {off : Int} (hi : m_cd μ pc = .if_icmp .gt off) (k : m_do (m_X l base b L xs ids D lay) d μ ls I F R n Q (m_step lay d μ (.if_icmp .gt off) pc ls st I F R n)) : m_X l base b L xs ids D lay d μ pc ls st I F R n Q := by
  simp only [m_step] at k
  split at k
  · rename_i y x r
    obtain ⟨t, ht, k⟩ := m_jmp_of k
    refine m_pure (pc1 := if y < x then t else pc + 3) (st1 := r) (by intro a h; simp; exact Or.inl h) (fun _ _ _ _ _ _ _ _ _ _ _ _ _ _ _ hx hb _ _ hlr kk => ?_) k.2
    exact lv_icmp_gt hx hb (m_dec hi nofun rfl) ht (fun h => by rw [if_pos h] at kk; exact kk) (fun h => by rw [if_neg h] at kk; exact kk)
  · exact False.elim k
theorem y_icmp_le {off : Int} (hi : m_cd μ pc = .if_icmp .le off) (k : m_do (m_X l base b L xs ids D lay) d μ ls I F R n Q (m_step lay d μ (.if_icmp .le off) pc ls st I F R n)) : m_X l base b L xs ids D lay d μ pc ls st I F R n Q := by
  simp only [m_step] at k
  split at k
  · rename_i y x r
    obtain ⟨t, ht, k⟩ := m_jmp_of k
    refine m_pure (pc1 := if x ≤ y then t else pc + 3) (st1 := r) (by intro a h; simp; exact Or.inl h) (fun _ _ _ _ _ _ _ _ _ _ _ _ _ _ _ hx hb _ _ hlr kk => ?_) k.2
    exact lv_icmp_le hx hb (m_dec hi nofun rfl) ht (fun h => by rw [if_pos h] at kk; exact kk) (fun h => by rw [if_neg h] at kk; exact kk)
  · exact False.elim k
theorem y_ifnull {off : Int} (hi : m_cd μ pc = .ifnull off) (k : m_do (m_X l base b L xs ids D lay) d μ ls I F R n Q (m_step lay d μ (.ifnull off) pc ls st I F R n)) : m_X l base b L xs ids D lay d μ pc ls st I F R n Q := by
  simp only [m_step] at k
  split at k
  · rename_i r
    obtain ⟨t, ht, k⟩ := m_jmp_of k
    refine m_pure (pc1 := t) (st1 := r) (by intro a h; simp; exact Or.inl h) (fun _ _ _ _ _ _ _ _ _ _ _ _ _ _ _ hx hb _ _ hlr kk => ?_) k.2
    exact lv_ifnullN hx hb (m_dec hi nofun rfl) ht kk
  · rename_i x r
    refine m_pure (pc1 := pc + 3) (st1 := r) (by intro a h; simp; exact Or.inl (Or.inr h)) (fun _ _ _ _ _ _ _ _ _ _ _ _ _ _ _ hx hb _ _ hlr kk => ?_) k.2
    exact lv_ifnull hx hb (m_dec hi nofun rfl) kk
  · exact False.elim k
theorem y_ifnonnull {off : Int} (hi : m_cd μ pc = .ifnonnull off) (k : m_do (m_X l base b L xs ids D lay) d μ ls I F R n Q (m_step lay d μ (.ifnonnull off) pc ls st I F R n)) : m_X l base b L xs ids D lay d μ pc ls st I F R n Q := by
  simp only [m_step] at k
  split at k
  · rename_i r
    refine m_pure (pc1 := pc + 3) (st1 := r) (by intro a h; simp; exact Or.inl h) (fun _ _ _ _ _ _ _ _ _ _ _ _ _ _ _ hx hb _ _ hlr kk => ?_) k.2
    exact lv_ifnonnullN hx hb (m_dec hi nofun rfl) kk
  · rename_i x r
    obtain ⟨t, ht, k⟩ := m_jmp_of k
    refine m_pure (pc1 := t) (st1 := r) (by intro a h; simp; exact Or.inl (Or.inr h)) (fun _ _ _ _ _ _ _ _ _ _ _ _ _ _ _ hx hb _ _ hlr kk => ?_) k.2
    exact lv_ifnonnull hx hb (m_dec hi nofun rfl) ht kk
  · exact False.elim k
theorem y_tableswitch {df lo hi0 : Int} {offs : Array Int} (hi : m_cd μ pc = .tableswitch df lo hi0 offs) (k : m_do (m_X l base b L xs ids D lay) d μ ls I F R n Q (m_step lay d μ (.tableswitch df lo hi0 offs) pc ls st I F R n)) : m_X l base b L xs ids D lay d μ pc ls st I F R n Q := by
  obtain ⟨len, hdc⟩ := m_decS hi nofun
  simp only [m_step] at k
  split at k
  · rename_i x r
    split at k
    · rename_i hc
      obtain ⟨t, ht, k⟩ := m_jmp_of k
      refine m_pure (pc1 := t) (st1 := r) (by intro a h; simp; exact Or.inl h) (fun _ _ _ _ _ _ _ _ _ _ _ _ _ _ _ hx hb _ _ hlr kk => ?_) k.2
      exact lv_tableOut hx hb hdc hc ht kk
    · rename_i hc
      split at k
      · rename_i off ho
        obtain ⟨t, ht, k⟩ := m_jmp_of k
        refine m_pure (pc1 := t) (st1 := r) (by intro a h; simp; exact Or.inl h) (fun _ _ _ _ _ _ _ _ _ _ _ _ _ _ _ hx hb _ _ hlr kk => ?_) k.2
        exact lv_tableIn hx hb hdc (fun q => hc (Or.inl q)) (fun q => hc (Or.inr q)) ho ht kk
      · exact False.elim k
  · exact False.elim k
theorem y_lookupswitch {df : Int} {ps : Array (Int × Int)} (hi : m_cd μ pc = .lookupswitch df ps) (k : m_do (m_X l base b L xs ids D lay) d μ ls I F R n Q (m_step lay d μ (.lookupswitch df ps) pc ls st I F R n)) : m_X l base b L xs ids D lay d μ pc ls st I F R n Q := by
  obtain ⟨len, hdc⟩ := m_decS hi nofun
  simp only [m_step] at k
  split at k
  · rename_i x r
    obtain ⟨t, ht, k⟩ := m_jmp_of k
    refine m_pure (pc1 := t) (st1 := r) (by intro a h; simp; exact Or.inl h) (fun _ _ _ _ _ _ _ _ _ _ _ _ _ _ _ hx hb _ _ hlr kk => ?_) k.2
    exact lv_lookup hx hb hdc k.1 rfl ht kk
  · exact False.elim k
theorem y_ldc {ix : Nat} (hi : m_cd μ pc = .ldc ix) (k : m_do (m_X l base b L xs ids D lay) d μ ls I F R n Q (m_step lay d μ (.ldc ix) pc ls st I F R n)) : m_X l base b L xs ids D lay d μ pc ls st I F R n Q := by
  simp only [m_step] at k
  split at k
  · rename_i i v he
    have hw := m_ct_all _ _ (List.mem_of_find?_eq_some he)
    have hix : i = ix := by simpa using List.find?_some he
    subst hix
    refine m_pure (pc1 := pc + 2) (st1 := .int v :: st) (by intro a h; simp at h; exact Or.inl h) (fun _ _ _ _ _ _ _ _ _ _ _ _ _ _ _ hx hb ho hts hlr kk => ?_) k.2
    exact lv_ldc hx hb ho (hts _ hw) (m_dec hi nofun rfl) kk
  · rename_i i v he
    have hw := m_ct_all _ _ (List.mem_of_find?_eq_some he)
    have hix : i = ix := by simpa using List.find?_some he
    subst hix
    refine m_pure (pc1 := pc + 2) (st1 := .float v :: st) (by intro a h; simp at h; exact Or.inl h) (fun _ _ _ _ _ _ _ _ _ _ _ _ _ _ _ hx hb ho hts hlr kk => ?_) k.2
    exact lv_ldcf hx hb ho (hts _ hw) (m_dec hi nofun rfl) kk
  · exact False.elim k
theorem y_ldc_w {ix : Nat} (hi : m_cd μ pc = .ldc_w ix) (k : m_do (m_X l base b L xs ids D lay) d μ ls I F R n Q (m_step lay d μ (.ldc_w ix) pc ls st I F R n)) : m_X l base b L xs ids D lay d μ pc ls st I F R n Q := by
  simp only [m_step] at k
  split at k
  · rename_i i v he
    have hw := m_ct_all _ _ (List.mem_of_find?_eq_some he)
    have hix : i = ix := by simpa using List.find?_some he
    subst hix
    refine m_pure (pc1 := pc + 3) (st1 := .int v :: st) (by intro a h; simp at h; exact Or.inl h) (fun _ _ _ _ _ _ _ _ _ _ _ _ _ _ _ hx hb ho hts hlr kk => ?_) k.2
    exact lv_ldcw hx hb ho (hts _ hw) (m_dec hi nofun rfl) kk
  · exact False.elim k
theorem y_ldc2_w {ix : Nat} (hi : m_cd μ pc = .ldc2_w ix) (k : m_do (m_X l base b L xs ids D lay) d μ ls I F R n Q (m_step lay d μ (.ldc2_w ix) pc ls st I F R n)) : m_X l base b L xs ids D lay d μ pc ls st I F R n Q := by
  simp only [m_step] at k
  split at k
  · rename_i i v he
    have hw := m_ct_all _ _ (List.mem_of_find?_eq_some he)
    have hix : i = ix := by simpa using List.find?_some he
    subst hix
    refine m_pure (pc1 := pc + 3) (st1 := .long v :: st) (by intro a h; simp at h; exact Or.inl h) (fun _ _ _ _ _ _ _ _ _ _ _ _ _ _ _ hx hb ho hts hlr kk => ?_) k.2
    exact lv_ldc2 hx hb ho (hts _ hw) (m_dec hi nofun rfl) kk
  · rename_i i v he
    have hw := m_ct_all _ _ (List.mem_of_find?_eq_some he)
    have hix : i = ix := by simpa using List.find?_some he
    subst hix
    refine m_pure (pc1 := pc + 3) (st1 := .double v :: st) (by intro a h; simp at h; exact Or.inl h) (fun _ _ _ _ _ _ _ _ _ _ _ _ _ _ _ hx hb ho hts hlr kk => ?_) k.2
    exact lv_ldc2d hx hb ho (hts _ hw) (m_dec hi nofun rfl) kk
  · exact False.elim k
end YR
