section YO
variable {l : Launch} {base b L : Nat} {xs : Nat → Int32} {ids : m_ID} {D : va_G} {lay : mL} {d μ pc n : Nat} {ls st : List Value} {I : mI} {F : mF} {R : mR} {Q : mP}
theorem m_pic_I0 {I' : mI} {H H1 : Heap} {F' : mF} {R' : mR} {ws : va_W} (hpic : m_pic base ids D lay L xs I F R n H) (h0 : I' 0 = I 0) (hP : va_P D vwCl ws H1) (hw : ws = m_w base ids lay I' F' R' n) (hz : H1.size = H.size) : m_pic base ids D lay L xs I' F' R' n H1 :=
  ⟨by rw [← hw]; exact hP, by rw [hz]; exact hpic.2.1, hpic.2.2.1, fun j hj => by rw [h0]; exact hpic.2.2.2 j hj⟩
theorem m_w_up {I' : mI} {R' : mR} {ci a k : Nat} {v : Value} (ha : a ≠ 0) (hn : a < n) (hl : lay a = (5 + ci, 0)) (hI : ∀ x, x ≠ a → I' x = I x) (hR : ∀ x, x ≠ a → R' x = R x) (hj : ∀ j, j ≠ k → I' a j = I a j ∧ R' a j = R a j) (hv : m_fc base (m_tyc ((m_c ci).2.2.2 k)) (I' a k) (R' a k) = v) :
    (m_w base ids lay I F R n).set (a - 1) (m_k base b a, .inr (ci, ((List.range (m_c ci).2.2.1).map fun k => m_fc base (m_tyc ((m_c ci).2.2.2 k)) (I a k) (R a k)).set k v)) = m_w base ids lay I' F R' n := by
  have e : ((List.range (m_c ci).2.2.1).map fun k => m_fc base (m_tyc ((m_c ci).2.2.2 k)) (I a k) (R a k)).set k v = (List.range (m_c ci).2.2.1).map fun k => m_fc base (m_tyc ((m_c ci).2.2.2 k)) (I' a k) (R' a k) := by
    rw [← hv]
    exact m_fs_set (f := fun k => m_fc base (m_tyc ((m_c ci).2.2.2 k)) (I a k) (R a k)) (g := fun k => m_fc base (m_tyc ((m_c ci).2.2.2 k)) (I' a k) (R' a k)) (fun j h => by rw [(hj j h).1, (hj j h).2])
  rw [e, m_k_pos ha, ← m_w_set (base := base) (ids := ids) (lay := lay) (I := I) (I' := I') (F := F) (F' := F) (R := R) (R' := R') (a := a) (by omega) hn hI (fun _ _ => rfl) hR, hl, m_ce_o]
theorem m_tyc_0 {t : FieldType} (h : m_tyc t = 0) : t = .int := by cases t <;> first | rfl | cases h
theorem m_tyc_1 {t : FieldType} (h : m_tyc t = 1) : t = .boolean := by cases t <;> first | rfl | cases h
theorem m_tyc_2 {t : FieldType} (h : m_tyc t = 2) : t = .char := by cases t <;> first | rfl | cases h
theorem m_tyc_3n {t : FieldType} (h : m_tyc t = 3) : narrow t .null = .null ∧ fits t .null = true := by cases t <;> first | exact ⟨rfl, rfl⟩ | cases h
theorem m_tyc_3r {t : FieldType} {a : Nat} (h : m_tyc t = 3) : narrow t (.ref a) = .ref a ∧ fits t (.ref a) = true := by cases t <;> first | exact ⟨rfl, rfl⟩ | cases h
/-- a field of a number or a reference -/
theorem m_stor (h0 : (lay 0).1 = 0) {ix i ci k ty a : Nat} {fin : Bool} {v : Value} {I' : mI} {R' : mR} {r : List Value} (hi : m_cd μ pc = .putfield ix) (he : m_flk (m_ox μ) ix = some (i, ci, k, ty, fin)) (hf : (fin && !(m_ini μ && ci == m_ox μ)) = false) (hl : lay a = (5 + ci, 0))
    (hI : ∀ x, x ≠ a → I' x = I x) (hR : ∀ x, x ≠ a → R' x = R x) (hj : ∀ j, j ≠ k → I' a j = I a j ∧ R' a j = R a j) (hv : m_fc base ty (I' a k) (R' a k) = m_cv base b v) (hR' : m_wf ls (v :: .ref a :: r) R n → ∀ a k, R' a k < n)
    (hnf : ∀ t, m_tyc t = ty → narrow t (m_cv base b v) = m_cv base b v ∧ fits t (m_cv base b v) = true)
    (k0 : m_X l base b L xs ids D lay d μ (pc + 3) ls r I' F R' n Q) : m_X l base b L xs ids D lay d μ pc ls (v :: .ref a :: r) I F R n Q := by
  obtain ⟨g1, g2, g3, g4, g5, g6⟩ : m_flP (m_own (m_ox μ)) (i, ci, k, ty, fin) := m_fl_all _ _ (List.mem_of_find?_eq_some he)
  have hix : i = ix := by simpa using List.find?_some he
  subst hix
  refine m_same (fun h => ⟨h.1, fun x hx => h.2.1 x (List.mem_cons_of_mem _ (List.mem_cons_of_mem _ hx)), hR' h⟩) ?_ k0
  intro hw p e R0 s m args below meth c Qr H locs cells slots rl hcx hpic hva hlr hc hs hd hloc kk
  obtain ⟨hx, hb, hr, hml, hown, hts, hlk, hini, hkx, hm⟩ := hcx
  have han : a < n := hw.2.1 a (List.mem_cons_of_mem _ List.mem_cons_self)
  obtain ⟨ha, he1⟩ := m_w_obj (base := base) (b := b) (ids := ids) (I := I) (F := F) (R := R) h0 hl han
  obtain ⟨n1, n2⟩ := hnf _ g6
  refine m_put_row (own := m_own (m_ox μ)) (ix := i) hx hb hts (m_own_of hm hown) g1 hkx.1 hpic.1 m_w_D hva he1 g2 g3 g4 ?_ n1 n2 (by simpa using g2) (m_dec hi nofun rfl) (fun H1 locs1 hP hS hz => ?_)
  · cases hfin : fin with
    | false => exact Or.inl (by rw [g5, hfin])
    | true =>
      rw [hfin] at hf
      simp only [Bool.true_and, Bool.not_eq_false', Bool.and_eq_true, beq_iff_eq] at hf
      refine Or.inr ⟨by rw [g5, hfin], hini hf.1, ?_⟩
      rw [← hf.2]
      exact m_cl_own _ g1
  · refine kk H1 locs1 rl (m_pic_I0 hpic (hI 0 (fun q => ha q.symm)) hP ?_ hz) hS hlr
    exact m_w_up ha han hl hI hR hj (by rw [g6]; exact hv)
theorem y_putfield (h0 : (lay 0).1 = 0) {ix : Nat} (hi : m_cd μ pc = .putfield ix) (k0 : m_do (m_X l base b L xs ids D lay) d μ ls I F R n Q (m_step lay d μ (.putfield ix) pc ls st I F R n)) : m_X l base b L xs ids D lay d μ pc ls st I F R n Q := by
  simp only [m_step] at k0
  split at k0
  · rename_i v a r
    split at k0
    · rename_i i ci k ty fin he
      split at k0
      · exact False.elim k0
      · rename_i hf
        split at k0
        · rename_i x
          exact m_stor h0 hi he hf k0.1 (fun x h => m_up_off h) (fun _ _ => rfl) (fun j h => ⟨m_up_ne h, rfl⟩) (by rw [m_up_at]; rfl) (fun h => h.2.2) (fun t ht => by rw [m_tyc_0 ht]; exact ⟨rfl, rfl⟩) k0.2
        · rename_i x
          exact m_stor h0 hi he hf k0.1.1 (fun x h => m_up_off h) (fun _ _ => rfl) (fun j h => ⟨m_up_ne h, rfl⟩) (by rw [m_up_at]; rfl) (fun h => h.2.2) (fun t ht => by
            rw [m_tyc_1 ht]
            rcases k0.1.2 with rfl | rfl <;> exact ⟨rfl, rfl⟩) k0.2
        · rename_i x
          exact m_stor h0 hi he hf k0.1.1 (fun x h => m_up_off h) (fun _ _ => rfl) (fun j h => ⟨m_up_ne h, rfl⟩) (by rw [m_up_at]; rfl) (fun h => h.2.2) (fun t ht => by
            rw [m_tyc_2 ht]
            exact k0.1.2) k0.2
        · exact m_stor h0 hi he hf k0.1 (fun _ _ => rfl) (fun x h => m_up_off h) (fun j h => ⟨rfl, m_up_ne h⟩) (by rw [m_up_at]; rfl) (fun h x y => by
            unfold m_up
            split
            · have := h.2.2 0 0
              omega
            · exact h.2.2 x y) (fun t ht => m_tyc_3n ht) k0.2
        · rename_i bb
          refine m_stor h0 hi he hf k0.1.1 (fun _ _ => rfl) (fun x h => m_up_off h) (fun j h => ⟨rfl, m_up_ne h⟩) ?_ (fun h x y => ?_) (fun t ht => m_tyc_3r ht) k0.2
          · rw [m_up_at]
            cases bb with
            | zero => exact absurd rfl k0.1.2
            | succ z => rfl
          · unfold m_up
            split
            · exact h.2.1 bb List.mem_cons_self
            · exact h.2.2 x y
        · exact False.elim k0
    · exact False.elim k0
  · exact False.elim k0
-- arrays
theorem m_ce_0 {k : Nat × Nat} {ri : Nat → Int32} {rf : Nat → UInt32} {rr : Nat → Nat} (h : k.1 = 0) : m_ce base ids k ri rf rr = .inl (ids.1, k.2, .inl ri) := by
  unfold m_ce
  rw [h]
theorem m_ce_1 {k : Nat × Nat} {ri : Nat → Int32} {rf : Nat → UInt32} {rr : Nat → Nat} (h : k.1 = 1) : m_ce base ids k ri rf rr = .inl (ids.2.1, k.2, .inr (.inr (.inl rf))) := by
  unfold m_ce
  rw [h]
theorem m_ce_2 {k : Nat × Nat} {ri : Nat → Int32} {rf : Nat → UInt32} {rr : Nat → Nat} (h : k.1 = 2) : m_ce base ids k ri rf rr = .inl (ids.2.2.1, k.2, .inl ri) := by
  unfold m_ce
  rw [h]
theorem m_ce_3 {k : Nat × Nat} {ri : Nat → Int32} {rf : Nat → UInt32} {rr : Nat → Nat} (h : k.1 = 3) : m_ce base ids k ri rf rr = .inl (ids.2.2.2.1, k.2, .inl ri) := by
  unfold m_ce
  rw [h]
theorem m_ce_4 {k : Nat × Nat} {ri : Nat → Int32} {rf : Nat → UInt32} {rr : Nat → Nat} (h : k.1 = 4) : m_ce base ids k ri rf rr = .inl (ids.2.2.2.2, k.2, .inr (.inr (.inr (.inr fun j => m_ro base (rr j))))) := by
  unfold m_ce
  rw [h]
theorem m_row_of {a kd : Nat} (hk : kd ≠ 0) (h0 : (lay 0).1 = 0) (h : (lay a).1 = kd) : a ≠ 0 := by
  intro e
  subst e
  omega
theorem m_wf_tail2 {v w : Value} {r : List Value} (h : m_wf ls (v :: w :: r) R n) : m_wf ls r R n := ⟨h.1, fun x hx => h.2.1 x (List.mem_cons_of_mem _ (List.mem_cons_of_mem _ hx)), h.2.2⟩
theorem m_wf_int2 {v w : Value} {r : List Value} {u : Value} (hu : ∀ a, u ≠ .ref a) (h : m_wf ls (v :: w :: r) R n) : m_wf ls (u :: r) R n := ⟨h.1, fun x hx => by
  rcases List.mem_cons.mp hx with hx | hx
  · exact absurd hx.symm (hu x)
  · exact h.2.1 x (List.mem_cons_of_mem _ (List.mem_cons_of_mem _ hx)), h.2.2⟩
theorem y_iaload (h0 : lay 0 = (0, L)) (hi : m_cd μ pc = .iaload) (k0 : m_do (m_X l base b L xs ids D lay) d μ ls I F R n Q (m_step lay d μ .iaload pc ls st I F R n)) : m_X l base b L xs ids D lay d μ pc ls st I F R n Q := by
  simp only [m_step] at k0
  split at k0
  · rename_i i a r
    refine m_same (m_wf_int2 (by intro a h; cases h)) ?_ k0.2
    intro hw p e R0 s m args below meth c Qr H locs cells slots rl hcx hpic hva hlr hc hs hd hloc kk
    obtain ⟨hx, hb, hr, hml, hown, hts, hlk, hini, hkx, hm⟩ := hcx
    have han : a < n := hw.2.1 a (List.mem_cons_of_mem _ List.mem_cons_self)
    have k1 := kk H locs rl hpic hva hlr
    by_cases ha : a = 0
    · subst ha
      have hin : vp_in i L := by
        have := k0.1.2
        rw [h0] at this
        exact this
      have hlt : i.toNatClampNeg < L := Nat.not_le.mp fun q => hin (Or.inr q)
      rw [hpic.2.2.2 _ hlt] at k1
      exact va_sld hx hb hkx.2.2.2.1 (Nat.lt_of_le_of_lt hkx.2.2.2.2.2 hkx.2.2.2.2.1) (Nat.not_lt.mpr hkx.2.2.2.2.2) hva hin (m_dec hi nofun rfl) k1
    · have he := m_w_row (base := base) (b := b) (ids := ids) (lay := lay) (I := I) (F := F) (R := R) ha han
      rw [m_ce_0 k0.1.1] at he
      exact va_iald hx hb hkx.1 hpic.1 (a - 1) 0 he rfl k0.1.2 (m_dec hi nofun rfl) k1
  · exact False.elim k0
theorem y_faload (h0 : (lay 0).1 = 0) (hi : m_cd μ pc = .faload) (k0 : m_do (m_X l base b L xs ids D lay) d μ ls I F R n Q (m_step lay d μ .faload pc ls st I F R n)) : m_X l base b L xs ids D lay d μ pc ls st I F R n Q := by
  simp only [m_step] at k0
  split at k0
  · rename_i i a r
    refine m_same (m_wf_int2 (by intro a h; cases h)) ?_ k0.2
    intro hw p e R0 s m args below meth c Qr H locs cells slots rl hcx hpic hva hlr hc hs hd hloc kk
    obtain ⟨hx, hb, hr, hml, hown, hts, hlk, hini, hkx, hm⟩ := hcx
    have han : a < n := hw.2.1 a (List.mem_cons_of_mem _ List.mem_cons_self)
    have ha := m_row_of (by decide) h0 k0.1.1
    have he := m_w_row (base := base) (b := b) (ids := ids) (lay := lay) (I := I) (F := F) (R := R) ha han
    rw [m_ce_1 k0.1.1] at he
    exact va_fald hx hb hkx.1 hpic.1 (a - 1) 1 he rfl k0.1.2 (m_dec hi nofun rfl) (kk H locs rl hpic hva hlr)
  · exact False.elim k0
theorem y_baload (h0 : (lay 0).1 = 0) (hi : m_cd μ pc = .baload) (k0 : m_do (m_X l base b L xs ids D lay) d μ ls I F R n Q (m_step lay d μ .baload pc ls st I F R n)) : m_X l base b L xs ids D lay d μ pc ls st I F R n Q := by
  simp only [m_step] at k0
  split at k0
  · rename_i i a r
    refine m_same (m_wf_int2 (by intro a h; cases h)) ?_ k0.2
    intro hw p e R0 s m args below meth c Qr H locs cells slots rl hcx hpic hva hlr hc hs hd hloc kk
    obtain ⟨hx, hb, hr, hml, hown, hts, hlk, hini, hkx, hm⟩ := hcx
    have han : a < n := hw.2.1 a (List.mem_cons_of_mem _ List.mem_cons_self)
    have ha := m_row_of (by decide) h0 k0.1.1
    have he := m_w_row (base := base) (b := b) (ids := ids) (lay := lay) (I := I) (F := F) (R := R) ha han
    rw [m_ce_2 k0.1.1] at he
    exact va_zald hx hb hkx.1 hpic.1 (a - 1) 2 he rfl k0.1.2 (m_dec hi nofun rfl) (kk H locs rl hpic hva hlr)
  · exact False.elim k0
theorem y_caload (h0 : (lay 0).1 = 0) (hi : m_cd μ pc = .caload) (k0 : m_do (m_X l base b L xs ids D lay) d μ ls I F R n Q (m_step lay d μ .caload pc ls st I F R n)) : m_X l base b L xs ids D lay d μ pc ls st I F R n Q := by
  simp only [m_step] at k0
  split at k0
  · rename_i i a r
    refine m_same (m_wf_int2 (by intro a h; cases h)) ?_ k0.2
    intro hw p e R0 s m args below meth c Qr H locs cells slots rl hcx hpic hva hlr hc hs hd hloc kk
    obtain ⟨hx, hb, hr, hml, hown, hts, hlk, hini, hkx, hm⟩ := hcx
    have han : a < n := hw.2.1 a (List.mem_cons_of_mem _ List.mem_cons_self)
    have ha := m_row_of (by decide) h0 k0.1.1
    have he := m_w_row (base := base) (b := b) (ids := ids) (lay := lay) (I := I) (F := F) (R := R) ha han
    rw [m_ce_3 k0.1.1] at he
    exact va_cald hx hb hkx.1 hpic.1 (a - 1) 3 he rfl k0.1.2 (m_dec hi nofun rfl) (kk H locs rl hpic hva hlr)
  · exact False.elim k0
theorem m_ro_rv {r : Nat} : va_rf (m_ro base r) = m_cv base b (m_rv r) := by cases r <;> rfl
theorem y_aaload (h0 : (lay 0).1 = 0) (hi : m_cd μ pc = .aaload) (k0 : m_do (m_X l base b L xs ids D lay) d μ ls I F R n Q (m_step lay d μ .aaload pc ls st I F R n)) : m_X l base b L xs ids D lay d μ pc ls st I F R n Q := by
  simp only [m_step] at k0
  split at k0
  · rename_i i a r
    refine m_same (fun h => ⟨h.1, fun x hx => ?_, h.2.2⟩) ?_ k0.2
    · rcases List.mem_cons.mp hx with hx | hx
      · have := h.2.2 a i.toNatClampNeg
        cases hr : R a i.toNatClampNeg with
        | zero => rw [hr] at hx; cases hx
        | succ z =>
          rw [hr] at hx this
          cases hx
          exact this
      · exact h.2.1 x (List.mem_cons_of_mem _ (List.mem_cons_of_mem _ hx))
    intro hw p e R0 s m args below meth c Qr H locs cells slots rl hcx hpic hva hlr hc hs hd hloc kk
    obtain ⟨hx, hb, hr, hml, hown, hts, hlk, hini, hkx, hm⟩ := hcx
    have han : a < n := hw.2.1 a (List.mem_cons_of_mem _ List.mem_cons_self)
    have ha := m_row_of (by decide) h0 k0.1.1
    have he := m_w_row (base := base) (b := b) (ids := ids) (lay := lay) (I := I) (F := F) (R := R) ha han
    rw [m_ce_4 k0.1.1] at he
    refine va_aldq hx hb hkx.1 hpic.1 (a - 1) 4 he (C := "ShelfSlots$Shed") rfl k0.1.2 (m_dec hi nofun rfl) ?_
    rw [m_ro_rv (b := b)]
    exact kk H locs rl hpic hva hlr
  · exact False.elim k0
theorem m_w_arr {I' : mI} {F' : mF} {R' : mR} {a : Nat} {e : va_E} (ha : a ≠ 0) (hn : a < n) (hI : ∀ x, x ≠ a → I' x = I x) (hF : ∀ x, x ≠ a → F' x = F x) (hR : ∀ x, x ≠ a → R' x = R x) (he : m_ce base ids (lay a) (I' a) (F' a) (R' a) = e) : (m_w base ids lay I F R n).set (a - 1) (m_k base b a, e) = m_w base ids lay I' F' R' n := by
  rw [← he, m_k_pos ha]
  exact m_w_set (by omega) hn hI hF hR
theorem y_iastore (h0 : (lay 0).1 = 0) (hi : m_cd μ pc = .iastore) (k0 : m_do (m_X l base b L xs ids D lay) d μ ls I F R n Q (m_step lay d μ .iastore pc ls st I F R n)) : m_X l base b L xs ids D lay d μ pc ls st I F R n Q := by
  simp only [m_step] at k0
  split at k0
  · rename_i x i a r
    refine m_same (fun h => ⟨h.1, fun x hx => h.2.1 x (List.mem_cons_of_mem _ (List.mem_cons_of_mem _ (List.mem_cons_of_mem _ hx))), h.2.2⟩) ?_ k0.2
    intro hw p e R0 s m args below meth c Qr H locs cells slots rl hcx hpic hva hlr hc hs hd hloc kk
    obtain ⟨hx, hb, hr, hml, hown, hts, hlk, hini, hkx, hm⟩ := hcx
    have han : a < n := hw.2.1 a (List.mem_cons_of_mem _ (List.mem_cons_of_mem _ List.mem_cons_self))
    have ha : a ≠ 0 := k0.1.1
    have he := m_w_row (base := base) (b := b) (ids := ids) (lay := lay) (I := I) (F := F) (R := R) ha han
    rw [m_ce_0 k0.1.2.1] at he
    have hcell := hpic.1 _ _ he
    refine W.iast hx hb hcell ((hkx.1.2 0 _ rfl).1 (lay a).2 (fun j => .int (I a j))) (fun q => by cases q) (by show ¬ (i < 0 ∨ (arrV _ _ _).slots.size ≤ _); rw [arrV_size]; exact k0.1.2.2) rfl rfl (m_dec hi nofun rfl) fun H1 e1 z oq => ?_
    refine kk H1 _ rl (m_pic_I0 hpic (m_up_off (fun q => ha q.symm)) (hpic.1.set m_w_D he (e := m_ce base ids (lay a) ((m_up I a i.toNatClampNeg x) a) ((F) a) (R a)) ?_ oq) (m_w_arr ha han (fun x h => m_up_off h) (fun _ _ => rfl) (fun _ _ => rfl) rfl) z) (hva.put z oq (m_w_D.2 _ _ he)) hlr
    rw [m_ce_0 k0.1.2.1]
    show H1[_]? = some (vp_cell _ _)
    rw [e1, vp_cell_i, vp_cell_i, arrV_store]
    congr 2
    funext q
    by_cases hq : q = i.toNatClampNeg
    · subst hq
      simp [updV, m_up, vp_nar]
      try rfl
    · simp [updV, m_up, hq]
  · exact False.elim k0
theorem y_fastore (h0 : (lay 0).1 = 0) (hi : m_cd μ pc = .fastore) (k0 : m_do (m_X l base b L xs ids D lay) d μ ls I F R n Q (m_step lay d μ .fastore pc ls st I F R n)) : m_X l base b L xs ids D lay d μ pc ls st I F R n Q := by
  simp only [m_step] at k0
  split at k0
  · rename_i x i a r
    refine m_same (fun h => ⟨h.1, fun x hx => h.2.1 x (List.mem_cons_of_mem _ (List.mem_cons_of_mem _ (List.mem_cons_of_mem _ hx))), h.2.2⟩) ?_ k0.2
    intro hw p e R0 s m args below meth c Qr H locs cells slots rl hcx hpic hva hlr hc hs hd hloc kk
    obtain ⟨hx, hb, hr, hml, hown, hts, hlk, hini, hkx, hm⟩ := hcx
    have han : a < n := hw.2.1 a (List.mem_cons_of_mem _ (List.mem_cons_of_mem _ List.mem_cons_self))
    have ha : a ≠ 0 := m_row_of (by decide) h0 k0.1.1
    have he := m_w_row (base := base) (b := b) (ids := ids) (lay := lay) (I := I) (F := F) (R := R) ha han
    rw [m_ce_1 k0.1.1] at he
    have hcell := hpic.1 _ _ he
    refine W.fast hx hb hcell ((hkx.1.2 1 _ rfl).1 (lay a).2 (fun j => .float (F a j))) (fun q => by cases q) (by show ¬ (i < 0 ∨ (arrV _ _ _).slots.size ≤ _); rw [arrV_size]; exact k0.1.2) rfl rfl (m_dec hi nofun rfl) fun H1 e1 z oq => ?_
    refine kk H1 _ rl (m_pic_I0 hpic (rfl) (hpic.1.set m_w_D he (e := m_ce base ids (lay a) ((I) a) ((m_up F a i.toNatClampNeg x) a) (R a)) ?_ oq) (m_w_arr ha han (fun _ _ => rfl) (fun x h => m_up_off h) (fun _ _ => rfl) rfl) z) (hva.put z oq (m_w_D.2 _ _ he)) hlr
    rw [m_ce_1 k0.1.1]
    show H1[_]? = some (vp_cell _ _)
    rw [e1, vp_cell_f, vp_cell_f, arrV_store]
    congr 2
    funext q
    by_cases hq : q = i.toNatClampNeg
    · subst hq
      simp [updV, m_up, vp_nar]
      try rfl
    · simp [updV, m_up, hq]
  · exact False.elim k0
theorem y_bastore (h0 : (lay 0).1 = 0) (hi : m_cd μ pc = .bastore) (k0 : m_do (m_X l base b L xs ids D lay) d μ ls I F R n Q (m_step lay d μ .bastore pc ls st I F R n)) : m_X l base b L xs ids D lay d μ pc ls st I F R n Q := by
  simp only [m_step] at k0
  split at k0
  · rename_i x i a r
    refine m_same (fun h => ⟨h.1, fun x hx => h.2.1 x (List.mem_cons_of_mem _ (List.mem_cons_of_mem _ (List.mem_cons_of_mem _ hx))), h.2.2⟩) ?_ k0.2
    intro hw p e R0 s m args below meth c Qr H locs cells slots rl hcx hpic hva hlr hc hs hd hloc kk
    obtain ⟨hx, hb, hr, hml, hown, hts, hlk, hini, hkx, hm⟩ := hcx
    have han : a < n := hw.2.1 a (List.mem_cons_of_mem _ (List.mem_cons_of_mem _ List.mem_cons_self))
    have ha : a ≠ 0 := m_row_of (by decide) h0 k0.1.1
    have he := m_w_row (base := base) (b := b) (ids := ids) (lay := lay) (I := I) (F := F) (R := R) ha han
    rw [m_ce_2 k0.1.1] at he
    have hcell := hpic.1 _ _ he
    refine W.zast hx hb hcell ((hkx.1.2 2 _ rfl).1 (lay a).2 (fun j => .int (I a j))) (fun q => by cases q) (by show ¬ (i < 0 ∨ (arrV _ _ _).slots.size ≤ _); rw [arrV_size]; exact k0.1.2) rfl rfl (m_dec hi nofun rfl) fun H1 e1 z oq => ?_
    refine kk H1 _ rl (m_pic_I0 hpic (m_up_off (fun q => ha q.symm)) (hpic.1.set m_w_D he (e := m_ce base ids (lay a) ((m_up I a i.toNatClampNeg (vp_nar .boolean x)) a) ((F) a) (R a)) ?_ oq) (m_w_arr ha han (fun x h => m_up_off h) (fun _ _ => rfl) (fun _ _ => rfl) rfl) z) (hva.put z oq (m_w_D.2 _ _ he)) hlr
    rw [m_ce_2 k0.1.1]
    show H1[_]? = some (vp_cell _ _)
    rw [e1, vp_cell_i, vp_cell_i, arrV_store]
    congr 2
    funext q
    by_cases hq : q = i.toNatClampNeg
    · subst hq
      simp [updV, m_up, vp_nar]
      try rfl
    · simp [updV, m_up, hq]
  · exact False.elim k0
theorem y_castore (h0 : (lay 0).1 = 0) (hi : m_cd μ pc = .castore) (k0 : m_do (m_X l base b L xs ids D lay) d μ ls I F R n Q (m_step lay d μ .castore pc ls st I F R n)) : m_X l base b L xs ids D lay d μ pc ls st I F R n Q := by
  simp only [m_step] at k0
  split at k0
  · rename_i x i a r
    refine m_same (fun h => ⟨h.1, fun x hx => h.2.1 x (List.mem_cons_of_mem _ (List.mem_cons_of_mem _ (List.mem_cons_of_mem _ hx))), h.2.2⟩) ?_ k0.2
    intro hw p e R0 s m args below meth c Qr H locs cells slots rl hcx hpic hva hlr hc hs hd hloc kk
    obtain ⟨hx, hb, hr, hml, hown, hts, hlk, hini, hkx, hm⟩ := hcx
    have han : a < n := hw.2.1 a (List.mem_cons_of_mem _ (List.mem_cons_of_mem _ List.mem_cons_self))
    have ha : a ≠ 0 := m_row_of (by decide) h0 k0.1.1
    have he := m_w_row (base := base) (b := b) (ids := ids) (lay := lay) (I := I) (F := F) (R := R) ha han
    rw [m_ce_3 k0.1.1] at he
    have hcell := hpic.1 _ _ he
    refine W.cast hx hb hcell ((hkx.1.2 3 _ rfl).1 (lay a).2 (fun j => .int (I a j))) (fun q => by cases q) (by show ¬ (i < 0 ∨ (arrV _ _ _).slots.size ≤ _); rw [arrV_size]; exact k0.1.2) rfl rfl (m_dec hi nofun rfl) fun H1 e1 z oq => ?_
    refine kk H1 _ rl (m_pic_I0 hpic (m_up_off (fun q => ha q.symm)) (hpic.1.set m_w_D he (e := m_ce base ids (lay a) ((m_up I a i.toNatClampNeg (vp_nar .char x)) a) ((F) a) (R a)) ?_ oq) (m_w_arr ha han (fun x h => m_up_off h) (fun _ _ => rfl) (fun _ _ => rfl) rfl) z) (hva.put z oq (m_w_D.2 _ _ he)) hlr
    rw [m_ce_3 k0.1.1]
    show H1[_]? = some (vp_cell _ _)
    rw [e1, vp_cell_i, vp_cell_i, arrV_store]
    congr 2
    funext q
    by_cases hq : q = i.toNatClampNeg
    · subst hq
      simp [updV, m_up, vp_nar]
      try rfl
    · simp [updV, m_up, hq]
  · exact False.elim k0
theorem y_aastore (h0 : (lay 0).1 = 0) (hi : m_cd μ pc = .aastore) (k0 : m_do (m_X l base b L xs ids D lay) d μ ls I F R n Q (m_step lay d μ .aastore pc ls st I F R n)) : m_X l base b L xs ids D lay d μ pc ls st I F R n Q := by
  simp only [m_step] at k0
  split at k0
  · rename_i v i a r
    refine m_same (fun h => ⟨h.1, fun x hx => h.2.1 x (List.mem_cons_of_mem _ (List.mem_cons_of_mem _ (List.mem_cons_of_mem _ hx))), fun x y => ?_⟩) ?_ k0.2
    · unfold m_up
      split
      · exact h.2.1 v List.mem_cons_self
      · exact h.2.2 x y
    intro hw p e R0 s m args below meth c Qr H locs cells slots rl hcx hpic hva hlr hc hs hd hloc kk
    obtain ⟨hx, hb, hr, hml, hown, hts, hlk, hini, hkx, hm⟩ := hcx
    have han : a < n := hw.2.1 a (List.mem_cons_of_mem _ (List.mem_cons_of_mem _ List.mem_cons_self))
    have hvn : v < n := hw.2.1 v List.mem_cons_self
    obtain ⟨k1, k2, k3⟩ := k0.1
    have ha := m_row_of (by decide) h0 k1.1
    have he := m_w_row (base := base) (b := b) (ids := ids) (lay := lay) (I := I) (F := F) (R := R) ha han
    rw [m_ce_4 k1.1] at he
    have hcell := hpic.1 _ _ he
    obtain ⟨-, hev⟩ := m_w_obj (base := base) (b := b) (ids := ids) (I := I) (F := F) (R := R) (ci := 6) h0 k3 hvn
    have hc6 : vwCl[6]? = some ((m_c 6).1, (m_c 6).2.1, (m_c 6).2.2.1) := m_vw_at (by decide)
    have hlt : i.toNatClampNeg < (lay a).2 := Nat.not_le.mp fun q => k1.2 (Or.inr q)
    have hi0 : ¬ i < 0 := fun q => k1.2 (Or.inl q)
    obtain ⟨r', hr', cellV, g1, g2, g3, -⟩ := hpic.1 _ _ hev
    have hcls := (hkx.1.1 6 _ hc6).2
    obtain ⟨kA, comp, q1, q2, q3, -⟩ := (hkx.1.2 4 _ rfl).2
    have hcomp : comp = D.1 6 := Option.some.inj (q3.symm.trans hcls.1)
    subst hcomp
    obtain ⟨kC, hkC, -⟩ := hcls.2
    refine W.aast hx hb hcell (fun q h => by cases h) (fun h => by cases h) q1 q2 rfl hkC ⟨hi0, by show _ < (arrV _ _ _).slots.size; rw [arrV_size]; exact hlt⟩ g1 (fun q h => by rw [g3] at h; cases h) (by rw [g2]; exact hkC) (by rw [g2]; exact va_assign hcls) rfl rfl (m_dec hi nofun rfl) fun H1 e1 z oq => ?_
    refine kk H1 _ rl (m_pic_I0 hpic rfl (hpic.1.set m_w_D he (e := m_ce base ids (lay a) (I a) (F a) ((m_up R a i.toNatClampNeg v) a)) ?_ oq) (m_w_arr ha han (fun _ _ => rfl) (fun _ _ => rfl) (fun x h => m_up_off h) rfl) z) (hva.put z oq (m_w_D.2 _ _ he)) hlr
    rw [m_ce_4 k1.1]
    show H1[_]? = some (vp_cell _ _)
    rw [e1, vp_cell_q, vp_cell_q, arrV_store]
    congr 2
    funext q
    by_cases hq : q = i.toNatClampNeg
    · subst hq
      rw [m_up_at]
      cases v with
      | zero => exact absurd rfl k2
      | succ v => simp [updV, m_ro, va_rf, m_k]
    · simp [updV, m_up, hq]
  · exact False.elim k0
theorem y_arraylength (h0 : lay 0 = (0, L)) (hi : m_cd μ pc = .arraylength) (k0 : m_do (m_X l base b L xs ids D lay) d μ ls I F R n Q (m_step lay d μ .arraylength pc ls st I F R n)) : m_X l base b L xs ids D lay d μ pc ls st I F R n Q := by
  simp only [m_step] at k0
  split at k0
  · rename_i a r
    refine m_same (fun h => ⟨h.1, fun x hx => by
      rcases List.mem_cons.mp hx with hx | hx
      · cases hx
      · exact h.2.1 x (List.mem_cons_of_mem _ hx), h.2.2⟩) ?_ k0.2
    intro hw p e R0 s m args below meth c Qr H locs cells slots rl hcx hpic hva hlr hc hs hd hloc kk
    obtain ⟨hx, hb, hr, hml, hown, hts, hlk, hini, hkx, hm⟩ := hcx
    have han : a < n := hw.2.1 a List.mem_cons_self
    have k1 := kk H locs rl hpic hva hlr
    by_cases ha : a = 0
    · subst ha
      rw [h0] at k1
      exact va_slen hx hb hkx.2.2.2.1 (Nat.lt_of_le_of_lt hkx.2.2.2.2.2 hkx.2.2.2.2.1) (Nat.not_lt.mpr hkx.2.2.2.2.2) hva (m_dec hi nofun rfl) k1
    · have he := m_w_row (base := base) (b := b) (ids := ids) (lay := lay) (I := I) (F := F) (R := R) ha han
      have hk := k0.1
      have hcase : (lay a).1 = 0 ∨ (lay a).1 = 1 ∨ (lay a).1 = 2 ∨ (lay a).1 = 3 ∨ (lay a).1 = 4 := by omega
      rcases hcase with h | h | h | h | h
      · rw [m_ce_0 h] at he
        exact va_alen hx hb hkx.1 hpic.1 (a - 1) 0 he (ty := .int) rfl rfl (m_dec hi nofun rfl) k1
      · rw [m_ce_1 h] at he
        exact va_alen hx hb hkx.1 hpic.1 (a - 1) 1 he (ty := .float) rfl rfl (m_dec hi nofun rfl) k1
      · rw [m_ce_2 h] at he
        exact va_alen hx hb hkx.1 hpic.1 (a - 1) 2 he (ty := .boolean) rfl rfl (m_dec hi nofun rfl) k1
      · rw [m_ce_3 h] at he
        exact va_alen hx hb hkx.1 hpic.1 (a - 1) 3 he (ty := .char) rfl rfl (m_dec hi nofun rfl) k1
      · rw [m_ce_4 h] at he
        exact va_alen hx hb hkx.1 hpic.1 (a - 1) 4 he (ty := .object "ShelfSlots$Shed") rfl rfl (m_dec hi nofun rfl) k1
  · exact False.elim k0
end YO
