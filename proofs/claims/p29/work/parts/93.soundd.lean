section YN
variable {l : Launch} {base b L : Nat} {xs : Nat → Int32} {ids : m_ID} {D : va_G} {lay : mL} {d μ pc n : Nat} {ls st : List Value} {I : mI} {F : mF} {R : mR} {Q : mP}
theorem m_push_pic {I' : mI} {F' : mF} {R' : mR} {H H1 : Heap} (hpic : m_pic base ids D lay L xs I F R n H) (z1 : H1.size = base + n + 1) (o1 : ∀ q : Nat, q < base + n → H1[q]? = H[q]?) (hI : ∀ x, x ≠ n → I' x = I x) (hF : ∀ x, x ≠ n → F' x = F x) (hR : ∀ x, x ≠ n → R' x = R x)
    (he : va_at D vwCl (base + n, m_ce base ids (lay n) (I' n) (F' n) (R' n)) H1) : m_pic base ids D lay L xs I' F' R' (n + 1) H1 := by
  obtain ⟨h1, h2, h3, h4⟩ := hpic
  refine ⟨?_, by omega, by omega, fun j hj => by rw [hI 0 (by omega)]; exact h4 j hj⟩
  rw [m_w_push h3 hI hF hR]
  refine va_P.app (h1.kept fun k q hk => ?_) (fun k q hk => ?_)
  · exact o1 _ (by rw [← h2]; exact (h1 k q hk).lt)
  · have hz : k < 1 := (List.getElem?_eq_some_iff.mp hk).1
    rw [show k = 0 by omega] at hk
    cases hk
    exact he
theorem m_push_S {s : State} {H H1 : Heap} {locs : List Loc} (hva : va_S (m_A base) s.heap H locs) {N : Nat} (hH : H.size = N) (z1 : H1.size = N + 1) (o1 : ∀ q : Nat, q < N → H1[q]? = H[q]?) : va_S (m_A base) s.heap H1 locs :=
  ⟨Nat.le_trans hva.1 (by omega), fun q h1 h2 => (o1 q (by have := hva.1; omega)).trans (hva.2.1 q h1 h2), hva.2.2⟩
theorem m_wf_new {c : Int32} {I0 : Nat} {r : List Value} (h : m_wf ls (.int c :: r) R n) (hI0 : I0 = n) : m_wf ls (.ref I0 :: r) R (n + 1) := ⟨fun a ha => Nat.lt_succ_of_lt (h.1 a ha), fun a ha => by
  rcases List.mem_cons.mp ha with ha | ha
  · have e : a = I0 := by injection ha
    rw [e, hI0]
    exact Nat.lt_succ_self n
  · exact Nat.lt_succ_of_lt (h.2.1 a (List.mem_cons_of_mem _ ha)), fun a k => Nat.lt_succ_of_lt (h.2.2 a k)⟩
theorem m_row_lt {N : Nat} (h : ∀ a k, R a k < N) (hN : 0 < N) {x : Nat} : ∀ a k, m_row R x (fun _ => 0) a k < N := fun a k => by
  unfold m_row
  split
  · exact hN
  · exact h a k
theorem y_newarray {t : ArrayType} (hi : m_cd μ pc = .newarray t) (k0 : m_do (m_X l base b L xs ids D lay) d μ ls I F R n Q (m_step lay d μ (.newarray t) pc ls st I F R n)) : m_X l base b L xs ids D lay d μ pc ls st I F R n Q := by
  simp only [m_step] at k0
  split at k0
  · rename_i c r
    split at k0
    · obtain ⟨⟨c0, c1, c2⟩, k1⟩ := k0
      refine m_trans (n1 := n + 1) (Nat.le_succ n) (fun h => m_wf_new h rfl) ?_ k1
      intro hw p e R0 s m args below meth cd Qr H locs cells slots rl hcx hpic hva hlr hc hs hd hloc kk
      obtain ⟨hx, hb, hr, hml, hown, hts, hlk, hini, hkx, hm⟩ := hcx
      have esz : m_sz lay (n + 1) - m_sz lay n = c.toNatClampNeg := by
        show m_sz lay n + m_cz (lay n) - m_sz lay n = _
        rw [c2, Nat.add_sub_cancel_left]
        rfl
      rw [esz] at hs kk
      rw [Nat.add_sub_cancel_left] at hc kk
      refine va_newaK (atype := .int) hx hb (hts _ m_arr_int) rfl (m_dec hi nofun rfl) rfl c0 rfl (by show _ * 4 ≤ _; omega) hc hs hpic.2.1 (fun H1 cA e1 z1 o1 hAr hNm => ?_)
      have hcA : cA = ids.1 := Option.some.inj (hNm.symm.trans (hkx.1.2 0 _ rfl).2)
      subst hcA
      have k2 := kk H1 locs rl (m_push_pic hpic z1 o1 (fun x h => m_row_off h) (fun _ _ => rfl) (fun _ _ => rfl) ?_) (m_push_S hva hpic.2.1 z1 o1) hlr
      · have hn0 : n ≠ 0 := by have := hpic.2.2.1; omega
        have e0 : m_cs base b (.ref n :: r) = .ref (base + n) :: m_cs base b r := by
          show Value.ref (m_k base b n) :: _ = _
          rw [m_k_pos hn0]
          rfl
        rw [e0] at k2
        exact k2
      · rw [m_ce_0 (by rw [c2]), m_row_at, c2]
        show H1[_]? = some (vp_cell _ _)
        rw [vp_cell_i]
        exact e1
    · obtain ⟨⟨c0, c1, c2⟩, k1⟩ := k0
      refine m_trans (n1 := n + 1) (Nat.le_succ n) (fun h => m_wf_new h rfl) ?_ k1
      intro hw p e R0 s m args below meth cd Qr H locs cells slots rl hcx hpic hva hlr hc hs hd hloc kk
      obtain ⟨hx, hb, hr, hml, hown, hts, hlk, hini, hkx, hm⟩ := hcx
      have esz : m_sz lay (n + 1) - m_sz lay n = c.toNatClampNeg := by
        show m_sz lay n + m_cz (lay n) - m_sz lay n = _
        rw [c2, Nat.add_sub_cancel_left]
        rfl
      rw [esz] at hs kk
      rw [Nat.add_sub_cancel_left] at hc kk
      refine va_newaK (atype := .float) hx hb (hts _ m_arr_float) rfl (m_dec hi nofun rfl) rfl c0 rfl (by show _ * 4 ≤ _; omega) hc hs hpic.2.1 (fun H1 cA e1 z1 o1 hAr hNm => ?_)
      have hcA : cA = ids.2.1 := Option.some.inj (hNm.symm.trans (hkx.1.2 1 _ rfl).2)
      subst hcA
      have k2 := kk H1 locs rl (m_push_pic hpic z1 o1 (fun _ _ => rfl) (fun x h => m_row_off h) (fun _ _ => rfl) ?_) (m_push_S hva hpic.2.1 z1 o1) hlr
      · have hn0 : n ≠ 0 := by have := hpic.2.2.1; omega
        have e0 : m_cs base b (.ref n :: r) = .ref (base + n) :: m_cs base b r := by
          show Value.ref (m_k base b n) :: _ = _
          rw [m_k_pos hn0]
          rfl
        rw [e0] at k2
        exact k2
      · rw [m_ce_1 (by rw [c2]), m_row_at, c2]
        show H1[_]? = some (vp_cell _ _)
        rw [vp_cell_f]
        exact e1
    · obtain ⟨⟨c0, c1, c2⟩, k1⟩ := k0
      refine m_trans (n1 := n + 1) (Nat.le_succ n) (fun h => m_wf_new h rfl) ?_ k1
      intro hw p e R0 s m args below meth cd Qr H locs cells slots rl hcx hpic hva hlr hc hs hd hloc kk
      obtain ⟨hx, hb, hr, hml, hown, hts, hlk, hini, hkx, hm⟩ := hcx
      have esz : m_sz lay (n + 1) - m_sz lay n = c.toNatClampNeg := by
        show m_sz lay n + m_cz (lay n) - m_sz lay n = _
        rw [c2, Nat.add_sub_cancel_left]
        rfl
      rw [esz] at hs kk
      rw [Nat.add_sub_cancel_left] at hc kk
      refine va_newaK (atype := .boolean) hx hb (hts _ m_arr_boolean) rfl (m_dec hi nofun rfl) rfl c0 rfl (by show _ * 1 ≤ _; omega) hc hs hpic.2.1 (fun H1 cA e1 z1 o1 hAr hNm => ?_)
      have hcA : cA = ids.2.2.1 := Option.some.inj (hNm.symm.trans (hkx.1.2 2 _ rfl).2)
      subst hcA
      have k2 := kk H1 locs rl (m_push_pic hpic z1 o1 (fun x h => m_row_off h) (fun _ _ => rfl) (fun _ _ => rfl) ?_) (m_push_S hva hpic.2.1 z1 o1) hlr
      · have hn0 : n ≠ 0 := by have := hpic.2.2.1; omega
        have e0 : m_cs base b (.ref n :: r) = .ref (base + n) :: m_cs base b r := by
          show Value.ref (m_k base b n) :: _ = _
          rw [m_k_pos hn0]
          rfl
        rw [e0] at k2
        exact k2
      · rw [m_ce_2 (by rw [c2]), m_row_at, c2]
        show H1[_]? = some (vp_cell _ _)
        rw [vp_cell_i]
        exact e1
    · obtain ⟨⟨c0, c1, c2⟩, k1⟩ := k0
      refine m_trans (n1 := n + 1) (Nat.le_succ n) (fun h => m_wf_new h rfl) ?_ k1
      intro hw p e R0 s m args below meth cd Qr H locs cells slots rl hcx hpic hva hlr hc hs hd hloc kk
      obtain ⟨hx, hb, hr, hml, hown, hts, hlk, hini, hkx, hm⟩ := hcx
      have esz : m_sz lay (n + 1) - m_sz lay n = c.toNatClampNeg := by
        show m_sz lay n + m_cz (lay n) - m_sz lay n = _
        rw [c2, Nat.add_sub_cancel_left]
        rfl
      rw [esz] at hs kk
      rw [Nat.add_sub_cancel_left] at hc kk
      refine va_newaK (atype := .char) hx hb (hts _ m_arr_char) rfl (m_dec hi nofun rfl) rfl c0 rfl (by show _ * 2 ≤ _; omega) hc hs hpic.2.1 (fun H1 cA e1 z1 o1 hAr hNm => ?_)
      have hcA : cA = ids.2.2.2.1 := Option.some.inj (hNm.symm.trans (hkx.1.2 3 _ rfl).2)
      subst hcA
      have k2 := kk H1 locs rl (m_push_pic hpic z1 o1 (fun x h => m_row_off h) (fun _ _ => rfl) (fun _ _ => rfl) ?_) (m_push_S hva hpic.2.1 z1 o1) hlr
      · have hn0 : n ≠ 0 := by have := hpic.2.2.1; omega
        have e0 : m_cs base b (.ref n :: r) = .ref (base + n) :: m_cs base b r := by
          show Value.ref (m_k base b n) :: _ = _
          rw [m_k_pos hn0]
          rfl
        rw [e0] at k2
        exact k2
      · rw [m_ce_3 (by rw [c2]), m_row_at, c2]
        show H1[_]? = some (vp_cell _ _)
        rw [vp_cell_i]
        exact e1
    · exact False.elim k0
  · exact False.elim k0
theorem y_anewarray {ix : Nat} (hi : m_cd μ pc = .anewarray ix) (k0 : m_do (m_X l base b L xs ids D lay) d μ ls I F R n Q (m_step lay d μ (.anewarray ix) pc ls st I F R n)) : m_X l base b L xs ids D lay d μ pc ls st I F R n Q := by
  simp only [m_step] at k0
  split at k0
  · rename_i c r
    split at k0
    · rename_i i he
      obtain ⟨g1, g2, g3, g4⟩ : m_cnP (m_own (m_ox μ)) (i, 6) := m_cn_all _ _ (List.mem_of_find?_eq_some he)
      have hix : i = ix := by simpa using List.find?_some he
      subst hix
      obtain ⟨⟨c0, c1, c2⟩, k1⟩ := k0
      refine m_trans (n1 := n + 1) (Nat.le_succ n) (fun h => ⟨(m_wf_new h rfl).1, (m_wf_new h rfl).2.1, m_row_lt (m_wf_new h rfl).2.2 (by omega)⟩) ?_ k1
      intro hw p e R0 s m args below meth cd Qr H locs cells slots rl hcx hpic hva hlr hc hs hd hloc kk
      obtain ⟨hx, hb, hr, hml, hown, hts, hlk, hini, hkx, hm⟩ := hcx
      have esz : m_sz lay (n + 1) - m_sz lay n = c.toNatClampNeg := by
        show m_sz lay n + m_cz (lay n) - m_sz lay n = _
        rw [c2, Nat.add_sub_cancel_left]
        rfl
      rw [esz] at hs kk
      rw [Nat.add_sub_cancel_left] at hc kk
      refine W.anew hx hb (m_own_of hm hown) (hts _ g2) (va_AO.use hkx.2.2.1) rfl (m_dec hi nofun rfl) rfl c0 (by omega) hc hs (fun cA kA comp f1 f2 f3 f4 => ?_)
      generalize hH1 : H.push ({ cls := cA, slots := Array.replicate c.toNatClampNeg .null, vm := .none } : Cell) = H1
      have z1 : H1.size = base + n + 1 := by rw [← hH1, Array.size_push, hpic.2.1]
      have e1 : H1[base + n]? = some (arrV cA c.toNatClampNeg (fun _ => .null)) := by rw [← hH1, ← hpic.2.1, Array.getElem?_push_size, ← arrV_new]
      have o1 : ∀ q : Nat, q < base + n → H1[q]? = H[q]? := fun q hq => by rw [← hH1, Array.getElem?_push, if_neg (by rw [hpic.2.1]; exact Nat.ne_of_lt hq)]
      obtain ⟨kA2, comp2, j1, j2, j3, j4⟩ := (hkx.1.2 4 _ rfl).2
      have hcA : cA = ids.2.2.2.2 := Option.some.inj (f1.symm.trans j4)
      subst hcA
      have k2 := kk H1 locs rl (m_push_pic hpic z1 o1 (fun _ _ => rfl) (fun _ _ => rfl) (fun x h => m_row_off h) ?_) (m_push_S hva hpic.2.1 z1 o1) hlr
      · rw [hpic.2.1]
        have hn0 : n ≠ 0 := by have := hpic.2.2.1; omega
        have e0 : m_cs base b (.ref n :: r) = .ref (base + n) :: m_cs base b r := by
          show Value.ref (m_k base b n) :: _ = _
          rw [m_k_pos hn0]
          rfl
        rw [e0] at k2
        exact k2
      · rw [m_ce_4 (by rw [c2]), m_row_at, c2]
        show H1[_]? = some (vp_cell _ _)
        rw [vp_cell_q]
        exact e1
    · exact False.elim k0
  · exact False.elim k0
theorem m_tyc_all : (List.range m_cl.length).all (fun ci => (List.range (m_c ci).2.2.1).all (fun k => decide (m_tyc ((m_c ci).2.2.2 k) ≤ 3))) = true := by decide +kernel
theorem m_dflt {t : FieldType} (h : m_tyc t ≤ 3) : defaultValue t = m_fc base (m_tyc t) 0 0 := by cases t <;> first | rfl | (exact absurd h (by decide))
theorem y_new {ix : Nat} (hi : m_cd μ pc = .new ix) (k0 : m_do (m_X l base b L xs ids D lay) d μ ls I F R n Q (m_step lay d μ (.new ix) pc ls st I F R n)) : m_X l base b L xs ids D lay d μ pc ls st I F R n Q := by
  simp only [m_step] at k0
  split at k0
  · rename_i i ci he
    obtain ⟨g1, g2, g3, g4⟩ : m_cnP (m_own (m_ox μ)) (i, ci) := m_cn_all _ _ (List.mem_of_find?_eq_some he)
    have hix : i = ix := by simpa using List.find?_some he
    subst hix
    obtain ⟨c2, k1⟩ := k0
    refine m_trans (n1 := n + 1) (Nat.le_succ n) (fun h => ⟨fun a ha => Nat.lt_succ_of_lt (h.1 a ha), fun a ha => ?_, m_row_lt (fun a k => Nat.lt_succ_of_lt (h.2.2 a k)) (by omega)⟩) ?_ k1
    · rcases List.mem_cons.mp ha with ha | ha
      · have e : a = n := by injection ha
        rw [e]
        exact Nat.lt_succ_self n
      · exact Nat.lt_succ_of_lt (h.2.1 a ha)
    intro hw p e R0 s m args below meth cd Qr H locs cells slots rl hcx hpic hva hlr hc hs hd hloc kk
    obtain ⟨hx, hb, hr, hml, hown, hts, hlk, hini, hkx, hm⟩ := hcx
    have esz : m_sz lay (n + 1) - m_sz lay n = (m_c ci).2.2.1 := by
      show m_sz lay n + m_cz (lay n) - m_sz lay n = _
      rw [c2, Nat.add_sub_cancel_left, m_cz_o]
    rw [esz] at hs kk
    rw [Nat.add_sub_cancel_left] at hc kk
    have hcv := m_vw_at g1
    have hKn := hkx.1.1 ci _ hcv
    refine W.newcK hx hb (m_own_of hm hown) (hts _ g2) (hts _ g3) (hts _ g4) rfl (m_dec hi nofun rfl) hc hs hKn.2.1 hpic.2.1 (fun H1 kC hkC e1 z1 o1 => ?_)
    obtain ⟨hin, hty, hnm⟩ := m_c_ok g1
    have k2 := kk H1 locs rl (m_push_pic hpic z1 o1 (fun x h => m_row_off h) (fun _ _ => rfl) (fun x h => m_row_off h) ?_) (m_push_S hva hpic.2.1 z1 o1) hlr
    · have hn0 : n ≠ 0 := by have := hpic.2.2.1; omega
      have e0 : m_cs base b (.ref n :: st) = .ref (base + n) :: m_cs base b st := by
        show Value.ref (m_k base b n) :: _ = _
        rw [m_k_pos hn0]
        rfl
      rw [e0] at k2
      exact k2
    · rw [c2, m_ce_o, m_row_at, m_row_at]
      refine ⟨_, hcv, (u_born (m_c ci).2.2.2 hts hin hKn hkC e1 hty).to (fun j hj => ?_)⟩
      have ht : m_tyc ((m_c ci).2.2.2 j) ≤ 3 := of_decide_eq_true (List.all_eq_true.mp (List.all_eq_true.mp m_tyc_all ci (List.mem_range.mpr g1)) j (List.mem_range.mpr hj))
      rw [m_dflt (base := base) ht]
      simp [vp_V, List.getD_eq_getElem?_getD, List.getElem?_map, List.getElem?_range hj]
  · exact False.elim k0
end YN
