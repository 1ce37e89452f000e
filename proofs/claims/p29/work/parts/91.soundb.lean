section YS
variable {l : Launch} {base b L : Nat} {xs : Nat → Int32} {ids : m_ID} {D : va_G} {lay : mL} {d μ pc n : Nat} {ls st : List Value} {I : mI} {F : mF} {R : mR} {Q : mP}
theorem m_kil_ref {i a : Nat} (h : Value.ref a ∈ m_kil ls i) : Value.ref a ∈ ls := by
  obtain ⟨j, hj⟩ := List.getElem?_of_mem h
  exact List.mem_of_getElem? (m_kil_get hj nofun).1
theorem m_s1_ref {i a : Nat} {v : Value} (h : Value.ref a ∈ m_s1 ls i v) : Value.ref a ∈ ls ∨ Value.ref a = v := by
  rcases List.mem_or_eq_of_mem_set h with h | h
  · exact Or.inl (m_kil_ref h)
  · exact Or.inr h
theorem m_s2_ref {i a : Nat} {v : Value} (h : Value.ref a ∈ m_s2 ls i v) : Value.ref a ∈ ls ∨ Value.ref a = v := by
  rcases List.mem_or_eq_of_mem_set h with h | h
  · exact m_s1_ref h
  · cases h
theorem m_wf_s1 {i : Nat} {v : Value} {r : List Value} (h : m_wf ls (v :: r) R n) : m_wf (m_s1 ls i v) r R n :=
  ⟨fun a ha => (m_s1_ref ha).elim (h.1 a) (fun e => h.2.1 a (by rw [e]; exact List.mem_cons_self)), fun a ha => h.2.1 a (List.mem_cons_of_mem _ ha), h.2.2⟩
theorem m_wf_s2 {i : Nat} {v : Value} {r : List Value} (h : m_wf ls (v :: r) R n) : m_wf (m_s2 ls i v) r R n :=
  ⟨fun a ha => (m_s2_ref ha).elim (h.1 a) (fun e => h.2.1 a (by rw [e]; exact List.mem_cons_self)), fun a ha => h.2.1 a (List.mem_cons_of_mem _ ha), h.2.2⟩
theorem y_istore_n {k : Fin 4} (hi : m_cd μ pc = .istore_n k) (k0 : m_do (m_X l base b L xs ids D lay) d μ ls I F R n Q (m_step lay d μ (.istore_n k) pc ls st I F R n)) : m_X l base b L xs ids D lay d μ pc ls st I F R n Q := by
  simp only [m_step] at k0
  split at k0
  · refine m_same m_wf_s1 ?_ k0.2
    intro _ p e R0 s m args below meth c Qr H locs cells slots rl hcx hpic hva hlr hc hs hd hloc kk
    refine lv_istore_n hcx.1 hcx.2.1 (m_dec hi nofun rfl) rfl hlr.1 (by rw [← hlr.2]; exact k0.1) rfl (fun rl' h' => ?_)
    exact kk H locs rl' hpic hva (m_lr_s1 hlr k0.1 h')
  · exact False.elim k0
theorem y_istore {k : Nat} (hi : m_cd μ pc = .istore k) (k0 : m_do (m_X l base b L xs ids D lay) d μ ls I F R n Q (m_step lay d μ (.istore k) pc ls st I F R n)) : m_X l base b L xs ids D lay d μ pc ls st I F R n Q := by
  simp only [m_step] at k0
  split at k0
  · refine m_same m_wf_s1 ?_ k0.2
    intro _ p e R0 s m args below meth c Qr H locs cells slots rl hcx hpic hva hlr hc hs hd hloc kk
    refine lv_istore hcx.1 hcx.2.1 (m_dec hi nofun rfl) hlr.1 (by rw [← hlr.2]; exact k0.1) rfl (fun rl' h' => ?_)
    exact kk H locs rl' hpic hva (m_lr_s1 hlr k0.1 h')
  · exact False.elim k0
theorem y_fstore_n {k : Fin 4} (hi : m_cd μ pc = .fstore_n k) (k0 : m_do (m_X l base b L xs ids D lay) d μ ls I F R n Q (m_step lay d μ (.fstore_n k) pc ls st I F R n)) : m_X l base b L xs ids D lay d μ pc ls st I F R n Q := by
  simp only [m_step] at k0
  split at k0
  · refine m_same m_wf_s1 ?_ k0.2
    intro _ p e R0 s m args below meth c Qr H locs cells slots rl hcx hpic hva hlr hc hs hd hloc kk
    refine lv_fstore_n hcx.1 hcx.2.1 (m_dec hi nofun rfl) rfl hlr.1 (by rw [← hlr.2]; exact k0.1) rfl (fun rl' h' => ?_)
    exact kk H locs rl' hpic hva (m_lr_s1 hlr k0.1 h')
  · exact False.elim k0
theorem y_fstore {k : Nat} (hi : m_cd μ pc = .fstore k) (k0 : m_do (m_X l base b L xs ids D lay) d μ ls I F R n Q (m_step lay d μ (.fstore k) pc ls st I F R n)) : m_X l base b L xs ids D lay d μ pc ls st I F R n Q := by
  simp only [m_step] at k0
  split at k0
  · refine m_same m_wf_s1 ?_ k0.2
    intro _ p e R0 s m args below meth c Qr H locs cells slots rl hcx hpic hva hlr hc hs hd hloc kk
    refine lv_fstore hcx.1 hcx.2.1 (m_dec hi nofun rfl) hlr.1 (by rw [← hlr.2]; exact k0.1) rfl (fun rl' h' => ?_)
    exact kk H locs rl' hpic hva (m_lr_s1 hlr k0.1 h')
  · exact False.elim k0
theorem y_lstore_n {k : Fin 4} (hi : m_cd μ pc = .lstore_n k) (k0 : m_do (m_X l base b L xs ids D lay) d μ ls I F R n Q (m_step lay d μ (.lstore_n k) pc ls st I F R n)) : m_X l base b L xs ids D lay d μ pc ls st I F R n Q := by
  simp only [m_step] at k0
  split at k0
  · refine m_same m_wf_s2 ?_ k0.2
    intro _ p e R0 s m args below meth c Qr H locs cells slots rl hcx hpic hva hlr hc hs hd hloc kk
    refine lv_lstore_n hcx.1 hcx.2.1 (m_dec hi nofun rfl) rfl hlr.1 (by rw [← hlr.2]; exact k0.1) rfl (fun rl' h' => ?_)
    exact kk H locs rl' hpic hva (m_lr_s2 hlr k0.1 h')
  · exact False.elim k0
theorem y_lstore {k : Nat} (hi : m_cd μ pc = .lstore k) (k0 : m_do (m_X l base b L xs ids D lay) d μ ls I F R n Q (m_step lay d μ (.lstore k) pc ls st I F R n)) : m_X l base b L xs ids D lay d μ pc ls st I F R n Q := by
  simp only [m_step] at k0
  split at k0
  · refine m_same m_wf_s2 ?_ k0.2
    intro _ p e R0 s m args below meth c Qr H locs cells slots rl hcx hpic hva hlr hc hs hd hloc kk
    refine lv_lstore hcx.1 hcx.2.1 (m_dec hi nofun rfl) hlr.1 (by rw [← hlr.2]; exact k0.1) rfl (fun rl' h' => ?_)
    exact kk H locs rl' hpic hva (m_lr_s2 hlr k0.1 h')
  · exact False.elim k0
theorem y_dstore_n {k : Fin 4} (hi : m_cd μ pc = .dstore_n k) (k0 : m_do (m_X l base b L xs ids D lay) d μ ls I F R n Q (m_step lay d μ (.dstore_n k) pc ls st I F R n)) : m_X l base b L xs ids D lay d μ pc ls st I F R n Q := by
  simp only [m_step] at k0
  split at k0
  · refine m_same m_wf_s2 ?_ k0.2
    intro _ p e R0 s m args below meth c Qr H locs cells slots rl hcx hpic hva hlr hc hs hd hloc kk
    refine lv_dstore_n hcx.1 hcx.2.1 (m_dec hi nofun rfl) rfl hlr.1 (by rw [← hlr.2]; exact k0.1) rfl (fun rl' h' => ?_)
    exact kk H locs rl' hpic hva (m_lr_s2 hlr k0.1 h')
  · exact False.elim k0
theorem y_dstore {k : Nat} (hi : m_cd μ pc = .dstore k) (k0 : m_do (m_X l base b L xs ids D lay) d μ ls I F R n Q (m_step lay d μ (.dstore k) pc ls st I F R n)) : m_X l base b L xs ids D lay d μ pc ls st I F R n Q := by
  simp only [m_step] at k0
  split at k0
  · refine m_same m_wf_s2 ?_ k0.2
    intro _ p e R0 s m args below meth c Qr H locs cells slots rl hcx hpic hva hlr hc hs hd hloc kk
    refine lv_dstore hcx.1 hcx.2.1 (m_dec hi nofun rfl) hlr.1 (by rw [← hlr.2]; exact k0.1) rfl (fun rl' h' => ?_)
    exact kk H locs rl' hpic hva (m_lr_s2 hlr k0.1 h')
  · exact False.elim k0
theorem y_astore_n {k : Fin 4} (hi : m_cd μ pc = .astore_n k) (k0 : m_do (m_X l base b L xs ids D lay) d μ ls I F R n Q (m_step lay d μ (.astore_n k) pc ls st I F R n)) : m_X l base b L xs ids D lay d μ pc ls st I F R n Q := by
  simp only [m_step] at k0
  split at k0
  · refine m_same m_wf_s1 ?_ k0.2
    intro _ p e R0 s m args below meth c Qr H locs cells slots rl hcx hpic hva hlr hc hs hd hloc kk
    refine lv_astore_n hcx.1 hcx.2.1 (m_dec hi nofun rfl) rfl hlr.1 (by rw [← hlr.2]; exact k0.1) rfl (fun rl' h' => ?_)
    exact kk H locs rl' hpic hva (m_lr_s1 hlr k0.1 h')
  · refine m_same m_wf_s1 ?_ k0.2
    intro _ p e R0 s m args below meth c Qr H locs cells slots rl hcx hpic hva hlr hc hs hd hloc kk
    refine lv_astore_nN hcx.1 hcx.2.1 (m_dec hi nofun rfl) rfl hlr.1 (by rw [← hlr.2]; exact k0.1) rfl (fun rl' h' => ?_)
    exact kk H locs rl' hpic hva (m_lr_s1 hlr k0.1 h')
  · exact False.elim k0
theorem y_astore {k : Nat} (hi : m_cd μ pc = .astore k) (k0 : m_do (m_X l base b L xs ids D lay) d μ ls I F R n Q (m_step lay d μ (.astore k) pc ls st I F R n)) : m_X l base b L xs ids D lay d μ pc ls st I F R n Q := by
  simp only [m_step] at k0
  split at k0
  · refine m_same m_wf_s1 ?_ k0.2
    intro _ p e R0 s m args below meth c Qr H locs cells slots rl hcx hpic hva hlr hc hs hd hloc kk
    refine lv_astore hcx.1 hcx.2.1 (m_dec hi nofun rfl) hlr.1 (by rw [← hlr.2]; exact k0.1) rfl (fun rl' h' => ?_)
    exact kk H locs rl' hpic hva (m_lr_s1 hlr k0.1 h')
  · refine m_same m_wf_s1 ?_ k0.2
    intro _ p e R0 s m args below meth c Qr H locs cells slots rl hcx hpic hva hlr hc hs hd hloc kk
    refine lv_astoreN hcx.1 hcx.2.1 (m_dec hi nofun rfl) hlr.1 (by rw [← hlr.2]; exact k0.1) rfl (fun rl' h' => ?_)
    exact kk H locs rl' hpic hva (m_lr_s1 hlr k0.1 h')
  · exact False.elim k0
theorem y_iinc {i : Nat} {k0 : Int} (hi : m_cd μ pc = .iinc i k0) (k : m_do (m_X l base b L xs ids D lay) d μ ls I F R n Q (m_step lay d μ (.iinc i k0) pc ls st I F R n)) : m_X l base b L xs ids D lay d μ pc ls st I F R n Q := by
  simp only [m_step] at k
  split at k
  · rename_i x hx0
    refine m_same (fun h => ⟨fun a ha => (m_s1_ref ha).elim (h.1 a) (fun e => by cases e), h.2⟩) ?_ k.2
    intro _ p e R0 s m args below meth c Qr H locs cells slots rl hcx hpic hva hlr hc hs hd hloc kk
    obtain ⟨kx, hkx⟩ := m_lr_mem (base := base) (b := b) hx0 nofun
    have hl : i < ls.length := (List.getElem?_eq_some_iff.mp hx0).1
    refine lv_iinc hcx.1 hcx.2.1 (m_dec hi nofun rfl) hlr.1 hkx rfl (by rw [← hlr.2]; exact hl) rfl (fun rl' h' => ?_)
    exact kk H locs rl' hpic hva (m_lr_s1 hlr hl h')
  · exact False.elim k
theorem m_ret {v : Option Value} (hv : ∀ a, v ≠ some (.ref a)) (he : m_end μ pc v) (hs : m_cs base b st = v.toList) (hq : Q v I F R n) : m_X l base b L xs ids D lay d μ pc ls st I F R n Q := by
  intro hw
  refine ⟨v, I, F, R, n, hq, Nat.le_refl _, hw.2.2, hv, ?_⟩
  intro p e R0 s m args below meth c Qr H locs cells slots rl hcx hpic hva hlr hc hs' hd hloc hret
  have := hret pc H locs rl he hpic hva
  rw [hs]
  simpa using this
theorem y_ireturn (hi : m_cd μ pc = .ireturn) (k : m_do (m_X l base b L xs ids D lay) d μ ls I F R n Q (m_step lay d μ .ireturn pc ls st I F R n)) : m_X l base b L xs ids D lay d μ pc ls st I F R n Q := by
  simp only [m_step] at k
  split at k
  · rename_i x
    split at k
    · rename_i hr
      exact m_ret (v := some (.int x)) (fun a h => by cases h) ⟨hi, _, hr, rfl⟩ rfl k.2
    · rename_i t _ hr
      exact m_ret (v := some (.int x)) (fun a h => by cases h) ⟨hi, _, hr, k.1⟩ rfl k.2
    · exact False.elim k
  · exact False.elim k
theorem y_lreturn (hi : m_cd μ pc = .lreturn) (k : m_do (m_X l base b L xs ids D lay) d μ ls I F R n Q (m_step lay d μ .lreturn pc ls st I F R n)) : m_X l base b L xs ids D lay d μ pc ls st I F R n Q := by
  simp only [m_step] at k
  split at k
  · rename_i x
    split at k
    · rename_i hr
      exact m_ret (v := some (.long x)) (fun a h => by cases h) ⟨hi, hr⟩ rfl k.2
    · exact False.elim k
  · exact False.elim k
theorem y_freturn (hi : m_cd μ pc = .freturn) (k : m_do (m_X l base b L xs ids D lay) d μ ls I F R n Q (m_step lay d μ .freturn pc ls st I F R n)) : m_X l base b L xs ids D lay d μ pc ls st I F R n Q := by
  simp only [m_step] at k
  split at k
  · rename_i x
    split at k
    · rename_i hr
      exact m_ret (v := some (.float x)) (fun a h => by cases h) ⟨hi, hr⟩ rfl k.2
    · exact False.elim k
  · exact False.elim k
theorem y_dreturn (hi : m_cd μ pc = .dreturn) (k : m_do (m_X l base b L xs ids D lay) d μ ls I F R n Q (m_step lay d μ .dreturn pc ls st I F R n)) : m_X l base b L xs ids D lay d μ pc ls st I F R n Q := by
  simp only [m_step] at k
  split at k
  · rename_i x
    split at k
    · rename_i hr
      exact m_ret (v := some (.double x)) (fun a h => by cases h) ⟨hi, hr⟩ rfl k.2
    · exact False.elim k
  · exact False.elim k
theorem y_return (hi : m_cd μ pc = .return_) (k : m_do (m_X l base b L xs ids D lay) d μ ls I F R n Q (m_step lay d μ .return_ pc ls st I F R n)) : m_X l base b L xs ids D lay d μ pc ls st I F R n Q := by
  simp only [m_step] at k
  split at k
  · split at k
    · rename_i hr
      exact m_ret (v := none) (fun a h => by cases h) ⟨hi, hr⟩ rfl k.2
    · exact False.elim k
  · exact False.elim k
-- objects
theorem m_own_of {s : State} {m : MethodId} (hm : μ < m_all.length) (hown : s.vm.findClass (m_q μ).1.cls = some m.cls) : s.vm.findClass (m_own (m_ox μ)) = some m.cls := by
  rw [show m_own (m_ox μ) = (m_q μ).1.cls from m_own_all _ (m_q_in hm)]
  exact hown
theorem m_vw_at {ci : Nat} (h : ci < m_cl.length) : vwCl[ci]? = some ((m_c ci).1, (m_c ci).2.1, (m_c ci).2.2.1) := by
  rw [m_cl_vw, List.getElem?_map, m_getL (d := m_dcl) h]
  rfl
theorem m_c_ok {ci : Nat} (h : ci < m_cl.length) : m_clOk (m_c ci) := m_cl_ok _ (List.mem_of_getElem? (m_getL (d := m_dcl) h))
theorem m_k_pos {a : Nat} (h : a ≠ 0) : m_k base b a = base + a := by
  cases a with
  | zero => exact absurd rfl h
  | succ a => rfl
theorem m_fc_fv {ty a k : Nat} : m_fc base ty (I a k) (R a k) = m_cv base b (m_fv ty I R a k) := by
  match ty with
  | 0 => rfl
  | 1 => rfl
  | 2 => rfl
  | 3 =>
    simp only [m_fc, m_fv]
    cases R a k <;> rfl
  | ty + 4 => rfl
theorem m_w_obj {ci a : Nat} (h0 : (lay 0).1 = 0) (hl : lay a = (5 + ci, 0)) (hn : a < n) : a ≠ 0 ∧ (m_w base ids lay I F R n)[a - 1]? = some (m_k base b a, .inr (ci, (List.range (m_c ci).2.2.1).map fun k => m_fc base (m_tyc ((m_c ci).2.2.2 k)) (I a k) (R a k))) := by
  have ha : a ≠ 0 := by
    intro e
    subst e
    rw [hl] at h0
    simp only at h0
    omega
  refine ⟨ha, ?_⟩
  rw [m_k_pos ha, m_w_get (by omega) hn, hl, m_ce_o]
theorem m_w_row {a : Nat} (ha : a ≠ 0) (hn : a < n) : (m_w base ids lay I F R n)[a - 1]? = some (m_k base b a, m_ce base ids (lay a) (I a) (F a) (R a)) := by
  rw [m_k_pos ha, m_w_get (by omega) hn]
theorem y_getfield (h0 : (lay 0).1 = 0) {ix : Nat} (hi : m_cd μ pc = .getfield ix) (k0 : m_do (m_X l base b L xs ids D lay) d μ ls I F R n Q (m_step lay d μ (.getfield ix) pc ls st I F R n)) : m_X l base b L xs ids D lay d μ pc ls st I F R n Q := by
  simp only [m_step] at k0
  split at k0
  · rename_i a r
    split at k0
    · rename_i i ci k ty fin he
      obtain ⟨g1, g2, g3, g4, g5, g6⟩ : m_flP (m_own (m_ox μ)) (i, ci, k, ty, fin) := m_fl_all _ _ (List.mem_of_find?_eq_some he)
      have hix : i = ix := by simpa using List.find?_some he
      subst hix
      refine m_same (fun h => ⟨h.1, fun x hx => ?_, h.2.2⟩) ?_ k0.2
      · rcases List.mem_cons.mp hx with hx | hx
        · match ty, hx with
          | 3, hx =>
            simp only [m_fv] at hx
            have := h.2.2 a k
            cases hr : R a k with
            | zero => rw [hr] at hx; cases hx
            | succ z =>
              rw [hr] at hx this
              cases hx
              exact this
        · exact h.2.1 x (List.mem_cons_of_mem _ hx)
      · intro hw p e R0 s m args below meth c Qr H locs cells slots rl hcx hpic hva hlr hc hs hd hloc kk
        obtain ⟨hx, hb, hr, hml, hown, hts, hlk, hini, hkx, hm⟩ := hcx
        obtain ⟨ha, he1⟩ := m_w_obj (base := base) (b := b) (ids := ids) (I := I) (F := F) (R := R) h0 k0.1 (hw.2.1 a List.mem_cons_self)
        have hcl := m_c_ok g1
        refine va_get (D := D) (ci := ci) (v := m_cv base b (m_fv ty I R a k)) (C := (m_c ci).1) (T := (m_c ci).2.1) (N := (m_c ci).2.2.1) hx hb hts hcl.1 (m_own_of hm hown) hkx.1 hpic.1 (a - 1) he1 (m_vw_at g1) k g2 (hts _ g3) (fun x hx => by rw [← g4]; exact hx) ?_ (m_dec hi nofun rfl) ?_
        · rw [List.getElem?_map, List.getElem?_range g2]
          simp only [Option.map_some]
          rw [g6, m_fc_fv (b := b)]
        · exact kk H locs rl hpic hva hlr
    · exact False.elim k0
  · exact False.elim k0
theorem m_put_row {p : Program} {e : Env} {R0 : Room} {s : State} {m : MethodId} {args : Array Value} {below : List Frame} {meth : Method} {c : Code} {Qr : State → Prop} {H H0 : Heap} {locs : List Loc} {cells slots : Nat} {cc : ByteArray} {rl : Array Slot} {r : List Value} {A : Nat → Prop} {tys : List (ClassId × FieldType)} {ws : va_W}
    (hx : p.tables.exec = Jvm.exec) (hb : c.code = cc) (hts : ∀ w ∈ m_wt, w.before args s = true) {own : String} (hown : s.vm.findClass own = some m.cls) {ci ix k q0 a : Nat} (g1 : ci < m_cl.length) (hK : va_K D vwCl tys s) (hP : va_P D vwCl ws H) (hD : va_D A ws) (hS0 : va_S A H0 H locs) {fs : List Value} (he : ws[q0]? = some (a, .inr (ci, fs))) (hk : k < (m_c ci).2.2.1)
    (hlink : Cond.fieldLink own ix (m_c ci).1 ((m_c ci).2.1 k).2.1 ((m_c ci).2.1 k).2.2.1 ∈ m_wt) (hdecl : ((m_c ci).2.1 k).1 = (m_c ci).1) (hfin : ((m_c ci).2.1 k).2.2.2 = false ∨ (((m_c ci).2.1 k).2.2.2 = true ∧ meth.name = "<init>" ∧ own = (m_c ci).1)) {v : Value} (hn : narrow ((m_c ci).2.2.2 k) v = v) (hfit : fits ((m_c ci).2.2.2 k) v = true) (hl : k < fs.length)
    (hdg : decode cc pc = .ok (.putfield ix, 3)) (kk : ∀ (H1 : Heap) (locs1 : List Loc), va_P D vwCl (ws.set q0 (a, .inr (ci, fs.set k v))) H1 → va_S A H0 H1 locs1 → H1.size = H.size → W p l e R0 s m args below meth c H1 locs1 cells slots Qr (F0 m (pc + 3) rl r)) : W p l e R0 s m args below meth c H locs cells slots Qr (F0 m pc rl (v :: .ref a :: r)) := by
  obtain ⟨hin, hty, hnm⟩ := m_c_ok g1
  have hc := m_vw_at g1
  have hap := va_apart (own := own) hts hin ((m_c ci).2.2.2) hty hnm hK hc
  obtain ⟨r', h1, cell, q1, q2, q3, q4⟩ := hP q0 _ he
  have hr : r' = ((m_c ci).1, (m_c ci).2.1, (m_c ci).2.2.1) := Option.some.inj (h1.symm.trans hc)
  subst hr
  obtain ⟨hS, hfc, kC, hkC, hkind⟩ := hK.1 ci _ hc
  obtain ⟨cf, kf, fi, f, hi, hsl⟩ := hS k hk
  have hlay := hts _ (hin _ (u_in_lay hk))
  have hsame : s.fieldFound? (m_c ci).1 ((m_c ci).2.1 k).2.1 ((m_c ci).2.1 k).2.2.1 = some (cf, kf, fi, f) := by
    rw [← hdecl]
    exact hi
  have hst := (u_facts hfc hkC (u_lays hts hin hk) hi).1
  rcases hfin with hfin | ⟨hfin, hin2, hdown⟩
  · unfold u_lay at hlay
    rw [if_neg (by rw [hfin]; decide)] at hlay
    have h6 := u_store hfc hkC hkind hlay hi (hty k hk) hn hfit
    refine W.putK hx hb (f := f) ⟨hown, hts _ hlink, ⟨_, _, _, hsame⟩, hst⟩ (by rw [q2]; exact h6) q1 q3 (by rw [hsl]; exact k2_hasslot (q4 k hk)) rfl rfl hdg fun H' e1 e2 e3 => ?_
    rw [hsl] at e1 ⊢
    exact kk H' _ (hP.set hD he ⟨_, hc, t_OB.to (V := updV (vp_V fs) k v) ⟨_, e1, q2, q3, t_set q4 hap hk v⟩ (fun j _ => vp_updV_set hl v j)⟩ e3) (hS0.put e2 e3 (hD.2 q0 _ he)) e2
  · unfold u_lay at hlay
    rw [if_pos hfin] at hlay
    have hcf : m.cls = cf := by
      obtain ⟨_, _, c', _, _, _, -, -, hf', -, -, -, hown2, -⟩ := Cond.laysFinal_spec hlay
      have e1 : c' = cf := by have := hi.symm.trans hf'; simp at this; exact this.1.symm
      rw [hdecl, ← hdown] at hown2
      rw [← e1]; exact Option.some.inj (hown.symm.trans hown2)
    have h6 := u_fits hfc hkC hkind (Or.inr hlay) hi (hty k hk) hn hfit
    refine W.putFinK hx hb hown (hts _ hlink) hsame hst hcf hin2 (by rw [q2]; exact h6) q1 q3 (by rw [hsl]; exact k2_hasslot (q4 k hk)) rfl rfl hdg fun H' e1 e2 e3 => ?_
    rw [hsl] at e1 ⊢
    exact kk H' _ (hP.set hD he ⟨_, hc, t_OB.to (V := updV (vp_V fs) k v) ⟨_, e1, q2, q3, t_set q4 hap hk v⟩ (fun j _ => vp_updV_set hl v j)⟩ e3) (hS0.put e2 e3 (hD.2 q0 _ he)) e2
theorem m_fs_set {N k : Nat} {f g : Nat → Value} (hg : ∀ j, j ≠ k → g j = f j) : ((List.range N).map f).set k (g k) = (List.range N).map g := by
  apply List.ext_getElem?
  intro j
  rw [List.getElem?_set]
  by_cases hj : k = j
  · subst hj
    rw [if_pos rfl]
    by_cases hl : k < N
    · rw [if_pos (by simpa using hl), List.getElem?_map, List.getElem?_range hl]
      rfl
    · rw [if_neg (by simpa using hl), List.getElem?_map, List.getElem?_eq_none (by simpa using hl)]
      rfl
  · rw [if_neg hj, List.getElem?_map, List.getElem?_map]
    by_cases hl : j < N
    · rw [List.getElem?_range hl]
      simp only [Option.map_some]
      rw [hg j (fun q => hj q.symm)]
    · rw [List.getElem?_eq_none (by simpa using hl)]
      rfl
end YS
