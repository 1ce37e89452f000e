section YC
variable {l : Launch} {base b L : Nat} {xs : Nat → Int32} {ids : m_ID} {D : va_G} {lay : mL} {d μ pc n : Nat} {ls st : List Value} {I : mI} {F : mF} {R : mR} {Q : mP}
theorem m_catsum : ∀ (r : List Value), ((m_cs base b r).map fun v => v.category).sum ≤ 2 * r.length
  | [] => Nat.le_refl _
  | v :: r => by
    have ih := m_catsum r
    have hv : (m_cv base b v).category ≤ 2 := by rcases lv_cat (m_cv base b v) with h | h <;> omega
    simp only [m_cs, List.map_cons, List.sum_cons, List.length_cons] at ih ⊢
    omega
theorem m_cat8 {r : List Value} (h : (r.length ≤ 4 ∨ (r.map fun v => v.category).sum ≤ 8)) : ((m_cs base b r).map fun v => v.category).sum ≤ 8 := by
  rcases h with h | h
  · exact Nat.le_trans (m_catsum r) (by omega)
  · rw [m_cs, List.map_map]
    have e : ((fun v => v.category) ∘ m_cv base b) = fun v : Value => v.category := funext fun v => m_cv_cat v
    rw [e]
    exact h
theorem m_mtk_of {ox ix : Nat} {e : Nat × Nat × Nat × Nat × Nat} (he : m_mtk ox ix = some e) : m_mtP (m_own ox) e ∧ e.1 = ix := ⟨m_mt_all _ _ (List.mem_of_find?_eq_some he), by simpa using List.find?_some he⟩
theorem m_init {ix : Nat} {i0 z1 z2 z3 : Nat} {a : Nat} {r : List Value} (hi : m_cd μ pc = .invokespecial ix) (he : m_mtk (m_ox μ) ix = some (i0, 4, z1, z2, z3)) (hr4 : (r.length ≤ 4 ∨ (r.map fun v => v.category).sum ≤ 8) ∧ 1 ≤ d) (k : m_X l base b L xs ids D lay d μ (pc + 3) ls r I F R n Q) : m_X l base b L xs ids D lay d μ pc ls (.ref a :: r) I F R n Q := by
  obtain ⟨⟨g1, g2, g3⟩, hix⟩ := m_mtk_of he
  simp only at hix
  subst hix
  refine m_same (fun h => ⟨h.1, fun x hx => h.2.1 x (List.mem_cons_of_mem _ hx), h.2.2⟩) ?_ k
  intro hw p e R0 s m args below meth cd Qr H locs cells slots rl hcx hpic hva hlr hc hs hd hloc kk
  obtain ⟨hx, hb, hr, hml, hown, hts, hlk, hini, hkx, hm⟩ := hcx
  have h8 : ((r.map (m_cv base b)).map fun v => v.category).sum ≤ 8 := m_cat8 hr4.1
  exact W.objInit hx hb (m_own_of hm hown) (hts _ g1) (hts _ g2) (hts _ g3) rfl (by rw [hml]; exact hlr.1.1) rfl (m_dec hi nofun rfl) (by omega) (by show 2 * 0 + _ + 12 ≤ _; omega) (kk H locs rl hpic hva hlr)
theorem m_max {ix : Nat} {i0 z1 z2 z3 : Nat} {x y : Int32} {r : List Value} (hi : m_cd μ pc = .invokestatic ix) (he : m_mtk (m_ox μ) ix = some (i0, 6, z1, z2, z3)) (hr4 : (r.length ≤ 4 ∨ (r.map fun v => v.category).sum ≤ 8) ∧ 1 ≤ d) (k : m_X l base b L xs ids D lay d μ (pc + 3) ls (.int (if x < y then y else x) :: r) I F R n Q) : m_X l base b L xs ids D lay d μ pc ls (.int y :: .int x :: r) I F R n Q := by
  obtain ⟨⟨g1, g2, g3, g4⟩, hix⟩ := m_mtk_of he
  simp only at hix
  subst hix
  refine m_same (m_wf_int2 (by intro a h; cases h)) ?_ k
  intro hw p e R0 s m args below meth cd Qr H locs cells slots rl hcx hpic hva hlr hc hs hd hloc kk
  obtain ⟨hx, hb, hr, hml, hown, hts, hlk, hini, hkx, hm⟩ := hcx
  have h8 : ((r.map (m_cv base b)).map fun v => v.category).sum ≤ 8 := m_cat8 hr4.1
  exact va_mmax hx hb (by rw [hml]; exact hlr.1.1.symm) (m_own_of hm hown) (hts _ g1) (hts _ g2) (hts _ g3) (hts _ g4) (by omega) (by omega) hc hs (m_dec hi nofun rfl) (kk H locs rl hpic hva hlr)
theorem m_min {ix : Nat} {i0 z1 z2 z3 : Nat} {x y : Int32} {r : List Value} (hi : m_cd μ pc = .invokestatic ix) (he : m_mtk (m_ox μ) ix = some (i0, 7, z1, z2, z3)) (hr4 : (r.length ≤ 4 ∨ (r.map fun v => v.category).sum ≤ 8) ∧ 1 ≤ d) (k : m_X l base b L xs ids D lay d μ (pc + 3) ls (.int (if y < x then y else x) :: r) I F R n Q) : m_X l base b L xs ids D lay d μ pc ls (.int y :: .int x :: r) I F R n Q := by
  obtain ⟨⟨g1, g2, g3, g4⟩, hix⟩ := m_mtk_of he
  simp only at hix
  subst hix
  refine m_same (m_wf_int2 (by intro a h; cases h)) ?_ k
  intro hw p e R0 s m args below meth cd Qr H locs cells slots rl hcx hpic hva hlr hc hs hd hloc kk
  obtain ⟨hx, hb, hr, hml, hown, hts, hlk, hini, hkx, hm⟩ := hcx
  have h8 : ((r.map (m_cv base b)).map fun v => v.category).sum ≤ 8 := m_cat8 hr4.1
  exact va_mmin hx hb (by rw [hml]; exact hlr.1.1.symm) (m_own_of hm hown) (hts _ g1) (hts _ g2) (hts _ g3) (hts _ g4) (by omega) (by omega) hc hs (m_dec hi nofun rfl) (kk H locs rl hpic hva hlr)
theorem m_cpr_i {p : Program} {e : Env} {R0 : Room} {s : State} {m : MethodId} {args : Array Value} {below : List Frame} {meth : Method} {c : Code} {Qr : State → Prop} {H H0 : Heap} {locs : List Loc} {cells slots : Nat} {cc : ByteArray} {rl : Array Slot} {rest : List Value} {A : Nat → Prop} {tys : List (ClassId × FieldType)} {ws : va_W} {cl : List vw_C}
    (hexec : p.tables.exec = Jvm.exec) (hb : c.code = cc) (hml : c.maxLocals = rl.size) {own : String} {index : Nat} (hown : s.vm.findClass own = some m.cls) (hlink : (Cond.methodLink own index arraycopyName).before args s = true) (hnat : (Cond.native arraycopyName).before args s = true) (hstat : (Cond.static arraycopyName).before args s = true) (hini : (Cond.initialized "java/lang/System").before args s = true)
    (hK : va_K D cl tys s) (hP : va_P D cl ws H) (hD : va_D A ws) (hS : va_S A H0 H locs) (q0 q1 t0 : Nat) {a a0 : Nat} {c0 : ClassId} {n0 n1 : Nat} {f g : Nat → Int32} (ha0 : ws[q0]? = some (a0, .inl (c0, n0, .inl f))) (ha1 : ws[q1]? = some (a, .inl (c0, n1, .inl g))) (ht0 : tys[t0]? = some (c0, .int))
    {sp dp n : Int32} (h1 : ¬ sp < 0) (h2 : ¬ dp < 0) (h3 : ¬ n < 0) (h4 : sp.toNatClampNeg + n.toNatClampNeg ≤ n0) (h5 : dp.toNatClampNeg + n.toNatClampNeg ≤ n1)
    (hframes : 1 ≤ R0.frames) (hlocals : (rest.map fun v => v.category).sum + 18 ≤ R0.locals) (hdg : decode cc pc = .ok (.invokestatic index, 3))
    (kk : ∀ (H1 : Heap) (locs1 : List Loc), va_P D cl (ws.set q1 (a, .inl (c0, n1, .inl (va_cpy f g sp.toNatClampNeg dp.toNatClampNeg n.toNatClampNeg)))) H1 → va_S A H0 H1 locs1 → H1.size = H.size → W p l e R0 s m args below meth c H1 locs1 cells slots Qr (F0 m (pc + 3) rl rest)) : W p l e R0 s m args below meth c H locs cells slots Qr (F0 m pc rl (.int n :: .int dp :: .ref a :: .int sp :: .ref a0 :: rest)) := by
  have nn : ∀ z : Int32, ¬ z < 0 → z.toInt = (z.toNatClampNeg : Int) := by
    intro z hz
    have hz0 : (0 : Int) ≤ z.toInt := by
      have := Int32.not_lt.mp hz
      simpa using Int32.le_iff_toInt_le.mp this
    show z.toInt = ((z.toInt.toNat : Nat) : Int)
    omega
  intro T hT X
  have hc0 : H[a0]? = some (vp_cell c0 (n0, .inl f)) := hP q0 _ ha0
  have hc1 : H[a]? = some (vp_cell c0 (n1, .inl g)) := hP q1 _ ha1
  obtain ⟨-, k0, hk0, cm0, hkk0⟩ := (hK.2 t0 _ ht0).1 n0 (fun j => .int (f j))
  obtain ⟨-, k1, hk1, cm1, hkk1⟩ := (hK.2 t0 _ ht0).1 n1 (fun j => .int (g j))
  obtain ⟨vm', X', step⟩ := X.arraycopy hexec hown hlink hnat hstat hini (src := a0) (dst := a) (cs := vp_cell c0 (n0, .inl f)) (cd := vp_cell c0 (n1, .inl g)) (srcPos := sp) (destPos := dp) (n := n) (by rw [hT]; exact hc0) (by rw [hT]; exact hc1)
    (fun _ h => by cases h) (fun _ h => by cases h) (fun h => by cases h) (fun h => by cases h) hk0 hk1 hkk0 hkk1 (by simp [refKind]) h1 h2 h3
    (by rw [nn sp h1, nn n h3]; show ¬ _ > ((arrV c0 n0 (fun j => .int (f j))).slots.size : Int); rw [arrV_size]; omega)
    (by rw [nn dp h2, nn n h3]; show ¬ _ > ((arrV c0 n1 (fun j => .int (g j))).slots.size : Int); rw [arrV_size]; omega)
    (fun vm₁ _ i hi => by
      have e : (vp_cell c0 (n0, .inl f)).slots.getD (sp.toNatClampNeg + i) .null = .int (f (sp.toNatClampNeg + i)) := by
        show (arrV c0 n0 (fun j => .int (f j))).slots.getD _ _ = _
        rw [Array.getD_eq_getD_getElem?, arrV_read _ _ (by omega)]
        rfl
      refine ⟨?_, ?_⟩
      · rw [e]
        rfl
      · rw [e]
        exact trivial)
    (g := F0 m pc rl (.int n :: .int dp :: .ref a :: .int sp :: .ref a0 :: rest)) rfl (by rw [hml]) (rest := rest) rfl (by rw [hb]; exact hdg) hframes (by show 2 * 0 + _ + (7 + 11) ≤ _; omega)
  have e1 : copied (vp_cell c0 (n0, .inl f)) (vp_cell c0 (n1, .inl g)) sp dp n = vp_cell c0 (n1, .inl (va_cpy f g sp.toNatClampNeg dp.toNatClampNeg n.toNatClampNeg)) := va_copied (fun z => .int z) c0 c0 f g h4
  rw [e1] at X' step
  have hl : a < H.size := (Array.getElem?_eq_some_iff.mp hc1).1
  have hheap : ((T.setVm vm').setCell a (vp_cell c0 (n1, .inl (va_cpy f g sp.toNatClampNeg dp.toNatClampNeg n.toNatClampNeg)))).heap = H.setIfInBounds a (vp_cell c0 (n1, .inl (va_cpy f g sp.toNatClampNeg dp.toNatClampNeg n.toNatClampNeg))) := by rw [← hT]; rfl
  have oq : ∀ q : Nat, q ≠ a → (H.setIfInBounds a (vp_cell c0 (n1, .inl (va_cpy f g sp.toNatClampNeg dp.toNatClampNeg n.toNatClampNeg))))[q]? = H[q]? := fun q hq => by simp [Array.getElem?_setIfInBounds, Ne.symm hq]
  obtain ⟨t, a1, b1⟩ := kk _ _ (hP.set hD ha1 (show (H.setIfInBounds a _)[a]? = some _ by simp [Array.getElem?_setIfInBounds, hl]) oq) ⟨by simp; exact hS.1, fun q g1 g2 => by
      rw [oq q (fun e => g2 (by rw [e]; exact hD.2 q1 _ ha1))]
      exact hS.2.1 q g1 g2, fun q hq => by
      rcases List.mem_append.mp hq with h | h
      · exact hS.2.2 q h
      · obtain ⟨z, -, hz⟩ := List.mem_map.mp h
        rw [← hz]
        exact hD.2 q1 _ ha1⟩ (by simp) _ hheap X'
  exact ⟨t, step t a1, b1⟩
theorem m_copy_i (h0 : (lay 0).1 = 0) {ix : Nat} {i0 z1 z2 z3 : Nat} {a bb : Nat} {sp dp mm : Int32} {r : List Value} (hi : m_cd μ pc = .invokestatic ix) (he : m_mtk (m_ox μ) ix = some (i0, 5, z1, z2, z3)) (hla : (lay a).1 = 0) (hc0 : a ≠ 0 ∧ bb ≠ 0 ∧ (lay bb).1 = 0 ∧ (¬ sp < 0 ∧ ¬ dp < 0 ∧ ¬ mm < 0) ∧ (sp.toNatClampNeg + mm.toNatClampNeg ≤ (lay a).2 ∧ dp.toNatClampNeg + mm.toNatClampNeg ≤ (lay bb).2) ∧ (r.length ≤ 4 ∨ (r.map fun v => v.category).sum ≤ 8) ∧ 1 ≤ d)
    (k : m_X l base b L xs ids D lay d μ (pc + 3) ls r (m_row I bb (va_cpy (I a) (I bb) sp.toNatClampNeg dp.toNatClampNeg mm.toNatClampNeg)) F R n Q) : m_X l base b L xs ids D lay d μ pc ls (.int mm :: .int dp :: .ref bb :: .int sp :: .ref a :: r) I F R n Q := by
  obtain ⟨⟨g1, g2, g3, g4⟩, hix⟩ := m_mtk_of he
  simp only at hix
  subst hix
  obtain ⟨ha, hbb0, hlb, ⟨s1, s2, s3⟩, ⟨s4, s5⟩, hr4, hd1⟩ := hc0
  refine m_same (fun h => ⟨h.1, fun x hx => h.2.1 x (List.mem_cons_of_mem _ (List.mem_cons_of_mem _ (List.mem_cons_of_mem _ (List.mem_cons_of_mem _ (List.mem_cons_of_mem _ hx))))), h.2.2⟩) ?_ k
  intro hw p e R0 s m args below meth cd Qr H locs cells slots rl hcx hpic hva hlr hc hs hd hloc kk
  obtain ⟨hx, hb, hr, hml, hown, hts, hlk, hini, hkx, hm⟩ := hcx
  have han : a < n := hw.2.1 a (by simp)
  have hbn : bb < n := hw.2.1 bb (by simp)
  have h8 : ((r.map (m_cv base b)).map fun v => v.category).sum ≤ 8 := m_cat8 hr4
  have ea := m_w_row (base := base) (b := b) (ids := ids) (lay := lay) (I := I) (F := F) (R := R) ha han
  have eb := m_w_row (base := base) (b := b) (ids := ids) (lay := lay) (I := I) (F := F) (R := R) hbb0 hbn
  rw [m_ce_0 hla] at ea
  rw [m_ce_0 hlb] at eb
  refine m_cpr_i hx hb (by rw [hml]; exact hlr.1.1.symm) (m_own_of hm hown) (hts _ g1) (hts _ g2) (hts _ g3) (hts _ g4) hkx.1 hpic.1 m_w_D hva (a - 1) (bb - 1) 0 ea eb rfl s1 s2 s3 s4 s5 (by omega) (by show ((r.map (m_cv base b)).map fun v => v.category).sum + 18 ≤ _; omega) (m_dec hi nofun rfl) (fun H1 locs1 hP hS hz => ?_)
  refine kk H1 locs1 rl (m_pic_I0 hpic (m_row_off (fun q => hbb0 q.symm)) hP ?_ hz) hS hlr
  refine m_w_arr hbb0 hbn (fun x h => m_row_off h) (fun _ _ => rfl) (fun _ _ => rfl) ?_
  rw [m_ce_0 hlb, m_row_at]
theorem m_cpr_f {p : Program} {e : Env} {R0 : Room} {s : State} {m : MethodId} {args : Array Value} {below : List Frame} {meth : Method} {c : Code} {Qr : State → Prop} {H H0 : Heap} {locs : List Loc} {cells slots : Nat} {cc : ByteArray} {rl : Array Slot} {rest : List Value} {A : Nat → Prop} {tys : List (ClassId × FieldType)} {ws : va_W} {cl : List vw_C}
    (hexec : p.tables.exec = Jvm.exec) (hb : c.code = cc) (hml : c.maxLocals = rl.size) {own : String} {index : Nat} (hown : s.vm.findClass own = some m.cls) (hlink : (Cond.methodLink own index arraycopyName).before args s = true) (hnat : (Cond.native arraycopyName).before args s = true) (hstat : (Cond.static arraycopyName).before args s = true) (hini : (Cond.initialized "java/lang/System").before args s = true)
    (hK : va_K D cl tys s) (hP : va_P D cl ws H) (hD : va_D A ws) (hS : va_S A H0 H locs) (q0 q1 t0 : Nat) {a a0 : Nat} {c0 : ClassId} {n0 n1 : Nat} {f g : Nat → UInt32} (ha0 : ws[q0]? = some (a0, .inl (c0, n0, .inr (.inr (.inl f))))) (ha1 : ws[q1]? = some (a, .inl (c0, n1, .inr (.inr (.inl g))))) (ht0 : tys[t0]? = some (c0, .float))
    {sp dp n : Int32} (h1 : ¬ sp < 0) (h2 : ¬ dp < 0) (h3 : ¬ n < 0) (h4 : sp.toNatClampNeg + n.toNatClampNeg ≤ n0) (h5 : dp.toNatClampNeg + n.toNatClampNeg ≤ n1)
    (hframes : 1 ≤ R0.frames) (hlocals : (rest.map fun v => v.category).sum + 18 ≤ R0.locals) (hdg : decode cc pc = .ok (.invokestatic index, 3))
    (kk : ∀ (H1 : Heap) (locs1 : List Loc), va_P D cl (ws.set q1 (a, .inl (c0, n1, .inr (.inr (.inl (va_cpy f g sp.toNatClampNeg dp.toNatClampNeg n.toNatClampNeg)))))) H1 → va_S A H0 H1 locs1 → H1.size = H.size → W p l e R0 s m args below meth c H1 locs1 cells slots Qr (F0 m (pc + 3) rl rest)) : W p l e R0 s m args below meth c H locs cells slots Qr (F0 m pc rl (.int n :: .int dp :: .ref a :: .int sp :: .ref a0 :: rest)) := by
  have nn : ∀ z : Int32, ¬ z < 0 → z.toInt = (z.toNatClampNeg : Int) := by
    intro z hz
    have hz0 : (0 : Int) ≤ z.toInt := by
      have := Int32.not_lt.mp hz
      simpa using Int32.le_iff_toInt_le.mp this
    show z.toInt = ((z.toInt.toNat : Nat) : Int)
    omega
  intro T hT X
  have hc0 : H[a0]? = some (vp_cell c0 (n0, .inr (.inr (.inl f)))) := hP q0 _ ha0
  have hc1 : H[a]? = some (vp_cell c0 (n1, .inr (.inr (.inl g)))) := hP q1 _ ha1
  obtain ⟨-, k0, hk0, cm0, hkk0⟩ := (hK.2 t0 _ ht0).1 n0 (fun j => .float (f j))
  obtain ⟨-, k1, hk1, cm1, hkk1⟩ := (hK.2 t0 _ ht0).1 n1 (fun j => .float (g j))
  obtain ⟨vm', X', step⟩ := X.arraycopy hexec hown hlink hnat hstat hini (src := a0) (dst := a) (cs := vp_cell c0 (n0, .inr (.inr (.inl f)))) (cd := vp_cell c0 (n1, .inr (.inr (.inl g)))) (srcPos := sp) (destPos := dp) (n := n) (by rw [hT]; exact hc0) (by rw [hT]; exact hc1)
    (fun _ h => by cases h) (fun _ h => by cases h) (fun h => by cases h) (fun h => by cases h) hk0 hk1 hkk0 hkk1 (by simp [refKind]) h1 h2 h3
    (by rw [nn sp h1, nn n h3]; show ¬ _ > ((arrV c0 n0 (fun j => .float (f j))).slots.size : Int); rw [arrV_size]; omega)
    (by rw [nn dp h2, nn n h3]; show ¬ _ > ((arrV c0 n1 (fun j => .float (g j))).slots.size : Int); rw [arrV_size]; omega)
    (fun vm₁ _ i hi => by
      have e : (vp_cell c0 (n0, .inr (.inr (.inl f)))).slots.getD (sp.toNatClampNeg + i) .null = .float (f (sp.toNatClampNeg + i)) := by
        show (arrV c0 n0 (fun j => .float (f j))).slots.getD _ _ = _
        rw [Array.getD_eq_getD_getElem?, arrV_read _ _ (by omega)]
        rfl
      refine ⟨?_, ?_⟩
      · rw [e]
        rfl
      · rw [e]
        exact trivial)
    (g := F0 m pc rl (.int n :: .int dp :: .ref a :: .int sp :: .ref a0 :: rest)) rfl (by rw [hml]) (rest := rest) rfl (by rw [hb]; exact hdg) hframes (by show 2 * 0 + _ + (7 + 11) ≤ _; omega)
  have e1 : copied (vp_cell c0 (n0, .inr (.inr (.inl f)))) (vp_cell c0 (n1, .inr (.inr (.inl g)))) sp dp n = vp_cell c0 (n1, .inr (.inr (.inl (va_cpy f g sp.toNatClampNeg dp.toNatClampNeg n.toNatClampNeg)))) := va_copied (fun z => .float z) c0 c0 f g h4
  rw [e1] at X' step
  have hl : a < H.size := (Array.getElem?_eq_some_iff.mp hc1).1
  have hheap : ((T.setVm vm').setCell a (vp_cell c0 (n1, .inr (.inr (.inl (va_cpy f g sp.toNatClampNeg dp.toNatClampNeg n.toNatClampNeg)))))).heap = H.setIfInBounds a (vp_cell c0 (n1, .inr (.inr (.inl (va_cpy f g sp.toNatClampNeg dp.toNatClampNeg n.toNatClampNeg))))) := by rw [← hT]; rfl
  have oq : ∀ q : Nat, q ≠ a → (H.setIfInBounds a (vp_cell c0 (n1, .inr (.inr (.inl (va_cpy f g sp.toNatClampNeg dp.toNatClampNeg n.toNatClampNeg))))))[q]? = H[q]? := fun q hq => by simp [Array.getElem?_setIfInBounds, Ne.symm hq]
  obtain ⟨t, a1, b1⟩ := kk _ _ (hP.set hD ha1 (show (H.setIfInBounds a _)[a]? = some _ by simp [Array.getElem?_setIfInBounds, hl]) oq) ⟨by simp; exact hS.1, fun q g1 g2 => by
      rw [oq q (fun e => g2 (by rw [e]; exact hD.2 q1 _ ha1))]
      exact hS.2.1 q g1 g2, fun q hq => by
      rcases List.mem_append.mp hq with h | h
      · exact hS.2.2 q h
      · obtain ⟨z, -, hz⟩ := List.mem_map.mp h
        rw [← hz]
        exact hD.2 q1 _ ha1⟩ (by simp) _ hheap X'
  exact ⟨t, step t a1, b1⟩
theorem m_copy_f (h0 : (lay 0).1 = 0) {ix : Nat} {i0 z1 z2 z3 : Nat} {a bb : Nat} {sp dp mm : Int32} {r : List Value} (hi : m_cd μ pc = .invokestatic ix) (he : m_mtk (m_ox μ) ix = some (i0, 5, z1, z2, z3)) (hla : (lay a).1 = 1) (hc0 : (lay bb).1 = 1 ∧ (¬ sp < 0 ∧ ¬ dp < 0 ∧ ¬ mm < 0) ∧ (sp.toNatClampNeg + mm.toNatClampNeg ≤ (lay a).2 ∧ dp.toNatClampNeg + mm.toNatClampNeg ≤ (lay bb).2) ∧ (r.length ≤ 4 ∨ (r.map fun v => v.category).sum ≤ 8) ∧ 1 ≤ d)
    (k : m_X l base b L xs ids D lay d μ (pc + 3) ls r I (m_row F bb (va_cpy (F a) (F bb) sp.toNatClampNeg dp.toNatClampNeg mm.toNatClampNeg)) R n Q) : m_X l base b L xs ids D lay d μ pc ls (.int mm :: .int dp :: .ref bb :: .int sp :: .ref a :: r) I F R n Q := by
  obtain ⟨⟨g1, g2, g3, g4⟩, hix⟩ := m_mtk_of he
  simp only at hix
  subst hix
  obtain ⟨hlb, ⟨s1, s2, s3⟩, ⟨s4, s5⟩, hr4, hd1⟩ := hc0
  have ha : a ≠ 0 := m_row_of (by decide) h0 hla
  have hbb0 : bb ≠ 0 := m_row_of (by decide) h0 hlb
  refine m_same (fun h => ⟨h.1, fun x hx => h.2.1 x (List.mem_cons_of_mem _ (List.mem_cons_of_mem _ (List.mem_cons_of_mem _ (List.mem_cons_of_mem _ (List.mem_cons_of_mem _ hx))))), h.2.2⟩) ?_ k
  intro hw p e R0 s m args below meth cd Qr H locs cells slots rl hcx hpic hva hlr hc hs hd hloc kk
  obtain ⟨hx, hb, hr, hml, hown, hts, hlk, hini, hkx, hm⟩ := hcx
  have han : a < n := hw.2.1 a (by simp)
  have hbn : bb < n := hw.2.1 bb (by simp)
  have h8 : ((r.map (m_cv base b)).map fun v => v.category).sum ≤ 8 := m_cat8 hr4
  have ea := m_w_row (base := base) (b := b) (ids := ids) (lay := lay) (I := I) (F := F) (R := R) ha han
  have eb := m_w_row (base := base) (b := b) (ids := ids) (lay := lay) (I := I) (F := F) (R := R) hbb0 hbn
  rw [m_ce_1 hla] at ea
  rw [m_ce_1 hlb] at eb
  refine m_cpr_f hx hb (by rw [hml]; exact hlr.1.1.symm) (m_own_of hm hown) (hts _ g1) (hts _ g2) (hts _ g3) (hts _ g4) hkx.1 hpic.1 m_w_D hva (a - 1) (bb - 1) 1 ea eb rfl s1 s2 s3 s4 s5 (by omega) (by show ((r.map (m_cv base b)).map fun v => v.category).sum + 18 ≤ _; omega) (m_dec hi nofun rfl) (fun H1 locs1 hP hS hz => ?_)
  refine kk H1 locs1 rl (m_pic_I0 hpic (rfl) hP ?_ hz) hS hlr
  refine m_w_arr hbb0 hbn (fun _ _ => rfl) (fun x h => m_row_off h) (fun _ _ => rfl) ?_
  rw [m_ce_1 hlb, m_row_at]
-- calls
def m_Qc (base L : Nat) (xs : Nat → Int32) (ids : m_ID) (D : va_G) (lay : mL) (v : Option Value) (I : mI) (F : mF) (R : mR) (n : Nat) : Array Value → State → Outcome → State → Prop := fun _ st o t => o = .returned v ∧ m_pic base ids D lay L xs I F R n t.heap ∧ va_F (m_A base) st t
def m_Pc (base b L : Nat) (xs : Nat → Int32) (ids : m_ID) (D : va_G) (lay : mL) (as : List Value) (I : mI) (F : mF) (R : mR) (n : Nat) : Array Value → State → Prop := va_Pc (as.map (m_cv base b)) (fun U => m_pic base ids D lay L xs I F R n U.heap ∧ m_kx base b L xs ids D U)
def m_ws (μ : Nat) : List Cond := Cond.code (m_q μ).1 (m_q μ).2.1 (m_q μ).2.2.1 (m_q μ).2.2.2.1 :: m_wt
theorem m_met {μ' k d' : Nat} {as : List Value} {v1 : Option Value} {I1 : mI} {F1 : mF} {R1 : mR} {n1 : Nat} (hq : m_qP μ' k) (hsl : (m_sl as).length ≤ m_ml μ') (S1 : m_S l base b L xs ids D lay d' μ' 0 (m_ent as (m_ml μ')) [] I F R n v1 I1 F1 R1 n1) :
    Met l (m_q μ').1 (m_ws μ') { frames := d', cells := n1 - n, slots := m_sz lay n1 - m_sz lay n, locals := 34 * d' } (m_Pc base b L xs ids D lay as I F R n) (m_Qc base L xs ids D lay v1 I1 F1 R1 n1) (n1 - n) (m_sz lay n1 - m_sz lay n) (m_A base) := by
  refine Met.ofW (cc := (m_q μ').2.1) (maxL := (m_q μ').2.2.1) (ret := (m_q μ').2.2.2.1) hq.2.2.1.1 rfl ?_
  intro p e s m args below meth c s₁ B hml hv'
  obtain ⟨rfl, hpic, hkx⟩ := hv'
  have hts0 := atoms_spec (ws := m_ws μ') B.pre
  have hlocks := B.notSynchronized
  have hx := B.exec
  have hb := B.bytes
  have hr : meth.sig.returnType = m_rt μ' := B.returns
  have hcx : m_cx base b L xs ids D p s m (as.map (m_cv base b)).toArray meth c μ' := ⟨hx, hb, hr, hml, findClass_of_methodNamed B.named, fun w hw => hts0 w (List.mem_cons_of_mem _ hw), hlocks, fun h => by
    rw [(name_of_methodNamed B.named B.method).1]
    simpa [m_ini] using h, hkx, hq.1⟩
  rw [lg_entry_eq]
  refine S1 p e _ s m _ below meth c _ s.heap [] 0 0 _ hcx hpic va_S.rf (m_lr_ent hsl) (by rw [Nat.zero_add]; exact Nat.le_refl _) (by rw [Nat.zero_add]; exact Nat.le_refl _) (Nat.le_refl _) (Nat.le_refl _) ?_
  intro pc' H' locs' rl' he hpic' hva'
  rw [Nat.zero_add, Nat.zero_add]
  match v1, he with
  | none, he => exact W.vret hx hb (hr.trans he.2) (fun t ht hW => ⟨rfl, by rw [ht]; exact hpic', hva'.F ht⟩) hva'.2.2 (m_dec he.1 nofun rfl)
  | some (.int x), he =>
    obtain ⟨h1, t, h2, h3⟩ := he
    exact W.zret hx hb (hr.trans h2) h3 (fun t ht hW => ⟨rfl, by rw [ht]; exact hpic', hva'.F ht⟩) hva'.2.2 (m_dec h1 nofun rfl)
  | some (.long x), he => exact W.lret hx hb (hr.trans he.2) (fun t ht hW => ⟨rfl, by rw [ht]; exact hpic', hva'.F ht⟩) hva'.2.2 (m_dec he.1 nofun rfl)
  | some (.float x), he => exact W.fret hx hb (hr.trans he.2) (fun t ht hW => ⟨rfl, by rw [ht]; exact hpic', hva'.F ht⟩) hva'.2.2 (m_dec he.1 nofun rfl)
  | some (.double x), he => exact W.dret hx hb (hr.trans he.2) (fun t ht hW => ⟨rfl, by rw [ht]; exact hpic', hva'.F ht⟩) hva'.2.2 (m_dec he.1 nofun rfl)
theorem m_kx_warm {s U : State} {H : Heap} {locs : List Loc} (hkx : m_kx base b L xs ids D s) (hW : s.WarmedH U.vm) (hU : U.heap = H) (hva : va_S (m_A base) s.heap H locs) : m_kx base b L xs ids D U := by
  obtain ⟨h1, h2, h3, h4, h5, h6⟩ := hkx
  refine ⟨va_K.moved hW.alike h1, fun q hq => va_Nw.warmM hW (h2 q hq), va_AO.moved hW.alike h3, ?_, ?_, h6⟩
  · refine (va_X.moved hW.alike h4).kept ?_
    rw [hU]
    exact hva.2.1 b (Nat.lt_of_le_of_lt h6 h5) (Nat.not_lt.mpr h6)
  · rw [hU]
    exact Nat.lt_of_lt_of_le h5 hva.1
theorem m_kx_calling {U : State} {g : JFrame} {mk : MethodId} {a : Array Value} (hkx : m_kx base b L xs ids D U) : m_kx base b L xs ids D (U.calling g mk a) := by
  obtain ⟨h1, h2, h3, h4, h5, h6⟩ := hkx
  exact ⟨va_K.moved (u := U) (U := U.calling g mk a) (Vm.Alike.refl U.vm) h1, fun q hq => va_Nw.same (u := U) (U := U.calling g mk a) rfl rfl (h2 q hq), va_AO.moved (u := U) (U := U.calling g mk a) (Vm.Alike.refl U.vm) h3, va_X.moved (u := U) (U := U.calling g mk a) (Vm.Alike.refl U.vm) h4, h5, h6⟩
theorem m_blind {as : List Value} : FrameBlind (m_Pc base b L xs ids D lay as I F R n) := fun _ _ _ _ h => ⟨h.1, h.2.1, m_kx_calling h.2.2⟩
theorem m_Pc_of {s U : State} {H : Heap} {locs : List Loc} {as : List Value} (hpic : m_pic base ids D lay L xs I F R n H) (hkx : m_kx base b L xs ids D s) (hva : va_S (m_A base) s.heap H locs) (hU : U.heap = H) (hW : s.WarmedH U.vm) : m_Pc base b L xs ids D lay as I F R n (as.map (m_cv base b)).toArray U := ⟨rfl, by rw [hU]; exact hpic, m_kx_warm hkx hW hU hva⟩
theorem m_psh_cs {v : Option Value} {r : List Value} (hv : ∀ a, v ≠ some (.ref a)) : m_cs base b (m_psh v r) = v.toList ++ m_cs base b r := by
  match v with
  | none => rfl
  | some (.int x) => rfl
  | some (.long x) => rfl
  | some (.float x) => rfl
  | some (.double x) => rfl
  | some .null => rfl
  | some (.retAddr x) => rfl
  | some (.ref a) => exact absurd rfl (hv a)
theorem m_sl_ref {a : Nat} : ∀ {as : List Value}, Value.ref a ∈ m_sl as → Value.ref a ∈ as
  | [], h => h
  | v :: r, h => by
    cases v with
    | long x =>
      simp only [m_sl, List.mem_cons] at h
      rcases h with h | h | h
      · cases h
      · cases h
      · exact List.mem_cons_of_mem _ (m_sl_ref h)
    | double x =>
      simp only [m_sl, List.mem_cons] at h
      rcases h with h | h | h
      · cases h
      · cases h
      · exact List.mem_cons_of_mem _ (m_sl_ref h)
    | _ =>
      simp only [m_sl, List.mem_cons] at h
      rcases h with h | h
      · rw [h]; exact List.mem_cons_self
      · exact List.mem_cons_of_mem _ (m_sl_ref h)
theorem m_ent_ref {a ml : Nat} {as : List Value} (h : Value.ref a ∈ m_ent as ml) : Value.ref a ∈ as := by
  rcases List.mem_append.mp h with h | h
  · exact m_sl_ref h
  · have := (List.mem_replicate.mp h).2
    cases this
theorem m_call {μ' k : Nat} {as r : List Value} (hq : m_qP μ' k) (hsl : (m_sl as).length ≤ m_ml μ') (hd1 : 1 ≤ d) (has : ∀ a, Value.ref a ∈ as → Value.ref a ∈ st) (hrs : ∀ a, Value.ref a ∈ r → Value.ref a ∈ st)
    (hrun : m_wf ls st R n → ∀ (p : Program) (e : Env) (R0 : Room) (s : State) (m : MethodId) (args : Array Value) (below : List Frame) (meth : Method) (c : Code) (H : Heap) (locs : List Loc) (cells slots : Nat) (rl : Array Slot) (mc ms : Nat) (Qc : Array Value → State → Outcome → State → Prop),
      m_cx base b L xs ids D p s m args meth c μ → m_pic base ids D lay L xs I F R n H → va_S (m_A base) s.heap H locs → m_lr base b rl (m_ml μ) ls → d ≤ R0.frames → 34 * d ≤ R0.locals →
      Met l (m_q μ').1 (m_ws μ') { frames := d - 1, cells := mc, slots := ms, locals := 34 * (d - 1) } (m_Pc base b L xs ids D lay as I F R n) Qc mc ms (m_A base) → cells + mc ≤ R0.cells → slots + ms ≤ R0.slots →
      va_Run p l e R0 s m args below meth c H locs cells slots mc ms (F0 m pc rl (m_cs base b st)) (m_cs base b r) (Qc (as.map (m_cv base b)).toArray) (m_A base))
    (k0 : m_X l base b L xs ids D lay (d - 1) μ' 0 (m_ent as (m_ml μ')) [] I F R n (fun v I F R n => m_X l base b L xs ids D lay d μ (pc + 3) ls (m_psh v r) I F R n Q)) : m_X l base b L xs ids D lay d μ pc ls st I F R n Q := by
  intro hw
  obtain ⟨v1, I1, F1, R1, n1, hQ1, hn1, hR1, hv1, S1⟩ := k0 ⟨fun a ha => hw.2.1 a (has a (m_ent_ref ha)), nofun, hw.2.2⟩
  obtain ⟨v, I', F', R', n', hq', hn', hR', hv, S2⟩ := hQ1 ⟨fun a ha => Nat.lt_of_lt_of_le (hw.1 a ha) hn1, fun a ha => by
    match v1, hv1 with
    | none, _ => exact Nat.lt_of_lt_of_le (hw.2.1 a (hrs a ha)) hn1
    | some w, hv1 =>
      rcases List.mem_cons.mp ha with ha | ha
      · exact absurd (congrArg some ha.symm) (hv1 a)
      · exact Nat.lt_of_lt_of_le (hw.2.1 a (hrs a ha)) hn1, hR1⟩
  refine ⟨v, I', F', R', n', hq', Nat.le_trans hn1 hn', hR', hv, ?_⟩
  intro p e R0 s m args below meth c Qr H locs cells slots rl hcx hpic hva hlr hc hs hd hloc hret
  have z1 := m_sz_le (lay := lay) hn1
  have z2 := m_sz_le (lay := lay) hn'
  have hM := m_met hq hsl S1
  have hr := hrun hw p e R0 s m args below meth c H locs cells slots rl _ _ _ hcx hpic hva hlr hd hloc hM (by omega) (by omega)
  intro T hT X
  obtain ⟨v2, st₀, t, T', Lc, h0, X', hL, e1, e2, ⟨hv2, hpic2, hz, hk⟩, sg⟩ := hr T hT X
  cases hv2
  rw [h0] at hz hk
  have hva1 : va_S (m_A base) s.heap t.heap (locs ++ Lc) := ⟨Nat.le_trans hva.1 hz, fun q h1 h2 => by rw [hk q (Nat.lt_of_lt_of_le h1 hva.1) h2]; exact hva.2.1 q h1 h2, fun q hq => by
    rcases List.mem_append.mp hq with h | h
    · exact hva.2.2 q h
    · exact hL q h⟩
  have k2 := S2 p e R0 s m args below meth c Qr t.heap (locs ++ Lc) (cells + (n1 - n)) (slots + (m_sz lay n1 - m_sz lay n)) rl hcx hpic2 hva1 hlr (by omega) (by omega) hd hloc (fun pc' H' locs' rl' g1 g2 g3 => by
    have := hret pc' H' locs' rl' g1 g2 g3
    rw [show cells + (n1 - n) + (n' - n1) = cells + (n' - n) by omega, show slots + (m_sz lay n1 - m_sz lay n) + (m_sz lay n' - m_sz lay n1) = slots + (m_sz lay n' - m_sz lay n) by omega]
    exact this)
  rw [m_psh_cs hv1] at k2
  obtain ⟨t2, a1, b1⟩ := k2 T' e1 X'
  exact ⟨t2, sg t2 a1, b1⟩
theorem m_ml_all : ∀ q ∈ m_all, q.2.2.1 ≤ 15 := by
  have h : m_all.all (fun q => decide (q.2.2.1 ≤ 15)) = true := by decide +kernel
  intro q hq
  exact of_decide_eq_true (List.all_eq_true.mp h q hq)
theorem m_good_ws {μ' k : Nat} (hq : m_qP μ' k) : GoodIn m_wt (m_ws μ') := fun w hw => by
  rcases List.mem_cons.mp hw with rfl | hw
  · exact ⟨hq.2.1, good_of_word (m_wt_good _ hq.2.1)⟩
  · exact ⟨hw, good_of_word (m_wt_good _ hw)⟩
theorem m_pop_eq : ∀ {k : Nat} {acc st as r : List Value}, m_pop k acc st = some (as, r) → ∃ bs : List Value, bs.length = k ∧ as = bs ++ acc ∧ st = bs.reverse ++ r
  | 0, acc, st, as, r, h => by
    simp only [m_pop, Option.some.injEq, Prod.mk.injEq] at h
    obtain ⟨rfl, rfl⟩ := h
    exact ⟨[], rfl, rfl, rfl⟩
  | k + 1, acc, v :: st, as, r, h => by
    simp only [m_pop] at h
    obtain ⟨bs, h1, h2, h3⟩ := m_pop_eq h
    refine ⟨bs ++ [v], by simp [h1], by simp [h2], by simp [h3]⟩
  | _ + 1, _, [], _, _, h => by simp [m_pop] at h
theorem m_room {μ' d0 : Nat} {R0 : Room} (hm : μ' < m_all.length) (hd1 : 1 ≤ d0) (hd : d0 ≤ R0.frames) (hloc : 34 * d0 ≤ R0.locals) : d0 - 1 + 1 ≤ R0.frames ∧ 8 + ((m_q μ').2.2.1 + 11) + 34 * (d0 - 1) ≤ R0.locals := by
  have := m_ml_all _ (m_q_in hm)
  omega
theorem m_virt {ix : Nat} {i0 μ' k ci a : Nat} {as r : List Value} (h0 : (lay 0).1 = 0) (hi : m_cd μ pc = .invokevirtual ix) (he : m_mtk (m_ox μ) ix = some (i0, 0, μ', k, ci)) (hp : m_pop k [] st = some (as, .ref a :: r)) (hb : Nat.ble (m_sl (.ref a :: as)).length (m_ml μ') = true) (hc : lay a = (5 + ci, 0) ∧ (r.length ≤ 4 ∨ (r.map fun v => v.category).sum ≤ 8) ∧ 1 ≤ d)
    (k0 : m_X l base b L xs ids D lay (d - 1) μ' 0 (m_ent (.ref a :: as) (m_ml μ')) [] I F R n (fun v I F R n => m_X l base b L xs ids D lay d μ (pc + 3) ls (m_psh v r) I F R n Q)) : m_X l base b L xs ids D lay d μ pc ls st I F R n Q := by
  obtain ⟨⟨g1, g2, g3, g4, g5, g6, g7⟩, hix⟩ := m_mtk_of he
  simp only at hix
  subst hix
  obtain ⟨bs, e1, e2, e3⟩ := m_pop_eq hp
  rw [List.append_nil] at e2
  subst e2
  refine m_call g5 (Nat.le_of_ble_eq_true hb) hc.2.2 (fun x hx => ?_) (fun x hx => ?_) ?_ k0
  · rw [e3]
    rcases List.mem_cons.mp hx with hx | hx
    · rw [hx]; exact List.mem_append_right _ List.mem_cons_self
    · exact List.mem_append_left _ (List.mem_reverse.mpr hx)
  · rw [e3]; exact List.mem_append_right _ (List.mem_cons_of_mem _ hx)
  · intro hw p e R0 s m args below meth c H locs cells slots rl mc ms Qc hcx hpic hva hlr hd hloc hM hmc hms
    obtain ⟨hx, hbb, hr, hml, hown, hts, hlk, hini, hkx, hm⟩ := hcx
    have han : a < n := hw.2.1 a (by rw [e3]; exact List.mem_append_right _ List.mem_cons_self)
    obtain ⟨ha, hea⟩ := m_w_obj (base := base) (b := b) (ids := ids) (I := I) (F := F) (R := R) h0 hc.1 han
    have hcv := m_vw_at g6
    have cw : CallW R0 s args (m_own (m_ox μ)) (m_q μ').1.cls i0 (m_q μ').1 (m_q μ').2.1 (m_q μ').2.2.1 (m_q μ').2.2.2.1 (m_ws μ') { frames := d - 1, cells := mc, slots := ms, locals := 34 * (d - 1) } mc ms k := ⟨callB_of k hts (m_good_ws g5) rfl rfl rfl (hts _ g4) (hts _ g1) ⟨g5.2.2.1.2.1, g5.2.2.1.2.2, g5.2.2.2⟩ (m_room g5.1 hc.2.2 hd hloc), hts _ g2, hts _ g3⟩
    refine va_runV (As := as.map (m_cv base b)) (rest := m_cs base b r) (b := m_k base b a) ⟨hx, hbb, hml, m_own_of hm hown, hts⟩ hM cw ⟨m_blind, ?_, fun U hU hW => m_Pc_of hpic hkx hva hU hW⟩ rfl (by rw [List.length_map]; exact e1) hlr.1.1 ?_ (lv_room (m_cat8 hc.2.1)) (m_dec hi nofun rfl) ⟨hmc, hms⟩
    · have := va_recv hkx.1 hpic.1 hcv hea
      rw [← g7]
      exact this
    · show m_cs base b st = _
      rw [e3, m_cs, List.map_append, List.map_reverse]
      rfl
theorem m_stat {ix : Nat} {i0 μ' k z : Nat} {as r : List Value} (hi : m_cd μ pc = .invokestatic ix) (he : m_mtk (m_ox μ) ix = some (i0, 1, μ', k, z)) (hp : m_pop k [] st = some (as, r)) (hb : Nat.ble (m_sl as).length (m_ml μ') = true) (hc : (r.length ≤ 4 ∨ (r.map fun v => v.category).sum ≤ 8) ∧ 1 ≤ d)
    (k0 : m_X l base b L xs ids D lay (d - 1) μ' 0 (m_ent as (m_ml μ')) [] I F R n (fun v I F R n => m_X l base b L xs ids D lay d μ (pc + 3) ls (m_psh v r) I F R n Q)) : m_X l base b L xs ids D lay d μ pc ls st I F R n Q := by
  obtain ⟨⟨g1, g2, g4, g5⟩, hix⟩ := m_mtk_of he
  simp only at hix
  subst hix
  obtain ⟨bs, e1, e2, e3⟩ := m_pop_eq hp
  rw [List.append_nil] at e2
  subst e2
  refine m_call g5 (Nat.le_of_ble_eq_true hb) hc.2 (fun x hx => ?_) (fun x hx => ?_) ?_ k0
  · rw [e3]; exact List.mem_append_left _ (List.mem_reverse.mpr hx)
  · rw [e3]; exact List.mem_append_right _ hx
  · intro hw p e R0 s m args below meth c H locs cells slots rl mc ms Qc hcx hpic hva hlr hd hloc hM hmc hms
    obtain ⟨hx, hbb, hr, hml, hown, hts, hlk, hini, hkx, hm⟩ := hcx
    have cw : CallB R0 s args (m_own (m_ox μ)) i0 (m_q μ').1 (m_q μ').2.1 (m_q μ').2.2.1 (m_q μ').2.2.2.1 (m_ws μ') { frames := d - 1, cells := mc, slots := ms, locals := 34 * (d - 1) } mc ms k ∧ (Cond.static (m_q μ').1).before args s = true := ⟨callB_of k hts (m_good_ws g5) rfl rfl rfl (hts _ g4) (hts _ g1) ⟨g5.2.2.1.2.1, g5.2.2.1.2.2, g5.2.2.2⟩ (m_room g5.1 hc.2 hd hloc), hts _ g2⟩
    refine va_runS (As := as.map (m_cv base b)) (rest := m_cs base b r) ⟨hx, hbb, hml, m_own_of hm hown, hts⟩ hM cw ⟨m_blind, fun U hU hW => m_Pc_of hpic hkx hva hU hW⟩ rfl (by rw [List.length_map]; exact e1) hlr.1.1 ?_ (lv_room (m_cat8 hc.1)) (m_dec hi nofun rfl) ⟨hmc, hms⟩
    show m_cs base b st = _
    rw [e3, m_cs, List.map_append, List.map_reverse]
    rfl
theorem m_spec {ix : Nat} {i0 μ' k z a : Nat} {as r : List Value} (hi : m_cd μ pc = .invokespecial ix) (he : m_mtk (m_ox μ) ix = some (i0, 2, μ', k, z)) (hp : m_pop k [] st = some (as, .ref a :: r)) (hb : Nat.ble (m_sl (.ref a :: as)).length (m_ml μ') = true) (hc : (r.length ≤ 4 ∨ (r.map fun v => v.category).sum ≤ 8) ∧ 1 ≤ d)
    (k0 : m_X l base b L xs ids D lay (d - 1) μ' 0 (m_ent (.ref a :: as) (m_ml μ')) [] I F R n (fun v I F R n => m_X l base b L xs ids D lay d μ (pc + 3) ls (m_psh v r) I F R n Q)) : m_X l base b L xs ids D lay d μ pc ls st I F R n Q := by
  obtain ⟨⟨g1, g2, g4, g5, g6, g7⟩, hix⟩ := m_mtk_of he
  simp only at hix
  subst hix
  obtain ⟨bs, e1, e2, e3⟩ := m_pop_eq hp
  rw [List.append_nil] at e2
  subst e2
  refine m_call g5 (Nat.le_of_ble_eq_true hb) hc.2 (fun x hx => ?_) (fun x hx => ?_) ?_ k0
  · rw [e3]
    rcases List.mem_cons.mp hx with hx | hx
    · rw [hx]; exact List.mem_append_right _ List.mem_cons_self
    · exact List.mem_append_left _ (List.mem_reverse.mpr hx)
  · rw [e3]; exact List.mem_append_right _ (List.mem_cons_of_mem _ hx)
  · intro hw p e R0 s m args below meth c H locs cells slots rl mc ms Qc hcx hpic hva hlr hd hloc hM hmc hms
    obtain ⟨hx, hbb, hr, hml, hown, hts, hlk, hini, hkx, hm⟩ := hcx
    have cb := callB_of k hts (m_good_ws g5) (mc := mc) (ms := ms) (rm := { frames := d - 1, cells := mc, slots := ms, locals := 34 * (d - 1) }) (R := R0) rfl rfl rfl (hts _ g4) (hts _ g1) ⟨g5.2.2.1.2.1, g5.2.2.1.2.2, g5.2.2.2⟩ (m_room g5.1 hc.2 hd hloc)
    rw [g7] at cb
    refine va_runI (As := as.map (m_cv base b)) (rest := m_cs base b r) (b := m_k base b a) ⟨hx, hbb, hml, m_own_of hm hown, hts⟩ hM ⟨cb, g6, hts _ g2⟩ ⟨m_blind, fun U hU hW => m_Pc_of hpic hkx hva hU hW⟩ rfl (by rw [List.length_map]; exact e1) hlr.1.1 ?_ (lv_room (m_cat8 hc.1)) (m_dec hi nofun rfl) ⟨hmc, hms⟩
    show m_cs base b st = _
    rw [e3, m_cs, List.map_append, List.map_reverse]
    rfl
theorem m_specN {ix : Nat} {i0 μ' k z a : Nat} {as r : List Value} (hi : m_cd μ pc = .invokespecial ix) (he : m_mtk (m_ox μ) ix = some (i0, 3, μ', k, z)) (hp : m_pop k [] st = some (as, .ref a :: r)) (hb : Nat.ble (m_sl (.ref a :: as)).length (m_ml μ') = true) (hc : (r.length ≤ 4 ∨ (r.map fun v => v.category).sum ≤ 8) ∧ 1 ≤ d)
    (k0 : m_X l base b L xs ids D lay (d - 1) μ' 0 (m_ent (.ref a :: as) (m_ml μ')) [] I F R n (fun v I F R n => m_X l base b L xs ids D lay d μ (pc + 3) ls (m_psh v r) I F R n Q)) : m_X l base b L xs ids D lay d μ pc ls st I F R n Q := by
  obtain ⟨⟨g1, g2, g4, g5, g6, g7⟩, hix⟩ := m_mtk_of he
  simp only at hix
  subst hix
  obtain ⟨bs, e1, e2, e3⟩ := m_pop_eq hp
  rw [List.append_nil] at e2
  subst e2
  refine m_call g5 (Nat.le_of_ble_eq_true hb) hc.2 (fun x hx => ?_) (fun x hx => ?_) ?_ k0
  · rw [e3]
    rcases List.mem_cons.mp hx with hx | hx
    · rw [hx]; exact List.mem_append_right _ List.mem_cons_self
    · exact List.mem_append_left _ (List.mem_reverse.mpr hx)
  · rw [e3]; exact List.mem_append_right _ (List.mem_cons_of_mem _ hx)
  · intro hw p e R0 s m args below meth c H locs cells slots rl mc ms Qc hcx hpic hva hlr hd hloc hM hmc hms
    obtain ⟨hx, hbb, hr, hml, hown, hts, hlk, hini, hkx, hm⟩ := hcx
    have cb := va_cnB k hts (m_good_ws g5) (mc := mc) (ms := ms) (rm := { frames := d - 1, cells := mc, slots := ms, locals := 34 * (d - 1) }) (R := R0) rfl rfl rfl (hkx.2.1 _ (List.mem_of_getElem? g1)) (hts _ g4) ⟨g5.2.2.1.2.1, g5.2.2.1.2.2, g5.2.2.2⟩ (m_room g5.1 hc.2 hd hloc)
    rw [g7] at cb
    refine va_runIN (As := as.map (m_cv base b)) (rest := m_cs base b r) (b := m_k base b a) ⟨hx, hbb, hml, m_own_of hm hown, hts⟩ hM ⟨cb, g6, hts _ g2⟩ ⟨m_blind, fun U hU hW => m_Pc_of hpic hkx hva hU hW⟩ rfl (by rw [List.length_map]; exact e1) hlr.1.1 ?_ (lv_room (m_cat8 hc.1)) (m_dec hi nofun rfl) ⟨hmc, hms⟩
    show m_cs base b st = _
    rw [e3, m_cs, List.map_append, List.map_reverse]
    rfl
end YC
