/-! THE CLAIM OUT OF ONE WALK OF THE LAW'S BODY. Your part is whole_start (and what it stands on); all else here is the same for every law, but numbers. -/
def R_law : String := "ShelfSlotsLaw"
def lw_P (b : Addr) (xs : List Int32) (args : Array Value) (s : State) : Prop := args = #[.ref b] ∧ s.IntsAt b xs ∧ xs.length ≤ 260 ∧ (Jvm.Cond.and given_1 narrow_1).before args s = true
/-- what a walk over the start with the record d0 says of its end, said of the start itself -/
theorem lw_closed {s t : State} {o : Outcome} {d0 : Drawn} {L : List Loc} {k n : Nat} (hd0 : s.drawn.sameBut d0 lw_cs) (hv : ∃ v, o = .returned v) (hW : (s.setDrawn d0).WarmedH t.vm) (hs : (s.setDrawn d0).sameButNew ({ t with vm := s.vm } : State) L k n) : State.butDraws s t lw_cs (fun t1 => Framed s o t1 L k n) := by
  have h2 : t.drawn = d0 := congrArg State.drawn hs.1
  refine ⟨⟨hv, hW, State.sameButNew.setDrawn hs s.drawn⟩, ?_, by decide⟩
  rw [h2]
  exact hd0
def lw_Q (_ : Array Value) (s : State) (o : Outcome) (t : State) : Prop := o = .returned (some (.int 1)) ∧ State.butDraws s t lw_cs (fun t1 => Framed s o t1 [] 604629 7288360)
def lw_Z (below : List Frame) (a : Array Value) (s : State) : State → Prop := fun t => ∃ o, t.status = .running ∧ Ended t below o ∧ lw_Q a s o t
/-- the law's own end, with 1 on the stack, nothing written that was there before, its room as the claim has it; d0: the record of draws at this point (at the entry s.drawn: begin with 'refine W.base ?_' and 'have hd0 := Drawn.sameBut.refl s.drawn lw_cs') -/
theorem lw_ret {p : Program} {l : Launch} {e : Env} {s : State} {m : MethodId} {below : List Frame} {meth : Method} {c : Code} {b : Nat} {d0 : Drawn} (hd0 : s.drawn.sameBut d0 lw_cs) (hx : p.tables.exec = Jvm.exec) (hb : c.code = code) (hr : meth.sig.returnType = ret) (hlocks : meth.locks = false) {pc : Nat} {H : Heap} {ls : Array Slot} (hdg : decode code pc = .ok (.ireturn, 1)) : W p l e room_1 (s.setDrawn d0) m #[Value.ref b] below meth c H [] 604629 7288360 (lw_Z below #[Value.ref b] s) (F0 m pc ls [.int 1]) := by
  intro T hT X
  obtain ⟨fs, hret, hrun, hended, hW, hframe⟩ := X.leave (v := some (.int 1)) (hlocks := hlocks) (fun h => by rw [hr] at h; cases h)
  have hmeth' : T.vm.method? m = some meth := X.method'
  refine ⟨T.setFrames fs, ?_, .returned (some (.int 1)), hrun, hended, rfl, lw_closed hd0 ⟨_, rfl⟩ hW hframe⟩
  jvm_step X.here [X.here.top, hx, hb, hdg, hmeth', hr, ret, narrow_b1]
  (try refine ⟨rfl, ?_⟩); (try refine ⟨rfl, ?_⟩)
  first | (intro acts; rw [hret _ acts rfl rfl rfl]) | rw [hret _ _ rfl rfl rfl]
  exact Steps.refl _
/-- what holds at the law's entry: the machine, the code, the tables' words (any of lw_tbl by 'hts w (by decide +kernel)'), the script of L ints xs at the cell b, what the Statement gives of the start (any of its parts by flat_of_before) -/
def lw_At (p : Program) (s : State) (m : MethodId) (meth : Method) (c : Code) (b L : Nat) (xs : Nat → Int32) : Prop :=
  p.tables.exec = Jvm.exec ∧ c.code = code ∧ meth.sig.returnType = ret ∧ c.maxLocals = 8 ∧ s.vm.findClass R_law = some m.cls ∧ (∀ w ∈ lw_tbl, w.before #[Value.ref b] s = true) ∧ va_X b L xs s s.heap ∧ b < s.heap.size ∧ meth.locks = false ∧ (Jvm.Cond.and given_1 narrow_1).before #[Value.ref b] s = true
theorem m_inst {ci : Nat} (h : ci < m_cl.length) : Cond.instantiable (m_c ci).1 (m_c ci).2.2.1 ∈ m_wt := by
  match ci, h with
  | 0, _ => exact m_w37
  | 1, _ => exact m_w167
  | 2, _ => exact m_w193
  | 3, _ => exact m_w143
  | 4, _ => exact m_w161
  | 5, _ => exact m_w449
  | 6, _ => exact m_w31
  | 7, _ => exact m_w130
  | 8, _ => exact m_w23
  | k + 9, h => exact absurd h (Nat.not_lt.mpr (Nat.le_add_left _ _))
section ST
theorem m_start {p : Program} {e : Env} {s : State} {m : MethodId} {below : List Frame} {meth : Method} {c : Code} (l : Launch) {b L : Nat} {xs : Nat → Int32} (C0 : lw_At p s m meth c b L xs) {lay : mL} (h0 : lay 0 = (0, L)) {I : mI} {F : mF} (hI : ∀ j, j < L → I 0 j = xs j)
    (hE : Ev lay 9 103 0 [.ref 0, m_j, m_j, m_j, m_j, m_j, m_j, m_j] [] I F (fun _ _ => 0) 1 (fun v _ _ _ n => v = some (.int 1) ∧ n ≤ 604629 ∧ m_sz lay n ≤ 7288360)) : W p l e room_1 s m #[Value.ref b] below meth c s.heap [] 0 0 (lw_Z below #[Value.ref b] s) (entryFrame m ([Value.ref b] : List Value).toArray 8) := by
  obtain ⟨hx, hb, hr, hml, hown, hts, hX, hbl, hlocks, hgv⟩ := C0
  have hwt : ∀ w ∈ m_wt, w.before #[Value.ref b] s = true := fun w hw => hts w (List.mem_filter.mp hw).1
  -- the classes' numbers
  have hcl : ∀ ci : Nat, ∃ cC : ClassId, ∃ iS : Nat → Nat, ci < m_cl.length → u_Kn s (m_c ci).1 (m_c ci).2.1 (m_c ci).2.2.1 cC iS := by
    intro ci
    by_cases h : ci < m_cl.length
    · obtain ⟨cC, iS, hk⟩ := u_known (n := (m_c ci).2.2.1) hwt (m_c_ok h).1 (hwt _ (m_inst h))
      exact ⟨cC, iS, fun _ => hk⟩
    · exact ⟨0, fun _ => 0, fun q => absurd q h⟩
  obtain ⟨dC, hdC⟩ := Classical.skolem.mp hcl
  obtain ⟨dI, hdI⟩ := Classical.skolem.mp hdC
  have harr : ∀ ty, Cond.arrayClass ty ∈ m_wt → refKind ty = false → ∃ cA : ClassId, ArrOfT s cA ty ∧ s.vm.findClass ("[" ++ ty.toString) = some cA := by
    intro ty hw hp
    obtain ⟨cA, kA, comp, h1, h2, h3⟩ := Cond.arrayClass_spec (hwt _ hw)
    exact ⟨cA, fun n z => ⟨fun k h => (by cases h), kA, h2, comp, h3⟩, h1⟩
  obtain ⟨cI, aI, fI⟩ := harr _ m_arr_int rfl
  obtain ⟨cF, aF, fF⟩ := harr _ m_arr_float rfl
  obtain ⟨cZ, aZ, fZ⟩ := harr _ m_arr_boolean rfl
  obtain ⟨cC, aC, fC⟩ := harr _ m_arr_char rfl
  obtain ⟨comp, cS, kS, o1, o2, o3, o4, o5⟩ := Cond.arrayOver_spec (hts _ m_over)
  have hK : va_K (dC, dI) vwCl (m_tys (cI, cF, cZ, cC, cS)) s := by
    refine ⟨fun ci q hq => ?_, fun k q hq => ?_⟩
    · have hl : ci < m_cl.length := by
        have := (List.getElem?_eq_some_iff.mp hq).1
        rw [m_cl_vw, List.length_map] at this
        exact this
      rw [m_vw_at hl] at hq
      cases hq
      exact hdI ci hl
    · match k, hq with
      | 0, hq => cases hq; exact ⟨aI, fI⟩
      | 1, hq => cases hq; exact ⟨aF, fF⟩
      | 2, hq => cases hq; exact ⟨aZ, fZ⟩
      | 3, hq => cases hq; exact ⟨aC, fC⟩
      | 4, hq => cases hq; exact ⟨fun N z => ⟨(fun k h => by cases h), kS, o3, comp, o4⟩, kS, comp, o3, o4, o1, o5⟩
      | k + 5, hq => simp [m_tys] at hq
  obtain ⟨base, hbase⟩ : ∃ base, s.heap.size = base + 1 := ⟨s.heap.size - 1, by omega⟩
  have hcx : m_cx base b L xs (cI, cF, cZ, cC, cS) (dC, dI) p s m #[Value.ref b] meth c 103 := by
    refine ⟨hx, ?_, ?_, ?_, ?_, hwt, hlocks, ?_, ⟨hK, fun q hq => va_Nw.of rfl (hts _ (m_nest_in q hq)), va_AO.of (hts _ m_over), hX, by omega, by omega⟩, m_lt rfl⟩
    · rw [m_q_103]; exact hb
    · unfold m_rt; rw [m_q_103]; exact hr
    · unfold m_ml; rw [m_q_103]; exact hml
    · rw [m_q_103]; exact hown
    · unfold m_ini; rw [m_q_103]; intro h; exact absurd h (by decide)
  have hXX := hE (m_X l base b L xs (cI, cF, cZ, cC, cS) (dC, dI) lay) (fun d μ pc ls st I F R n Q Q' h k hw => by
    obtain ⟨v, I', F', R', n', hq, r⟩ := k hw
    exact ⟨v, I', F', R', n', h _ _ _ _ _ hq, r⟩) (m_sound h0)
  obtain ⟨v, I', F', R', n', ⟨hv, hn, hz⟩, hn1, -, -, hS⟩ := hXX ⟨fun a ha => by
    rcases List.mem_cons.mp ha with ha | ha
    · cases ha; exact Nat.zero_lt_one
    · simp [m_j] at ha, nofun, fun _ _ => Nat.zero_lt_one⟩
  subst hv
  have hpic : m_pic base (cI, cF, cZ, cC, cS) (dC, dI) lay L xs I F (fun _ _ => 0) 1 s.heap := ⟨fun k q hq => by simp [m_w] at hq, hbase, Nat.le_refl 1, hI⟩
  have hk0 : m_k base b 0 = b := rfl
  have hent : entryFrame m ([Value.ref b] : List Value).toArray 8 = F0 m 0 ((lg_sl ([Value.ref 0].map (m_cv base b)) ++ List.replicate (8 - (lg_sl ([Value.ref 0].map (m_cv base b))).length) Slot.unset).toArray) (m_cs base b []) := lg_entry_eq m [.ref b] 8
  rw [hent]
  have hlr : m_lr base b ((lg_sl ([Value.ref 0].map (m_cv base b)) ++ List.replicate (8 - (lg_sl ([Value.ref 0].map (m_cv base b))).length) Slot.unset).toArray) (m_ml 103) [.ref 0, m_j, m_j, m_j, m_j, m_j, m_j, m_j] := by
    have h := m_lr_ent (base := base) (b := b) (as := [.ref 0]) (ml := 8) (by decide)
    have h4 : m_ml 103 = 8 := by unfold m_ml; rw [m_q_103]
    rw [h4]
    exact h
  refine hS p e room_1 s m _ below meth c _ s.heap [] 0 0 _ hcx hpic va_S.rf hlr (by show 0 + (n' - 1) ≤ 604629; omega) (by show 0 + _ ≤ 7288360; omega) (Nat.le_refl 9) (by decide) ?_
  intro pc' H' locs' rl' he hpic' hva'
  refine va_forget (fun q hq => ?_) ?_
  · have : base < q.base := hva'.2.2 q hq
    omega
  · refine W.widen (k := 604629) (n := 7288360) (by omega) (by omega) ?_
    have hd : decode code pc' = .ok (.ireturn, 1) := by
      have := m_dec he.1 nofun rfl
      rw [m_q_103] at this
      exact this
    exact lw_ret (d0 := s.drawn) (Drawn.sameBut.refl s.drawn lw_cs) hx hb hr hlocks hd
end ST
