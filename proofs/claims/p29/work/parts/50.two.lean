-- two objects: o at 1 .. 165, p at 166 .. 330; what is said of o is said of p, under the other naming
section TWO
def sw (a : Nat) : Nat := if a = 0 then 0 else if a ≤ 165 then a + 165 else if a ≤ 330 then a - 165 else a
theorem sw_sw (a : Nat) : sw (sw a) = a := by
  unfold sw
  repeat' split
  all_goals omega
theorem sw_0 : sw 0 = 0 := rfl
theorem sw_hi {a : Nat} (h : 331 ≤ a) : sw a = a := by
  unfold sw
  rw [if_neg (by omega), if_neg (by omega), if_neg (by omega)]
theorem sw_lo {a : Nat} (h : 1 ≤ a) (h2 : a ≤ 165) : sw a = a + 165 := by
  unfold sw
  rw [if_neg (by omega), if_pos h2]
theorem sw_mi {a : Nat} (h : 166 ≤ a) (h2 : a ≤ 330) : sw a = a - 165 := by
  unfold sw
  rw [if_neg (by omega), if_neg (by omega), if_pos h2]
/-- what the layout has to be -/
def HL (lay : mL) : Prop := (∀ a, lay (sw a) = lay a) ∧ (∀ a, 180 ≤ a → lay a = (10, 0) → 331 ≤ a) ∧ ∀ a, 331 ≤ a → lay a = (10, 0)
variable {lay : mL} {d n n' k : Nat} {I I' : mI} {F F' : mF} {R R' : mR} {Q : mP} {S : Nat → Nat} {sp : Nat → UInt32} {hi : List Nat} {nx pl : Nat} {hs : List St} {pc : Nat → Nat} {sv : Nat → Option St}
theorem Cch_lay {p : Nat} (h : Cch lay I R n p hi) (hn : n ≤ n') (hI : ∀ p, 180 ≤ p → p < n → lay p = (10, 0) → I' p = I p ∧ R' p = R p) : Cch lay I' R' n' p hi := by
  induction hi generalizing p with
  | nil => exact h
  | cons b r ih =>
    obtain ⟨h1, h2, h3, h4, h5, h6, h7⟩ := h
    obtain ⟨e1, e2⟩ := hI p h1 h2 h3
    exact ⟨h1, by omega, h3, by rw [e1]; exact h4, by rw [e1]; exact h5, by rw [e1]; exact h6, by rw [e2]; exact ih h7⟩
theorem CSh_lay {a : Nat} (h : CSh lay I F R n a S sp hi) (hs : Same (fun x => (a ≤ x ∧ x ≤ a + 13) ∨ (180 ≤ x ∧ x < n ∧ lay x = (10, 0))) I F R I' F' R') (hn : n ≤ n') : CSh lay I' F' R' n' a S sp hi := by
  obtain ⟨h1, h2, h3, h4, h5, h6⟩ := h
  have hx : ∀ x, x < 14 → I' (a + x) = I (a + x) ∧ F' (a + x) = F (a + x) ∧ R' (a + x) = R (a + x) := fun x hx => hs (a + x) (Or.inl (by omega))
  refine ⟨ISh_off h1 (fun x k h7 h8 _ => ?_), CC_off h2 (fun x k i h7 => ?_), fun s hs => ?_, fun g hg => ?_, ?_, ?_⟩
  · have := (hx (x - a) (by omega)).2.2
    rw [show a + (x - a) = x from by omega] at this
    rw [this]
  · rw [(hx x (cS_lt h7).1).1]
  · rw [(hx 3 (by omega)).1]; exact h3 s hs
  · rw [(hx 4 (by omega)).2.1]; exact h4 g hg
  · have := (hx 0 (by omega)).2.2
    rw [Nat.add_zero] at this
    rw [this]
    exact Cch_lay h5 hn (fun p hp hp2 hp3 => ⟨(hs p (Or.inr ⟨hp, hp2, hp3⟩)).1, (hs p (Or.inr ⟨hp, hp2, hp3⟩)).2.2⟩)
  · have := (hx 0 (by omega)).1
    rw [Nat.add_zero] at this
    rw [this]; exact h6
theorem XS_lay (h : XS lay I F R n S sp hi nx hs pl pc sv) (hm : Same (fun x => (1 ≤ x ∧ x ≤ 165) ∨ (180 ≤ x ∧ x < n ∧ lay x = (10, 0))) I F R I' F' R') (hn : n ≤ n') : XS lay I' F' R' n' S sp hi nx hs pl pc sv := by
  obtain ⟨h1, h2, h3, h4, h5, h6, h7⟩ := h
  have o : ∀ x, 1 ≤ x → x ≤ 165 → I' x = I x ∧ F' x = F x ∧ R' x = R x := fun x h1 h2 => hm x (Or.inl ⟨h1, h2⟩)
  have oo : ∀ (a : Nat), 1 ≤ a → a + 13 ≤ 165 → Same (fun x => (a ≤ x ∧ x ≤ a + 13) ∨ (180 ≤ x ∧ x < n ∧ lay x = (10, 0))) I F R I' F' R' := fun a ha ha2 x hx => by
    rcases hx with hx | hx
    · exact o x (by omega) (by omega)
    · exact hm x (Or.inr hx)
  refine ⟨XL_sm h1 (fun x hx => (o x (by omega) (by omega)).2.2), fun a ha => ?_, CSh_lay h3 (oo 2 (by omega) (by omega)) hn, ?_, PD_sm h5 (o 33 (by omega) (by omega)).1 (o 34 (by omega) (by omega)).1, ?_, by omega⟩
  · refine ISh_off (h2 a ha) fun x k h8 h9 _ => ?_
    rw [(o x (by unfold isSd at ha; omega) (by unfold isSd at ha; omega)).2.2]
  · obtain ⟨g1, g2, g3, g4, g5⟩ := h4
    have e := (o 36 (by omega) (by omega)).1
    refine ⟨by rw [e]; exact g1, by rw [e]; exact g2, g3, g4, fun j st hj => CSh_lay (g5 j st hj) (oo _ (by omega) ?_) hn⟩
    have : (nx + 7 - hs.length + j) % 7 < 7 := Nat.mod_lt _ (by decide)
    omega
  · intro k hk
    obtain ⟨g1, g2⟩ := h6 k hk
    rw [(o 165 (by omega) (by omega)).1]
    exact ⟨g1, fun st e => CSh_lay (g2 st e) (oo _ (by omega) (by omega)) hn⟩
/-- one object, of an empty pad -/
def YS (lay : mL) (st : St) (hs : List St) (I : mI) (F : mF) (R : mR) (n : Nat) : Prop := ∃ (nx : Nat) (pc : Nat → Nat) (sv : Nat → Option St), XS lay I F R n st.1 st.2.1 st.2.2 nx hs 0 pc sv
/-- both -/
def TW (lay : mL) (st : St) (hs : List St) (st' : St) (hs' : List St) (I : mI) (F : mF) (R : mR) (n : Nat) : Prop := 331 ≤ n ∧ YS lay st hs I F R n ∧ YS lay st' hs' (rI sw I) (rI sw F) (rR sw sw R) n
variable {st st' st1 : St} {hs' hs1 : List St}
theorem TW_sw (h : TW lay st hs st' hs' I F R n) : TW lay st' hs' st hs (rI sw I) (rI sw F) (rR sw sw R) n := by
  obtain ⟨h1, h2, h3⟩ := h
  refine ⟨h1, h3, ?_⟩
  rw [rI_I sw_sw, rI_I sw_sw, rR_R sw_sw]
  exact h2
theorem TW_o (hl : HL lay) (h : TW lay st hs st' hs' I F R n) (X : YS lay st1 hs1 I' F' R' n') (hf : FrM n I F R I' F' R') (hn : n ≤ n') : TW lay st1 hs1 st' hs' I' F' R' n' := by
  obtain ⟨h1, h2, nx, pc, sv, h3⟩ := h
  refine ⟨by omega, X, nx, pc, sv, XS_lay h3 (fun x hx => ?_) hn⟩
  have hy : sw x < n ∧ 166 ≤ sw x := by
    rcases hx with hx | ⟨hx1, hx2, hx3⟩
    · rw [sw_lo hx.1 hx.2]; omega
    · have := hl.2.1 x hx1 hx3
      rw [sw_hi this]; omega
  obtain ⟨e1, e2, e3⟩ := hf (sw x) ⟨hy.1, Or.inr hy.2⟩
  refine ⟨e1, e2, ?_⟩
  funext k
  exact congrArg sw (congrFun e3 k)
/-- a call on o: its answer, its state behind it, and how many objects it may make -/
def K1 (lay : mL) (d μ : Nat) (args : List Value) (st : St) (hs : List St) (k : Nat) (v : Option Value) (st1 : St) (hs1 : List St) : Prop := ∀ (st' : St) (hs' : List St) (I : mI) (F : mF) (R : mR) (n : Nat) (Q : mP), TW lay st hs st' hs' I F R n → (∀ I' F' R' n', n ≤ n' → n' ≤ n + k → I' 0 = I 0 → TW lay st1 hs1 st' hs' I' F' R' n' → Q v I' F' R' n') → Ev lay d μ 0 (.ref 1 :: args) [] I F R n Q
def K2 (lay : mL) (d μ : Nat) (args : List Value) (st : St) (hs : List St) (k : Nat) (v : Option Value) (st1 : St) (hs1 : List St) : Prop := ∀ (st' : St) (hs' : List St) (I : mI) (F : mF) (R : mR) (n : Nat) (Q : mP), TW lay st' hs' st hs I F R n → (∀ I' F' R' n', n ≤ n' → n' ≤ n + k → I' 0 = I 0 → TW lay st' hs' st1 hs1 I' F' R' n' → Q v I' F' R' n') → Ev lay d μ 0 (.ref 166 :: args) [] I F R n Q
theorem RH_sw (hl : HL lay) : RH sw sw lay lay (fun n => n) 331 := ⟨sw_sw, sw_sw, sw_0, fun a => Or.inl (hl.1 a).symm, fun m hm _ => ⟨(sw_hi hm).symm, rfl⟩⟩
theorem K_sw {μ : Nat} {args : List Value} {v : Option Value} (hl : HL lay) (h : K1 lay d μ args st hs k v st1 hs1) (ha : args.map (vs sw) = args) (hv : v.map (vs sw) = v) : K2 lay d μ args st hs k v st1 hs1 := by
  intro st' hs' I F R n Q T hQ
  have key := h st' hs' (rI sw I) (rI sw F) (rR sw sw R) n (fun v I F R n => Q (v.map (vs sw)) (rI sw I) (rI sw F) (rR sw sw R) n) (TW_sw T) (fun I' F' R' n' h1 h2 h3 T' => by
    rw [hv]
    refine hQ _ _ _ n' h1 h2 ?_ (TW_sw T')
    show I' (sw 0) = I 0
    rw [sw_0, h3]
    rfl)
  have k2 := reloc (RH_sw hl) T.1 key
  rw [List.map_cons, vs_r, show sw 1 = 166 from rfl, ha, rI_I sw_sw, rI_I sw_sw, rR_R sw_sw] at k2
  refine ev_to k2 ?_
  rintro v1 I1 F1 R1 n1 ⟨m, h1, rfl, h3⟩
  rw [rI_I sw_sw, rI_I sw_sw, rR_R sw_sw] at h3
  have : (v1.map (vs sw)).map (vs sw) = v1 := by
    cases v1 with
    | none => rfl
    | some w => exact congrArg some (vs_vs sw_sw w)
  rw [this] at h3
  exact h3
end TWO
