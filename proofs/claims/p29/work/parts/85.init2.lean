-- both objects as they are made
section INIT2
variable {lay lv : mL} {d n n' : Nat} {I I' : mI} {F F' : mF} {R R' : mR} {Q : mP}
theorem ISh_ly {a : Nat} (e : ∀ x, 1 ≤ x → x ≤ 165 → lay x = lv x) (h1 : 1 ≤ a) (h2 : a + 13 ≤ 165) (h : ISh lv R a) : ISh lay R a := by
  unfold ISh at h ⊢
  rw [e a h1 (by omega), e (a + 1) (by omega) (by omega), e (a + 2) (by omega) (by omega), e (a + 3) (by omega) (by omega), e (a + 4) (by omega) (by omega), e (a + 5) (by omega) (by omega), e (a + 6) (by omega) (by omega), e (a + 7) (by omega) (by omega), e (a + 8) (by omega) (by omega), e (a + 9) (by omega) (by omega), e (a + 10) (by omega) (by omega), e (a + 11) (by omega) (by omega), e (a + 12) (by omega) (by omega), e (a + 13) (by omega) (by omega)]
  exact h
theorem IX_ly (e : ∀ x, 1 ≤ x → x ≤ 165 → lay x = lv x) (h : IX lv I F R) : IX lay I F R := by
  obtain ⟨h1, h2, h3⟩ := h
  refine ⟨?_, fun a ha => ?_, h3⟩
  · unfold XL WK MV at h1 ⊢
    rw [e 1 (by omega) (by omega), e 30 (by omega) (by omega), e 31 (by omega) (by omega), e 32 (by omega) (by omega), e 33 (by omega) (by omega), e 34 (by omega) (by omega), e 35 (by omega) (by omega), e 36 (by omega) (by omega), e 37 (by omega) (by omega), e 136 (by omega) (by omega), e 165 (by omega) (by omega)]
    exact h1
  · obtain ⟨g1, g2⟩ := h2 a ha
    have ha' : 1 ≤ a ∧ a + 13 ≤ 165 := by unfold isSd at ha; omega
    exact ⟨ISh_ly e ha'.1 ha'.2 g1, g2⟩
theorem SL_ly {a : Nat} (e : ∀ x, 1 ≤ x → x ≤ 165 → lay x = lv x) (h1 : 1 ≤ a) (h2 : a + 13 ≤ 165) (h : SL lay a) : SL lv a := by
  unfold SL at h ⊢
  rw [← e a h1 (by omega), ← e (a + 1) (by omega) (by omega), ← e (a + 2) (by omega) (by omega), ← e (a + 3) (by omega) (by omega), ← e (a + 4) (by omega) (by omega), ← e (a + 5) (by omega) (by omega), ← e (a + 6) (by omega) (by omega), ← e (a + 7) (by omega) (by omega), ← e (a + 8) (by omega) (by omega), ← e (a + 9) (by omega) (by omega), ← e (a + 10) (by omega) (by omega), ← e (a + 11) (by omega) (by omega), ← e (a + 12) (by omega) (by omega), ← e (a + 13) (by omega) (by omega)]
  exact h
theorem CL_ly (e : ∀ x, 1 ≤ x → x ≤ 165 → lay x = lv x) (h : CL lay) : CL lv := by
  obtain ⟨c1, c2, c3, c4, c5, c6, c7, c8, c9, c10, c11, c12⟩ := h
  refine ⟨?_, ?_, ?_, ?_, ?_, ?_, ?_, ?_, ?_, ?_, ?_, fun a ha => SL_ly e (by unfold isSd at ha; omega) (by unfold isSd at ha; omega) (c12 a ha)⟩
  · rw [← e 1 (by omega) (by omega)]; exact c1
  · rw [← e 30 (by omega) (by omega)]; exact c2
  · rw [← e 31 (by omega) (by omega)]; exact c3
  · rw [← e 32 (by omega) (by omega)]; exact c4
  · rw [← e 33 (by omega) (by omega)]; exact c5
  · rw [← e 34 (by omega) (by omega)]; exact c6
  · rw [← e 35 (by omega) (by omega)]; exact c7
  · rw [← e 36 (by omega) (by omega)]; exact c8
  · rw [← e 37 (by omega) (by omega)]; exact c9
  · rw [← e 136 (by omega) (by omega)]; exact c10
  · rw [← e 165 (by omega) (by omega)]; exact c11
def lyv (lay : mL) : mL := fun a => if 1 ≤ a ∧ a ≤ 165 then lay a else (5, 1)
theorem RH_new (hl : HL lay) : RH sw sw (lyv lay) lay (fun m => m + 165) 1 := by
  refine ⟨sw_sw, sw_sw, sw_0, fun a => ?_, fun m hm h => ?_⟩
  · unfold lyv
    by_cases c : 1 ≤ a ∧ a ≤ 165
    · rw [if_pos c]; exact Or.inl (hl.1 a).symm
    · rw [if_neg c]; exact Or.inr rfl
  · unfold lyv at h
    by_cases c : 1 ≤ m ∧ m ≤ 165
    · exact ⟨(sw_lo c.1 c.2).symm, show m + 1 + 165 = m + 165 + 1 by omega⟩
    · rw [if_neg c] at h; exact absurd rfl h
theorem i_new2 (hl : HL lay) (hC : CL lay) (hI : ∀ k, I 166 k = nI 0) (hd : 4 ≤ d) (hQ : ∀ I' F' R', IX lay (rI sw I') (rI sw F') (rR sw sw R') → (∀ x, x ≤ 165 → I' x = I x ∧ F' x = F x ∧ R' x = R x) → Q none I' F' R' 331) : Ev lay d 0 0 [.ref 166, m_j] [] I F R 167 Q := by
  have e : ∀ x, 1 ≤ x → x ≤ 165 → lay x = lyv lay x := fun x h1 h2 => by unfold lyv; rw [if_pos ⟨h1, h2⟩]
  have k := i_new (lay := lyv lay) (d := d) (I := rI sw I) (F := rI sw F) (R := rR sw sw R) (Q := fun v I' F' R' n' => v = none ∧ IX (lyv lay) I' F' R' ∧ n' = 166) (CL_ly e hC) (fun k => hI k) hd (fun I' F' R' h _ => ⟨rfl, h, rfl⟩)
  have k2 := reloc (RH_new hl) (by omega) (ev_keep k)
  rw [rI_I sw_sw, rI_I sw_sw, rR_R sw_sw] at k2
  refine ev_to k2 ?_
  rintro v I1 F1 R1 n1 ⟨m, h1, rfl, ⟨hv, hX, rfl⟩, hK⟩
  have hv2 : v = none := by
    cases v with
    | none => rfl
    | some w => cases hv
  subst hv2
  refine hQ I1 F1 R1 (IX_ly e hX) fun x hx => ?_
  have hx5 : lyv lay (sw x) = (5, 1) := by
    have h0 : ¬ (1 ≤ sw x ∧ sw x ≤ 165) := by
      unfold sw
      repeat' split
      all_goals omega
    unfold lyv
    rw [if_neg h0]
  obtain ⟨u1, u2, u3⟩ := hK (sw x) hx5
  have ei : ∀ {α : Type} (I : Nat → Nat → α), rI sw I (sw x) = I x := fun I => by
    show I (sw (sw x)) = I x
    rw [sw_sw]
  rw [ei, ei] at u1 u2
  refine ⟨u1, u2, ?_⟩
  funext j
  have u := congrFun u3 j
  have ej : ∀ R : mR, rR sw sw R (sw x) j = sw (R x j) := fun R => by
    show sw (R (sw (sw x)) j) = sw (R x j)
    rw [sw_sw]
  rw [ej, ej] at u
  rw [← sw_sw (R1 x j), u, sw_sw]
theorem XS_0 (h : IX lay I F R) : XS lay I F R 180 q_S0 (fun _ => 0) [] 0 [] 0 (fun _ => 0) (fun _ => none) := by
  obtain ⟨x1, x2, x3, x4, x5, x6⟩ := h
  exact ⟨x1, fun a ha => (x2 a ha).1, x2 2 (Or.inl rfl), ⟨x3, x4, by omega, Nat.zero_le _, fun j st h => by cases h⟩, ⟨x5, by omega, fun k hk => by omega⟩, fun k hk => ⟨x6 k, fun st h => by cases h⟩, Nat.le_refl _⟩
def st_0 : St := (q_S0, fun _ => 0, [])
theorem TW_0 {I1 : mI} {F1 : mF} {R1 : mR} (ho : IX lay I1 F1 R1) (hp : IX lay (rI sw I) (rI sw F) (rR sw sw R)) (hs : ∀ x, x ≤ 165 → I x = I1 x ∧ F x = F1 x ∧ R x = R1 x) : TW lay st_0 [] st_0 [] I F R 331 := by
  refine ⟨Nat.le_refl _, ⟨0, fun _ => 0, fun _ => none, ?_⟩, ⟨0, fun _ => 0, fun _ => none, ?_⟩⟩
  · refine XS_lay (XS_0 ho) (fun x hx => ?_) (by omega)
    rcases hx with hx | hx
    · exact hs x hx.2
    · omega
  · refine XS_lay (XS_0 hp) (fun x hx => ⟨rfl, rfl, rfl⟩) (by omega)
theorem Wf_0 : Wf q_S0 (fun _ => 0) [] := by
  have z3 : q_S0 3 = 0 := rfl
  have z69 : q_S0 69 = 0 := rfl
  have z70 : q_S0 70 = 0 := rfl
  have z : ∀ i, 3 ≤ i → q_S0 i = 0 := fun i hi => by
    unfold q_S0
    rw [if_neg (by omega), if_neg (by omega), if_neg (by omega)]
  refine ⟨⟨by rw [z3]; omega, fun g hg => by rw [z3] at hg; omega, fun g h hg => by rw [z3] at hg; omega⟩, ⟨by decide, by decide, by decide⟩, by decide, ⟨by rw [z69]; omega, fun k hk => by rw [z69] at hk; omega⟩, ⟨by rw [z70]; omega, fun k hk => by rw [z70] at hk; omega⟩, by decide, fun g hg => ⟨by rw [z _ (by omega)]; omega, fun _ => z _ (by omega)⟩, fun g hg => ⟨fLe_0, fun _ => rfl⟩, fun x hx => (by cases hx), rfl, fun k hk => by rw [z69] at hk; omega, fun k hk => by rw [z70] at hk; omega⟩
theorem Wt_0 : Wt q_S0 [] := by
  have z3 : q_S0 3 = 0 := rfl
  have z69 : q_S0 69 = 0 := rfl
  have z70 : q_S0 70 = 0 := rfl
  have z : ∀ i, 3 ≤ i → q_S0 i = 0 := fun i hi => by
    unfold q_S0
    rw [if_neg (by omega), if_neg (by omega), if_neg (by omega)]
  refine ⟨fun g hg => by rw [z _ (by omega), z _ (by omega)]; exact ⟨Nat.le_refl _, Nat.zero_le _⟩, by rw [z3, z69]; rfl, fun k hk => by rw [z69] at hk; omega, ?_, by rw [z 120 (by omega)]; omega, by rw [z 120 (by omega)]; exact ⟨fun _ => rfl, fun _ => rfl⟩⟩
  rw [z69, z70, z 120 (by omega)]
  exact Nat.le_refl _
theorem GD_0 : GD 0 st_0 := ⟨Wf_0, Wt_0, Nat.le_refl _, by decide⟩
end INIT2
