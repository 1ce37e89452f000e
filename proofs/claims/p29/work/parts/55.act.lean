-- act: one call that changes, by a number
section ACT
variable {lay : mL} {d e n n' k : Nat} {I I' : mI} {F F' : mF} {R R' : mR} {Q : mP} {st st1 : St} {hs hs' : List St}
/-- what holds of a state after e acts -/
def GD (e : Nat) (st : St) : Prop := Wf st.1 st.2.1 st.2.2 ∧ Wt st.1 st.2.2 ∧ st.2.2.length ≤ e ∧ st.1 119 ≤ e
/-- a change: a refusal changes nothing, and the state behind it is one after an act more -/
def CH (e : Nat) (st : St) (ans : Int32) (st1 : St) : Prop := GD (e + 1) st1 ∧ (ans < nI 0 → st1 = st)
theorem n_nlt (k : Nat) (hk : k < 2147483648) : ¬ nI k < nI 0 := by
  rw [n_lt hk (by omega)]
  omega
theorem CH_set {x y : Int32} (h : GD e st) : CH e st (q_set st.1 x y).1 ((q_set st.1 x y).2, st.2.1, st.2.2) := by
  obtain ⟨h1, h2, h3, h4⟩ := h
  have g := Wf_set (x := x) (y := y) h1
  have g2 := Wt_set (x := x) (y := y) h2 h1
  refine ⟨⟨g, g2, Nat.le_succ_of_le h3, ?_⟩, ?_⟩
  · show (q_set st.1 x y).2 119 ≤ e + 1
    unfold q_set
    by_cases c : okS x y
    · rw [if_pos c]
      have k1 : q_N x < 3 := by
        have o1 := c.1
        have o2 := c.2.1
        rcases n_g x with ⟨k, hk, rfl⟩ | hx
        · rw [n_lt hk (by omega)] at o2
          rw [q_N_n hk]
          exact o2
        · rw [n_g2 hx (by omega)] at o1; exact o1.elim
      show up1 st.1 (q_N x) (q_N y) 119 ≤ e + 1
      rw [up1_miss (by omega)]
      omega
    · rw [if_neg c]
      exact Nat.le_succ_of_le h4
  · unfold q_set
    by_cases c : okS x y
    · rw [if_pos c]
      intro h
      exfalso
      have k1 : q_N x < 3 := by
        have o1 := c.1
        have o2 := c.2.1
        rcases n_g x with ⟨k, hk, rfl⟩ | hx
        · rw [n_lt hk (by omega)] at o2
          rw [q_N_n hk]
          exact o2
        · rw [n_g2 hx (by omega)] at o1; exact o1.elim
      have : st.1 (q_N x) ≤ 100 := by
        have := h1.2.1
        have hh : q_N x = 0 ∨ q_N x = 1 ∨ q_N x = 2 := by omega
        rcases hh with hh | hh | hh <;> rw [hh] <;> omega
      exact n_nlt _ (by omega) h
    · rw [if_neg c]
      exact fun _ => rfl
theorem CH_add {x : Int32} (h : GD e st) : CH e st (q_add st.1 x).1 ((q_add st.1 x).2, st.2.1, st.2.2) := by
  obtain ⟨h1, h2, h3, h4⟩ := h
  have g := Wf_add (x := x) h1
  have g2 := Wt_add (x := x) h2 h1
  refine ⟨⟨g, g2, Nat.le_succ_of_le h3, ?_⟩, ?_⟩
  · show (q_add st.1 x).2 119 ≤ e + 1
    unfold q_add
    repeat' split
    all_goals first
      | exact Nat.le_succ_of_le h4
      | (dsimp only; rw [up1_miss (by omega), up1_miss (by omega)]; exact Nat.le_succ_of_le h4)
  · unfold q_add
    by_cases c : isS x
    · rw [if_pos c]
      by_cases c1 : q_gi st.1 (q_N x) ≠ none
      · rw [if_pos c1]; exact fun _ => rfl
      · rw [if_neg c1]
        by_cases c2 : 16 ≤ st.1 3
        · rw [if_pos c2]; exact fun _ => rfl
        · rw [if_neg c2]
          intro h
          exact absurd h (n_nlt _ (by omega))
    · rw [if_neg c]; exact fun _ => rfl
theorem q_n1_le (g : Option Nat) : q_n1 g ≤ 1 := by
  cases g
  · exact Nat.zero_le _
  · exact Nat.le_refl _
theorem CH_swp {x y : Int32} (h : GD e st) : CH e st (q_swp st.1 x y).1 ((q_swp st.1 x y).2, st.2.1, st.2.2) := by
  obtain ⟨h1, h2, h3, h4⟩ := h
  have g := Wf_swp (x := x) (y := y) h1
  have g2 := Wt_swp (x := x) (y := y) h2 h1
  refine ⟨⟨g, g2, Nat.le_succ_of_le h3, ?_⟩, ?_⟩
  · show (q_swp st.1 x y).2 119 ≤ e + 1
    unfold q_swp
    by_cases c : isS x ∧ isS y
    · rw [if_pos c]
      by_cases c1 : x = y
      · rw [if_pos c1]; exact Nat.le_succ_of_le h4
      · rw [if_neg c1]
        show q_swS st.1 _ _ 119 ≤ e + 1
        rw [q_swS_k h1.1.1 (by omega)]
        exact Nat.le_succ_of_le h4
    · rw [if_neg c]; exact Nat.le_succ_of_le h4
  · unfold q_swp
    by_cases c : isS x ∧ isS y
    · rw [if_pos c]
      by_cases c1 : x = y
      · rw [if_pos c1]; exact fun _ => rfl
      · rw [if_neg c1]
        intro h
        have := q_n1_le (q_gi st.1 (q_N x))
        have := q_n1_le (q_gi st.1 (q_N y))
        exact absurd h (n_nlt _ (by omega))
    · rw [if_neg c]; exact fun _ => rfl
theorem CH_cls {x : Int32} (h : GD e st) : CH e st (q_cls st.1 x).1 ((q_cls st.1 x).2, st.2.1, st.2.2) := by
  obtain ⟨h1, h2, h3, h4⟩ := h
  have g := Wf_cls (x := x) h1
  have g2 := Wt_cls (x := x) h2 h1
  refine ⟨⟨g, g2, Nat.le_succ_of_le h3, ?_⟩, ?_⟩
  · show (q_cls st.1 x).2 119 ≤ e + 1
    unfold q_cls
    by_cases c : isS x
    · rw [if_pos c]
      show up1 st.1 68 (st.1 68 ^^^ 2 ^ q_N x) 119 ≤ e + 1
      rw [up1_miss (by omega)]
      exact Nat.le_succ_of_le h4
    · rw [if_neg c]; exact Nat.le_succ_of_le h4
  · unfold q_cls
    by_cases c : isS x
    · rw [if_pos c]
      intro h
      have := Nat.mod_lt ((st.1 68 ^^^ 2 ^ q_N x) / 2 ^ q_N x) (show 0 < 2 by omega)
      exact absurd h (n_nlt _ (by omega))
    · rw [if_neg c]; exact fun _ => rfl
theorem CH_pick {x : Int32} (h : GD e st) : CH e st (q_pick st.1 st.2.2 x).1 ((q_pick st.1 st.2.2 x).2.1, st.2.1, (q_pick st.1 st.2.2 x).2.2) := by
  obtain ⟨h1, h2, h3, h4⟩ := h
  have g := Wf_pick (x := x) h1
  have g2 := Wt_pick (x := x) h2 h1
  refine ⟨⟨g, g2, ?_, ?_⟩, ?_⟩
  · show (q_pick st.1 st.2.2 x).2.2.length ≤ e + 1
    unfold q_pick
    repeat' split
    · exact Nat.le_succ_of_le h3
    · dsimp only
      rw [List.length_cons]
      omega
    · exact Nat.le_succ_of_le h3
  · show (q_pick st.1 st.2.2 x).2.1 119 ≤ e + 1
    unfold q_pick
    by_cases c : q_err st.1 x = nI 0
    · rw [if_pos c]
      by_cases c1 : 12 ≤ st.1 69
      · rw [if_pos c1]; exact Nat.le_succ_of_le h4
      · rw [if_neg c1]
        show q_pk st.1 (q_N x) (q_len st.1 (q_N x)) (q_unl (q_N x :: st.2.2)) 119 ≤ e + 1
        unfold q_pk
        rw [q_bits_o (by omega), up1_miss (by omega), up1_miss (by omega), q_day_k (by omega) (by omega) (by omega)]
        exact Nat.le_succ_of_le h4
    · rw [if_neg c]; exact Nat.le_succ_of_le h4
  · unfold q_pick
    by_cases c : q_err st.1 x = nI 0
    · rw [if_pos c]
      by_cases c1 : 12 ≤ st.1 69
      · rw [if_pos c1]; exact fun _ => rfl
      · rw [if_neg c1]
        intro h
        have := q_len_le h1.1 h1.2.1.2.2 (q_err_ok h1.1.1 c).1
        exact absurd h (n_nlt _ (by omega))
    · rw [if_neg c]; exact fun _ => rfl
theorem q_night_119 (h1 : Wf st.1 st.2.1 st.2.2) : (q_night st.1 st.2.1).2.1 119 ≤ st.1 119 + 1 := by
  unfold q_night
  by_cases c : 9999 ≤ st.1 119
  · rw [if_pos c]
    exact Nat.le_succ _
  · rw [if_neg c]
    dsimp only
    unfold q_end
    rw [up1_at, up1_miss (by omega), q_nl_k _ _ h1.1.1 _ (by omega)]
    exact Nat.le_refl _
theorem CH_night (h : GD e st) : CH e st (q_night st.1 st.2.1).1 ((q_night st.1 st.2.1).2.1, (q_night st.1 st.2.1).2.2, st.2.2) := by
  obtain ⟨h1, h2, h3, h4⟩ := h
  have g := Wf_night h1
  have g2 := Wt_night h2 h1
  refine ⟨⟨g, g2, Nat.le_succ_of_le h3, ?_⟩, ?_⟩
  · have := q_night_119 h1
    dsimp only
    omega
  · unfold q_night
    by_cases c : 9999 ≤ st.1 119
    · rw [if_pos c]; exact fun _ => rfl
    · rw [if_neg c]
      intro h
      have := (q_nl_w (sp := q_age st.1 st.2.1 (st.1 3)) (st.1 0) st.1 h1.1).2
      have := h1.2.1.1
      exact absurd h (n_nlt _ (by omega))
end ACT
