-- a night of at most one swap, as numbers
section NIGHTP
variable {S T : Nat → Nat} {sp : Nat → UInt32} {hi : List Nat} {e : Nat} {st : St}
/-- rows that are the same but for how many swaps a night may do, and for what is counted -/
def Eq0 (S T : Nat → Nat) : Prop := ∀ i, i ≠ 0 → (i < 68 → i % 4 ≠ 3 ∨ i = 3) → T i = S i
theorem Eq0_gi (h : Eq0 S T) (x : Nat) : q_gi T x = q_gi S x := by
  unfold q_gi
  rw [h 3 (by omega) (by omega)]
  exact q_gin_eq fun g _ => h _ (by omega) (by omega)
theorem Eq0_ex (h : Eq0 S T) (s o : Nat) : Eq0 (q_exS S s o) (q_exS T s o) := by
  intro i h1 h2
  have mv : ∀ (A B : Nat → Nat) (g : Option Nat) (x : Nat), B i = A i → q_mv B g x i = q_mv A g x i := by
    intro A B g x hAB
    cases g with
    | none => exact hAB
    | some g =>
      by_cases e : i = 4 + 4 * g
      · exact (up1_hit e).trans (up1_hit e).symm
      · exact (up1_miss e).trans (hAB.trans (up1_miss e).symm)
  unfold q_exS
  rw [Eq0_gi h, Eq0_gi h]
  exact mv _ _ _ _ (mv _ _ _ _ (h i h1 h2))
theorem Eq0_wsum (h : Eq0 S T) (k : Nat) : q_wsum T sp k = q_wsum S sp k := by
  induction k with
  | zero => rfl
  | succ k ih => rw [q_wsum, q_wsum, ih, h 2 (by omega) (by omega), h (4 + 4 * k) (by omega) (by omega)]
theorem Eq0_pos (h : Eq0 S T) : q_pos T = q_pos S := funext fun g => h _ (by omega) (by omega)
theorem Eq0_len (h : Eq0 S T) (b : Nat) : q_len T b = q_len S b := by
  unfold q_len
  rw [Eq0_pos h, h 2 (by omega) (by omega)]
theorem Eq0_tws (h : Eq0 S T) (k : Nat) : q_tws T k = q_tws S k := by
  induction k with
  | zero => rfl
  | succ k ih => rw [q_tws, q_tws, ih, Eq0_len h, h (71 + 2 * k) (by omega) (by omega)]
theorem Eq0_bp (h : Eq0 S T) (m : Nat) : q_bp T sp m = q_bp S sp m := by
  induction m with
  | zero =>
    show (none, _) = (none, _)
    rw [h 3 (by omega) (by omega), Eq0_wsum h]
  | succ m ih =>
    rw [q_bp, q_bp, ih]
    unfold q_mm q_wo
    rw [Eq0_gi h, Eq0_gi h, h 68 (by omega) (by omega), h 69 (by omega) (by omega), h 3 (by omega) (by omega), Eq0_wsum (Eq0_ex h _ _), Eq0_tws (Eq0_ex h _ _), Eq0_tws h]
theorem Eq0_age (h : Eq0 S T) : q_age T sp (T 3) = q_age S sp (S 3) := by
  funext g
  unfold q_age
  rw [h 3 (by omega) (by omega), h 1 (by omega) (by omega), h (5 + 4 * g) (by omega) (by omega)]
theorem Eq0_up {v : Nat} : Eq0 S (up1 S 0 v) := fun i h1 _ => up1_miss h1
theorem Eq0_ct {g : Option Nat} (h : ∀ x, g = some x → x < 16) : Eq0 S (q_ct S g) := by
  intro i h1 h2
  cases g with
  | none => rfl
  | some g =>
    have := h g rfl
    refine up1_miss fun e => ?_
    subst e
    have := h2 (by omega)
    omega
theorem Eq0_trans {U : Nat → Nat} (h : Eq0 S T) (h2 : Eq0 T U) : Eq0 S U := fun i h1 h3 => (h2 i h1 h3).trans (h i h1 h3)
theorem Eq0_sw {s o : Nat} (w1 : S 3 ≤ 16) : Eq0 (q_exS S s o) (q_swS S s o) := by
  have e3 : q_exS S s o 3 = S 3 := q_exS_k (by omega)
  have hg : ∀ y x, q_gi (q_exS S s o) y = some x → x < 16 := fun y x h => by
    have := q_gi_lt h
    omega
  exact Eq0_trans (Eq0_ct (hg s)) (Eq0_ct (hg o))
theorem q_bp_spec {m p : Nat} (h : (q_bp S sp m).1 = some p) : p / 30 < p % 30 ∧ q_mm S (p / 30) (p % 30) ∧ q_tws (q_exS S (p / 30) (p % 30)) (S 69) ≤ q_tws S (S 69) := by
  induction m with
  | zero => cases h
  | succ m ih =>
    rw [q_bp] at h
    split at h
    · rename_i c
      cases h
      exact ⟨c.1.1, c.1.2, c.2.2⟩
    · exact ih h
theorem q_exS_same (w : Wsh S) (s : Nat) : q_exS S s s = S := by
  unfold q_exS
  cases h : q_gi S s with
  | none => rfl
  | some g =>
    have h2 := (q_gin_some h).2
    have u : up1 S (4 + 4 * g) s = S := by
      funext i
      by_cases e : i = 4 + 4 * g
      · rw [up1_hit e, e]; exact h2.symm
      · exact up1_miss e
    show up1 (up1 S (4 + 4 * g) s) (4 + 4 * g) s = S
    rw [u, u]
theorem q_exS_sym (S : Nat → Nat) (s o : Nat) : q_exS S o s = q_exS S s o := q_mv_comm
theorem q_nx_eq {f f' : Nat → Nat} {b k : Nat} (h : ∀ g, g < k → f' g = f g) : q_nx f' b k = q_nx f b k := by
  induction k with
  | zero => rfl
  | succ k ih =>
    rw [q_nx, q_nx, ih (fun g hg => h g (by omega))]
    cases e : q_nx f b k with
    | none => rfl
    | some g =>
      have := (q_nx_bit e).1
      simp only
      rw [h k (by omega), h g (by omega)]
theorem q_wl_eq {c : Nat} {p p' : Nat → Nat} (h : ∀ g, g < 16 → p' g = p g) (k : Nat) : ∀ b s, q_wl c p' k b s = q_wl c p k b s := by
  induction k with
  | zero => intro b s; rfl
  | succ k ih =>
    intro b s
    rw [q_wl, q_wl, q_nx_eq (f := fun g => q_stp c s (p g)) (f' := fun g => q_stp c s (p' g)) (k := 16) (fun g hg => by rw [h g hg])]
    cases e : q_nx (fun g => q_stp c s (p g)) b 16 with
    | none => rfl
    | some g =>
      have := (q_nx_bit e).1
      simp only
      rw [h g (by omega), ih]
theorem q_len_eq {b : Nat} (h2 : T 2 = S 2) (h : ∀ g, g < 16 → T (4 + 4 * g) = S (4 + 4 * g)) : q_len T b = q_len S b := by
  unfold q_len
  rw [h2, q_wl_eq (p := q_pos S) (p' := q_pos T) h]
/-- the walks of yesterday's baskets as the goods stand now -/
def q_tnw (S : Nat → Nat) : Nat → Nat
  | 0 => 0
  | k + 1 => q_tnw S k + q_len S (S (95 + 2 * k))
theorem e_end {X : Nat → Nat} (w1 : X 3 ≤ 16) : (∀ k, k ≠ 69 → k ≠ 70 → k ≠ 119 → (k < 95 ∨ 119 ≤ k) → (k < 4 ∨ 68 ≤ k ∨ k % 4 ≠ 1) → q_end X k = X k) ∧ (∀ j, j < 12 → q_end X (95 + 2 * j) = X (71 + 2 * j)) ∧ q_end X 69 = 0 ∧ q_end X 70 = X 69 := by
  refine ⟨?_, ?_, ?_, ?_⟩
  · intro k a1 a2 a3 a4 a5
    unfold q_end
    rw [up1_miss a3]
    unfold q_zp
    have o3 : up1 (q_oldS X) 69 0 3 = X 3 := by
      rw [up1_miss (by omega)]
      unfold q_oldS
      rw [if_neg (by omega), if_neg (by omega)]
    rw [if_neg (by omega), up1_miss a1]
    unfold q_oldS
    rw [if_neg a2, if_neg (by omega)]
  · intro j hj
    unfold q_end
    rw [up1_miss (by omega)]
    unfold q_zp
    rw [if_neg (by omega), up1_miss (by omega)]
    unfold q_oldS
    rw [if_neg (by omega), if_pos (by omega)]
    congr 1
    omega
  · unfold q_end
    rw [up1_miss (by omega)]
    unfold q_zp
    rw [if_neg (by omega), up1_at]
  · unfold q_end
    rw [up1_miss (by omega)]
    unfold q_zp
    rw [if_neg (by omega), up1_miss (by omega)]
    unfold q_oldS
    rw [if_pos rfl]
theorem q_tnw_end {X : Nat → Nat} (w1 : X 3 ≤ 16) (k : Nat) (hk : k ≤ 12) : q_tnw (q_end X) k = q_tws X k := by
  obtain ⟨e1, e2, -, -⟩ := e_end w1
  induction k with
  | zero => rfl
  | succ k ih => rw [q_tnw, q_tws, ih (by omega), e2 k (by omega), q_len_eq (S := X) (e1 2 (by omega) (by omega) (by omega) (by omega) (by omega)) fun g hg => e1 _ (by omega) (by omega) (by omega) (by omega) (by omega)]
theorem q_tws_eq {k : Nat} (hk : k ≤ 12) (h2 : T 2 = S 2) (h : ∀ g, g < 16 → T (4 + 4 * g) = S (4 + 4 * g)) (hb : ∀ j, j < 12 → T (71 + 2 * j) = S (71 + 2 * j)) : q_tws T k = q_tws S k := by
  induction k with
  | zero => rfl
  | succ k ih => rw [q_tws, q_tws, ih (by omega), hb k (by omega), q_len_eq h2 h]
def q_m1 (S : Nat → Nat) : Nat := if S 0 = 0 then 0 else 1
/-- what is told ahead -/
def q_bs (S : Nat → Nat) (sp : Nat → UInt32) : Option Nat := (q_bp S (q_age S sp (S 3)) 900).1
theorem night_X {X : Nat → Nat} {dn : Nat} (w1 : S 3 ≤ 16) (d1 : S 69 ≤ 12) (x3 : X 3 = S 3) (xh : ∀ k, 68 ≤ k → X k = S k) (x2 : X 2 = S 2) {S2 : Nat → Nat} (h : S2 = q_end (up1 X 121 (X 121 + dn))) : S2 121 = S 121 + dn ∧ S2 69 = 0 ∧ S2 70 = S 69 ∧ q_tnw S2 (S 69) = q_tws X (S 69) ∧ ∀ x, q_gi S2 x = q_gi X x := by
  subst h
  have u3 : up1 X 121 (X 121 + dn) 3 = X 3 := up1_miss (by omega)
  obtain ⟨e1, e2, e3, e4⟩ := e_end (X := up1 X 121 (X 121 + dn)) (by omega)
  refine ⟨?_, e3, ?_, ?_, fun x => ?_⟩
  · rw [e1 121 (by omega) (by omega) (by omega) (by omega) (by omega), up1_at, xh 121 (by omega)]
  · rw [e4, up1_miss (by omega), xh 69 (by omega)]
  · rw [q_tnw_end (by omega) _ d1, q_tws_eq (S := X) d1 (up1_miss (by omega)) (fun g hg => up1_miss (by omega)) (fun j hj => up1_miss (by omega))]
  · unfold q_gi
    rw [e1 3 (by omega) (by omega) (by omega) (by omega) (by omega), u3]
    exact q_gin_eq fun g hg => by rw [e1 _ (by omega) (by omega) (by omega) (by omega) (by omega), up1_miss (by omega)]
theorem night_p (G : GD e st) (he : e ≤ 50) : ∃ (S2 : Nat → Nat) (sp2 : Nat → UInt32) (dn : Nat), q_night (up1 st.1 0 (q_m1 st.1)) st.2.1 = (nI dn, S2, sp2) ∧ dn = (if st.1 0 = 0 ∨ q_bs st.1 st.2.1 = none then 0 else 1) ∧ S2 121 = st.1 121 + dn ∧ S2 69 = 0 ∧ S2 70 = st.1 69 ∧ (dn = 0 → q_tnw S2 (st.1 69) = q_tws st.1 (st.1 69)) ∧ q_tnw S2 (st.1 69) ≤ q_tws st.1 (st.1 69) ∧ ∀ p, q_bs st.1 st.2.1 = some p → dn = 1 → q_gi S2 (p % 30) = q_gi st.1 (p / 30) ∧ q_gi S2 (p / 30) = q_gi st.1 (p % 30) := by
  obtain ⟨wf, wt, hl, hn⟩ := G
  have w1 := wf.1.1
  have d1 := wf.2.2.2.1.1
  have E1 : Eq0 st.1 (up1 st.1 0 (q_m1 st.1)) := Eq0_up
  have n119 : up1 st.1 0 (q_m1 st.1) 119 = st.1 119 := up1_miss (by omega)
  have e0 : up1 st.1 0 (q_m1 st.1) 0 = q_m1 st.1 := up1_at
  have ea := Eq0_age (sp := st.2.1) E1
  have eb := Eq0_bp (sp := q_age st.1 st.2.1 (st.1 3)) E1 900
  have wA : Wsh (up1 st.1 0 (q_m1 st.1)) := Wsh_eq wf.1 (up1_miss (by omega)) fun g _ => up1_miss (by omega)
  unfold q_night
  rw [if_neg (by omega), ea, e0]
  -- no swap
  have none0 : (q_nl (q_age st.1 st.2.1 (st.1 3)) (q_m1 st.1) (up1 st.1 0 (q_m1 st.1))) = (0, up1 st.1 0 (q_m1 st.1)) → (st.1 0 = 0 ∨ q_bs st.1 st.2.1 = none) → ∃ (S2 : Nat → Nat) (sp2 : Nat → UInt32) (dn : Nat), (nI (q_nl (q_age st.1 st.2.1 (st.1 3)) (q_m1 st.1) (up1 st.1 0 (q_m1 st.1))).1, q_end (up1 (q_nl (q_age st.1 st.2.1 (st.1 3)) (q_m1 st.1) (up1 st.1 0 (q_m1 st.1))).2 121 ((q_nl (q_age st.1 st.2.1 (st.1 3)) (q_m1 st.1) (up1 st.1 0 (q_m1 st.1))).2 121 + (q_nl (q_age st.1 st.2.1 (st.1 3)) (q_m1 st.1) (up1 st.1 0 (q_m1 st.1))).1)), q_age st.1 st.2.1 (st.1 3)) = (nI dn, S2, sp2) ∧ dn = (if st.1 0 = 0 ∨ q_bs st.1 st.2.1 = none then 0 else 1) ∧ S2 121 = st.1 121 + dn ∧ S2 69 = 0 ∧ S2 70 = st.1 69 ∧ (dn = 0 → q_tnw S2 (st.1 69) = q_tws st.1 (st.1 69)) ∧ q_tnw S2 (st.1 69) ≤ q_tws st.1 (st.1 69) ∧ ∀ p, q_bs st.1 st.2.1 = some p → dn = 1 → q_gi S2 (p % 30) = q_gi st.1 (p / 30) ∧ q_gi S2 (p / 30) = q_gi st.1 (p % 30) := by
    intro hr hc
    rw [hr]
    obtain ⟨f1, f2, f3, f4, f5⟩ := night_X (S := st.1) (X := up1 st.1 0 (q_m1 st.1)) (dn := 0) w1 d1 (up1_miss (by omega)) (fun k hk => up1_miss (by omega)) (up1_miss (by omega)) rfl
    rw [Eq0_tws E1] at f4
    exact ⟨_, _, 0, rfl, (if_pos hc).symm, f1, f2, f3, fun _ => f4, Nat.le_of_eq f4, fun p _ h => absurd h (by omega)⟩
  by_cases c0 : st.1 0 = 0
  · have m0 : q_m1 st.1 = 0 := if_pos c0
    exact none0 (by rw [m0]; rfl) (Or.inl c0)
  · have m0 : q_m1 st.1 = 1 := if_neg c0
    have ob : q_bs st.1 st.2.1 = none ∨ ∃ p, q_bs st.1 st.2.1 = some p := by
      cases q_bs st.1 st.2.1 with
      | none => exact Or.inl rfl
      | some p => exact Or.inr ⟨p, rfl⟩
    rcases ob with hb | ⟨p, hb⟩
    · refine none0 ?_ (Or.inr hb)
      rw [m0] at eb ⊢
      rw [q_nl, eb]
      unfold q_bs at hb
      rw [hb]
    · have hp := q_bp_spec hb
      have hlt := q_bp_lt hb
      have hr : q_nl (q_age st.1 st.2.1 (st.1 3)) (q_m1 st.1) (up1 st.1 0 (q_m1 st.1)) = (1, q_swS (up1 st.1 0 (q_m1 st.1)) (p / 30) (p % 30)) := by
        rw [m0] at eb ⊢
        rw [q_nl, eb]
        have hb' := hb
        unfold q_bs at hb'
        rw [hb']
        rfl
      rw [hr]
      have w1' : up1 st.1 0 (q_m1 st.1) 3 ≤ 16 := by rw [up1_miss (by omega)]; exact w1
      have E2 := Eq0_trans (Eq0_ex E1 (p / 30) (p % 30)) (Eq0_sw (s := p / 30) (o := p % 30) w1')
      obtain ⟨f1, f2, f3, f4, f5⟩ := night_X (S := st.1) (X := q_swS (up1 st.1 0 (q_m1 st.1)) (p / 30) (p % 30)) (dn := 1) w1 d1 (by rw [q_swS_k w1' (by omega)]; exact up1_miss (by omega)) (fun k hk => by rw [q_swS_k w1' (by omega)]; exact up1_miss (by omega)) (by rw [q_swS_k w1' (by omega)]; exact up1_miss (by omega)) rfl
      rw [Eq0_tws E2] at f4
      refine ⟨_, _, 1, rfl, (if_neg (by rintro (h | h); exact c0 h; rw [hb] at h; cases h)).symm, f1, f2, f3, fun h => absurd h (by omega), by rw [f4]; exact hp.2.2, fun q hq _ => ?_⟩
      rw [hb] at hq
      cases hq
      rw [f5, f5, Eq0_gi E2, Eq0_gi E2, q_gi_ex wf.1, q_gi_ex wf.1]
      unfold q_tau
      rw [if_pos rfl, if_neg (by have := hp.1; omega), if_pos rfl]
      exact ⟨rfl, rfl⟩
end NIGHTP
