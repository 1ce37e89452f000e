section WF
variable {S : Nat → Nat} {sp : Nat → UInt32} {hi : List Nat}
/-- what holds of every state -/
def Wf (S : Nat → Nat) (sp : Nat → UInt32) (hi : List Nat) : Prop :=
  Wsh S ∧ (S 0 ≤ 9 ∧ S 1 ≤ 100 ∧ S 2 ≤ 9) ∧ S 68 < 1073741824 ∧ dOK S ∧ (S 70 ≤ 12 ∧ ∀ k, k < S 70 → bOK S (S (95 + 2 * k))) ∧ S 119 ≤ 9999 ∧ (∀ g, g < 16 → S (5 + 4 * g) ≤ S 69 ∧ (S 3 ≤ g → S (5 + 4 * g) = 0)) ∧ spOK (S 119) sp (S 3) ∧ (∀ x, x ∈ hi → x < 65536) ∧ S 122 = q_unl hi ∧ (∀ k, k < S 69 → S (71 + 2 * k) ≠ 0) ∧ ∀ k, k < S 70 → S (95 + 2 * k) ≠ 0
theorem bOK_mono {T : Nat → Nat} {b : Nat} (h : bOK S b) (h3 : S 3 ≤ T 3) : bOK T b := ⟨h.1, h.2.1, fun g hg hb => Nat.lt_of_lt_of_le (h.2.2 g hg hb) h3⟩
theorem bOK_eq {T : Nat → Nat} {b b' : Nat} (h : bOK S b) (h3 : S 3 ≤ T 3) (e : b' = b) : bOK T b' := e ▸ bOK_mono h h3
/-- rows that are the same in all that a state's being well formed asks of baskets, nights and picks -/
theorem Wf_eq {T : Nat → Nat} (h : Wf S sp hi) (w : Wsh T) (h3 : T 3 = S 3) (s0 : T 0 ≤ 9) (s1 : T 1 ≤ 100) (s2 : T 2 ≤ 9) (c : T 68 < 1073741824) (hh : ∀ k, 69 ≤ k → T k = S k) (hp : ∀ g, g < 16 → T (5 + 4 * g) = S (5 + 4 * g)) : Wf T sp hi := by
  obtain ⟨h1, h2, hc, hD, hY, hN, hP, hS, hH, hU⟩ := h
  have hD1 := hD.1
  have hY1 := hY.1
  refine ⟨w, ⟨s0, s1, s2⟩, c, ⟨by rw [hh 69 (by omega)]; exact hD.1, fun k hk => ?_⟩, ⟨by rw [hh 70 (by omega)]; exact hY.1, fun k hk => ?_⟩, by rw [hh 119 (by omega)]; exact hN, fun g hg => ?_, ?_, hH, by rw [hh 122 (by omega)]; exact hU.1, fun k hk => ?_, fun k hk => ?_⟩
  · rw [hh 69 (by omega)] at hk
    exact bOK_eq (hD.2 k hk) (by omega) (hh _ (by omega))
  · rw [hh 70 (by omega)] at hk
    exact bOK_eq (hY.2 k hk) (by omega) (hh _ (by omega))
  · rw [hp g hg, hh 69 (by omega), h3]
    exact hP g hg
  · rw [hh 119 (by omega), h3]
    exact hS
  · rw [hh 69 (by omega)] at hk
    rw [hh _ (by omega)]
    exact hU.2.1 k hk
  · rw [hh 70 (by omega)] at hk
    rw [hh _ (by omega)]
    exact hU.2.2 k hk
theorem Wf_set {x y : Int32} (h : Wf S sp hi) : Wf (q_set S x y).2 sp hi := by
  unfold q_set
  by_cases c : okS x y
  · rw [if_pos c]
    have c' := c
    unfold okS at c'
    obtain ⟨k1, k2, k3⟩ : q_N x < 3 ∧ (if q_N x = 1 then q_N y ≤ 100 else q_N y ≤ 9) ∧ True := by
      obtain ⟨o1, o2, o3, o4⟩ := c'
      rcases n_g x with ⟨k, hk, rfl⟩ | hx
      · rcases n_g y with ⟨j, hj, rfl⟩ | hy
        · rw [q_N_n hk, q_N_n hj]
          rw [n_lt hk (by omega)] at o2
          by_cases e : k = 1
          · subst e
            rw [if_pos rfl, n_le hj (by omega)] at o4
            exact ⟨by omega, by rw [if_pos rfl]; exact o4, trivial⟩
          · rw [if_neg (by rw [n_eq hk (by omega)]; exact e), n_le hj (by omega)] at o4
            exact ⟨by omega, by rw [if_neg e]; exact o4, trivial⟩
        · exfalso
          by_cases e : nI k = nI 2
          · rw [if_pos e, n_g2 hy (by omega)] at o3; exact o3
          · rw [if_neg e, n_g2 hy (by omega)] at o3; exact o3
      · rw [n_g2 hx (by omega)] at o1; exact o1.elim
    refine Wf_eq h (Wsh_eq h.1 (up1_miss (by omega)) fun g hg => up1_miss (by omega)) (up1_miss (by omega)) ?_ ?_ ?_ (by dsimp only; rw [up1_miss (by omega)]; exact h.2.2.1) (fun k hk => up1_miss (by omega)) (fun g hg => up1_miss (by omega))
    · by_cases e : 0 = q_N x
      · dsimp only; rw [up1_hit e]; rw [if_neg (by omega)] at k2; exact k2
      · dsimp only; rw [up1_miss e]; exact h.2.1.1
    · by_cases e : 1 = q_N x
      · dsimp only; rw [up1_hit e]; rw [if_pos e.symm] at k2; exact k2
      · dsimp only; rw [up1_miss e]; exact h.2.1.2.1
    · by_cases e : 2 = q_N x
      · dsimp only; rw [up1_hit e]; rw [if_neg (by omega)] at k2; exact k2
      · dsimp only; rw [up1_miss e]; exact h.2.1.2.2
  · rw [if_neg c]; exact h
theorem q_gi_lt16 {s g : Nat} (w1 : S 3 ≤ 16) (h : q_gi S s = some g) : g < 16 := Nat.lt_of_lt_of_le (q_gi_lt h) w1
theorem Wf_sw {s o : Nat} (h : Wf S sp hi) (hs : s < 30) (ho : o < 30) : Wf (q_swS S s o) sp hi := by
  have w1 := h.1.1
  have k := fun k hk => q_swS_k (S := S) (s := s) (o := o) (k := k) w1 hk
  refine Wf_eq h (Wsh_sw h.1 hs ho) (k 3 (by omega)) ?_ ?_ ?_ ?_ (fun j hj => k j (by omega)) (fun g hg => ?_)
  · rw [k 0 (by omega)]; exact h.2.1.1
  · rw [k 1 (by omega)]; exact h.2.1.2.1
  · rw [k 2 (by omega)]; exact h.2.1.2.2
  · rw [k 68 (by omega)]; exact h.2.2.1
  · unfold q_swS
    rw [q_ct_lo (by omega), q_ct_lo (by omega), q_exS_k (by omega)]
theorem Wf_swp {x y : Int32} (h : Wf S sp hi) : Wf (q_swp S x y).2 sp hi := by
  unfold q_swp
  by_cases c : isS x ∧ isS y
  · obtain ⟨k, k1, k2, k3⟩ := isS_to c.1
    obtain ⟨j, j1, j2, j3⟩ := isS_to c.2
    rw [if_pos c]
    by_cases e : x = y
    · rw [if_pos e]; exact h
    · rw [if_neg e, k3, j3]; exact Wf_sw h k1 j1
  · rw [if_neg c]; exact h
theorem Wf_cls {x : Int32} (h : Wf S sp hi) : Wf (q_cls S x).2 sp hi := by
  unfold q_cls
  by_cases c : isS x
  · obtain ⟨k, k1, k2, k3⟩ := isS_to c
    rw [if_pos c, k3]
    have hx : S 68 ^^^ 2 ^ k < 2 ^ 30 := Nat.xor_lt_two_pow (n := 30) h.2.2.1 (Nat.pow_lt_pow_right (by decide) k1)
    refine Wf_eq (T := up1 S 68 (S 68 ^^^ 2 ^ k)) h (Wsh_eq h.1 (up1_miss (by omega)) fun g hg => up1_miss (by omega)) (up1_miss (by omega)) ?_ ?_ ?_ (by rw [up1_at]; exact hx) (fun k hk => up1_miss (by omega)) (fun g hg => up1_miss (by omega))
    · rw [up1_miss (by omega)]; exact h.2.1.1
    · rw [up1_miss (by omega)]; exact h.2.1.2.1
    · rw [up1_miss (by omega)]; exact h.2.1.2.2
  · rw [if_neg c]; exact h
theorem Wf_add {x : Int32} (h : Wf S sp hi) : Wf (q_add S x).2 sp hi := by
  unfold q_add
  by_cases c : isS x
  · rw [if_pos c]
    by_cases c1 : q_gi S (q_N x) ≠ none
    · rw [if_pos c1]; exact h
    · rw [if_neg c1]
      by_cases c2 : 16 ≤ S 3
      · rw [if_pos c2]; exact h
      · rw [if_neg c2]
        obtain ⟨k, k1, k2, k3⟩ := isS_to c
        have cn : q_gi S (q_N x) = none := Decidable.not_not.mp c1
        rw [k3] at cn ⊢
        obtain ⟨⟨w1, w2, w3⟩, h2, hc, hD, hY, hN, hP, hS, hH, hU⟩ := h
        dsimp only
        have f3 : up1 (up1 S (4 + 4 * S 3) k) 3 (S 3 + 1) 3 = S 3 + 1 := up1_at
        have fm : ∀ j, j ≠ 3 → j ≠ 4 + 4 * S 3 → up1 (up1 S (4 + 4 * S 3) k) 3 (S 3 + 1) j = S j := fun j h1 h2 => by rw [up1_miss h1, up1_miss h2]
        have fa : up1 (up1 S (4 + 4 * S 3) k) 3 (S 3 + 1) (4 + 4 * S 3) = k := by rw [up1_miss (by omega), up1_at]
        have hD1 := hD.1
        have hY1 := hY.1
        have pos : ∀ g, g < S 3 + 1 → up1 (up1 S (4 + 4 * S 3) k) 3 (S 3 + 1) (4 + 4 * g) = if g = S 3 then k else S (4 + 4 * g) := by
          intro g hg
          by_cases e : g = S 3
          · subst e; rw [fa, if_pos rfl]
          · rw [if_neg e, fm _ (by omega) (by omega)]
        refine ⟨⟨by rw [f3]; omega, fun g hg => ?_, fun g g' hg hg' e => ?_⟩, ⟨?_, ?_, ?_⟩, ?_, ⟨?_, fun j hj => ?_⟩, ⟨?_, fun j hj => ?_⟩, ?_, fun g hg => ?_, ?_, hH, ?_, fun j hj => ?_, fun j hj => ?_⟩
        · rw [f3] at hg
          rw [pos g hg]
          split
          · exact k1
          · exact w2 g (by omega)
        · rw [f3] at hg hg'
          dsimp only at e
          rw [pos g hg, pos g' hg'] at e
          by_cases e1 : g = S 3
          · rw [if_pos e1] at e
            by_cases e2 : g' = S 3
            · omega
            · rw [if_neg e2] at e
              exact absurd e.symm (q_gin_none cn g' (by omega))
          · rw [if_neg e1] at e
            by_cases e2 : g' = S 3
            · rw [if_pos e2] at e
              exact absurd e (q_gin_none cn g (by omega))
            · rw [if_neg e2] at e
              exact w3 g g' (by omega) (by omega) e
        · rw [fm 0 (by omega) (by omega)]; exact h2.1
        · rw [fm 1 (by omega) (by omega)]; exact h2.2.1
        · rw [fm 2 (by omega) (by omega)]; exact h2.2.2
        · rw [fm 68 (by omega) (by omega)]; exact hc
        · rw [fm 69 (by omega) (by omega)]; exact hD.1
        · rw [fm 69 (by omega) (by omega)] at hj
          exact bOK_eq (hD.2 j hj) (by rw [f3]; omega) (fm _ (by omega) (by omega))
        · rw [fm 70 (by omega) (by omega)]; exact hY.1
        · rw [fm 70 (by omega) (by omega)] at hj
          exact bOK_eq (hY.2 j hj) (by rw [f3]; omega) (fm _ (by omega) (by omega))
        · rw [fm 119 (by omega) (by omega)]; exact hN
        · rw [fm 69 (by omega) (by omega), fm (5 + 4 * g) (by omega) (by omega), f3]
          exact ⟨(hP g hg).1, fun hg2 => (hP g hg).2 (by omega)⟩
        · rw [fm 119 (by omega) (by omega), f3]
          exact fun g hg => ⟨(hS g hg).1, fun hg2 => (hS g hg).2 (by omega)⟩
        · rw [fm 122 (by omega) (by omega)]; exact hU.1
        · rw [fm 69 (by omega) (by omega)] at hj
          rw [fm _ (by omega) (by omega)]; exact hU.2.1 j hj
        · rw [fm 70 (by omega) (by omega)] at hj
          rw [fm _ (by omega) (by omega)]; exact hU.2.2 j hj
  · rw [if_neg c]; exact h
theorem q_day_k {b len k : Nat} (h : k ≠ 69) (h1 : k ≠ 71 + 2 * S 69) (h2 : k ≠ 72 + 2 * S 69) : q_day S b len k = S k := by
  unfold q_day
  rw [up1_miss h, up1_miss h2, up1_miss h1]
theorem Wf_pk {b len : Nat} (h : Wf S sp hi) (hb0 : b ≠ 0) (hb : bOK S b) (hm : S 69 < 12) : Wf (q_pk S b len (q_unl (b :: hi))) sp (b :: hi) := by
  obtain ⟨w, h2, hc, hD, hY, hN, hP, hS, hH, hU⟩ := h
  have w1 := w.1
  have hD1 := hD.1
  have hY1 := hY.1
  have fo : ∀ j, (j < 4 ∨ 68 ≤ j ∨ j % 4 = 0 ∨ j % 4 = 3) → j ≠ 69 → j ≠ 120 → j ≠ 122 → j ≠ 71 + 2 * S 69 → j ≠ 72 + 2 * S 69 → q_pk S b len (q_unl (b :: hi)) j = S j := by
    intro j a1 a2 a3 a4 a5 a6
    unfold q_pk
    rw [q_bits_o (by omega), up1_miss a4, up1_miss a3, q_day_k a2 a5 a6]
  have f69 : q_pk S b len (q_unl (b :: hi)) 69 = S 69 + 1 := by
    unfold q_pk
    rw [q_bits_o (by omega), up1_miss (by omega), up1_miss (by omega)]
    exact up1_at
  have f122 : q_pk S b len (q_unl (b :: hi)) 122 = q_unl (b :: hi) := by
    unfold q_pk
    rw [q_bits_o (by omega), up1_at]
  have fb : q_pk S b len (q_unl (b :: hi)) (71 + 2 * S 69) = b := by
    unfold q_pk
    rw [q_bits_o (by omega), up1_miss (by omega), up1_miss (by omega)]
    unfold q_day
    rw [up1_miss (by omega), up1_miss (by omega), up1_at]
  have f3 := fo 3 (by omega) (by omega) (by omega) (by omega) (by omega) (by omega)
  have f119 := fo 119 (by omega) (by omega) (by omega) (by omega) (by omega) (by omega)
  have f70 := fo 70 (by omega) (by omega) (by omega) (by omega) (by omega) (by omega)
  refine ⟨Wsh_eq w f3 (fun g hg => fo _ (by omega) (by omega) (by omega) (by omega) (by omega) (by omega)), ⟨?_, ?_, ?_⟩, ?_, ⟨by rw [f69]; omega, fun k hk => ?_⟩, ⟨by rw [f70]; exact hY.1, fun k hk => ?_⟩, by rw [f119]; exact hN, fun g hg => ?_, by rw [f119, f3]; exact hS, fun x hx => ?_, f122, fun k hk => ?_, fun k hk => ?_⟩
  · rw [fo 0 (by omega) (by omega) (by omega) (by omega) (by omega) (by omega)]; exact h2.1
  · rw [fo 1 (by omega) (by omega) (by omega) (by omega) (by omega) (by omega)]; exact h2.2.1
  · rw [fo 2 (by omega) (by omega) (by omega) (by omega) (by omega) (by omega)]; exact h2.2.2
  · rw [fo 68 (by omega) (by omega) (by omega) (by omega) (by omega) (by omega)]; exact hc
  · rw [f69] at hk
    by_cases e : k = S 69
    · subst e
      rw [fb]
      exact bOK_mono hb (by omega)
    · exact bOK_eq (hD.2 k (by omega)) (by omega) (fo _ (by omega) (by omega) (by omega) (by omega) (by omega) (by omega))
  · rw [f70] at hk
    exact bOK_eq (hY.2 k hk) (by omega) (fo _ (by omega) (by omega) (by omega) (by omega) (by omega) (by omega))
  · have hg5 := hP g hg
    have e5 : up1 (up1 (q_day S b len) 120 (S 120 + len)) 122 (q_unl (b :: hi)) (5 + 4 * g) = S (5 + 4 * g) := by
      rw [up1_miss (by omega), up1_miss (by omega), q_day_k (by omega) (by omega) (by omega)]
    rw [f69, f3]
    unfold q_pk q_bits
    rw [e5]
    have hbit : b / 2 ^ ((5 + 4 * g - 4) / 4) % 2 < 2 := Nat.mod_lt _ (by decide)
    split
    · exact ⟨by omega, fun hg2 => by omega⟩
    · exact ⟨by omega, hg5.2⟩
  · cases hx with
    | head => exact hb.1
    | tail _ hx => exact hH x hx
  · rw [f69] at hk
    by_cases e : k = S 69
    · subst e
      rw [fb]
      exact hb0
    · rw [fo _ (by omega) (by omega) (by omega) (by omega) (by omega) (by omega)]
      exact hU.2.1 k (by omega)
  · rw [f70] at hk
    rw [fo _ (by omega) (by omega) (by omega) (by omega) (by omega) (by omega)]
    exact hU.2.2 k hk
theorem Wf_pick {x : Int32} (h : Wf S sp hi) : Wf (q_pick S hi x).2.1 sp (q_pick S hi x).2.2 := by
  unfold q_pick
  by_cases c : q_err S x = nI 0
  · rw [if_pos c]
    by_cases c2 : 12 ≤ S 69
    · rw [if_pos c2]; exact h
    · rw [if_neg c2]
      exact Wf_pk h (fun e => by have := (q_err_ok h.1.1 c).2.2; rw [e] at this; exact absurd this (by decide)) (q_err_ok h.1.1 c).1 (by omega)
  · rw [if_neg c]; exact h
theorem Wf_nightOK (h : Wf S sp hi) : nightOK S sp := by
  obtain ⟨w, h2, hc, hD, hY, hN, hP, hS, hH, hU⟩ := h
  have hD1 := hD.1
  refine ⟨w, h2.1, h2.2.1, h2.2.2, hc, hD, by omega, fun hN2 => ⟨fun g hg => (age_le h2.2.1 (by have := (hP g (by have := w.1; omega)).1; omega) hN2 (hS g (by have := w.1; omega)).1).1, fun T t3 t2 wT => (wsum_ok (N := S 119 + 1) (by omega) wT (by omega) fun g hg => ?_).1⟩⟩
  unfold q_age
  by_cases c : g < S 3
  · rw [if_pos c]
    exact (age_le h2.2.1 (by have := (hP g hg).1; omega) hN2 (hS g hg).1).2
  · rw [if_neg c]
    exact fLe_mono (hS g hg).1 (by omega)
theorem q_nl_p (m : Nat) : ∀ S k, k % 4 ≠ 0 → k % 4 ≠ 3 → (q_nl sp m S).2 k = S k := by
  induction m with
  | zero => intro S k _ _; rfl
  | succ m ih =>
    intro S k h0 h3
    rw [q_nl]
    split
    · rfl
    · rename_i p e
      have h1 := ih (q_swS S (p / 30) (p % 30)) k h0 h3
      refine h1.trans ?_
      unfold q_swS
      rw [q_ct_lo (by omega), q_ct_lo (by omega), q_exS_k (by omega)]
theorem Wf_night (h : Wf S sp hi) : Wf (q_night S sp).2.1 (q_night S sp).2.2 hi := by
  unfold q_night
  by_cases c : 9999 ≤ S 119
  · rw [if_pos c]; exact h
  · rw [if_neg c]
    dsimp only
    obtain ⟨w, h2, hc, hD, hY, hN, hP, hS, hH, hU⟩ := h
    have w1 := w.1
    have hD1 := hD.1
    have w' := (q_nl_w (sp := q_age S sp (S 3)) (S 0) S w).1
    have kk := q_nl_k (sp := q_age S sp (S 3)) (S 0) S w.1
    have k5 := q_nl_p (sp := q_age S sp (S 3)) (S 0) S
    generalize (q_nl (q_age S sp (S 3)) (S 0) S) = r at w' kk k5
    generalize hT : up1 r.2 121 (r.2 121 + r.1) = T
    have tk : ∀ k, (k < 4 ∨ 68 ≤ k) → k ≠ 121 → T k = S k := by
      intro k hk h1
      rw [← hT, up1_miss h1]
      exact kk k hk
    have wT : Wsh T := by
      rw [← hT]
      exact Wsh_eq w' (up1_miss (by omega)) fun g hg => up1_miss (by omega)
    have t3 : T 3 = S 3 := tk 3 (by omega) (by omega)
    have e1 : ∀ k, k ≠ 69 → k ≠ 70 → k ≠ 119 → (k < 95 ∨ 119 ≤ k) → (k < 4 ∨ 68 ≤ k ∨ k % 4 ≠ 1) → q_end T k = T k := by
      intro k a1 a2 a3 a4 a5
      unfold q_end
      rw [up1_miss a3]
      unfold q_zp
      rw [if_neg (by omega), up1_miss a1]
      unfold q_oldS
      rw [if_neg a2, if_neg (by omega)]
    have o3 : q_oldS T 3 = T 3 := by
      unfold q_oldS
      rw [if_neg (by omega), if_neg (by omega)]
    have e69 : q_end T 69 = 0 := by
      unfold q_end
      rw [up1_miss (by omega)]
      unfold q_zp
      rw [if_neg (by omega), up1_at]
    have e119 : q_end T 119 = T 119 + 1 := by
      unfold q_end
      rw [up1_at]
    have eold : ∀ k, k = 70 ∨ (95 ≤ k ∧ k < 119) → q_end T k = if k = 70 then T 69 else T (k - 24) := by
      intro k a1
      unfold q_end
      rw [up1_miss (by omega)]
      unfold q_zp
      rw [if_neg (by omega), up1_miss (by omega)]
      unfold q_oldS
      by_cases c : k = 70
      · rw [if_pos c, if_pos c]
      · rw [if_neg c, if_neg c, if_pos (by omega)]
    have ep : ∀ g, g < 16 → q_end T (5 + 4 * g) = if g < S 3 then 0 else T (5 + 4 * g) := by
      intro g hg
      unfold q_end
      rw [up1_miss (by omega)]
      unfold q_zp
      rw [t3]
      by_cases c : g < S 3
      · rw [if_pos (by omega), if_pos c]
      · rw [if_neg (by omega), if_neg c, up1_miss (by omega)]
        unfold q_oldS
        rw [if_neg (by omega), if_neg (by omega)]
    have t69 : T 69 = S 69 := tk 69 (by omega) (by omega)
    have t119 : T 119 = S 119 := tk 119 (by omega) (by omega)
    have q3 : q_end T 3 = S 3 := (e1 3 (by omega) (by omega) (by omega) (by omega) (by omega)).trans t3
    refine ⟨Wsh_eq wT (q3.trans t3.symm) (fun g hg => e1 _ (by omega) (by omega) (by omega) (by omega) (by omega)), ⟨?_, ?_, ?_⟩, ?_, ⟨by rw [e69]; omega, fun k hk => by rw [e69] at hk; omega⟩, ⟨?_, fun k hk => ?_⟩, by rw [e119, t119]; omega, fun g hg => ?_, fun g hg => ?_, hH, ?_, fun k hk => by rw [e69] at hk; omega, fun k hk => ?_⟩
    · rw [e1 0 (by omega) (by omega) (by omega) (by omega) (by omega), tk 0 (by omega) (by omega)]; exact h2.1
    · rw [e1 1 (by omega) (by omega) (by omega) (by omega) (by omega), tk 1 (by omega) (by omega)]; exact h2.2.1
    · rw [e1 2 (by omega) (by omega) (by omega) (by omega) (by omega), tk 2 (by omega) (by omega)]; exact h2.2.2
    · rw [e1 68 (by omega) (by omega) (by omega) (by omega) (by omega), tk 68 (by omega) (by omega)]; exact hc
    · rw [eold 70 (by omega), if_pos rfl, t69]; exact hD.1
    · rw [eold 70 (by omega), if_pos rfl, t69] at hk
      rw [eold _ (by omega), if_neg (by omega), tk _ (by omega) (by omega), show 95 + 2 * k - 24 = 71 + 2 * k by omega]
      exact bOK_mono (hD.2 k hk) (by omega)
    · rw [ep g hg, e69, q3]
      by_cases c : g < S 3
      · rw [if_pos c]; exact ⟨Nat.le_refl _, fun _ => rfl⟩
      · rw [if_neg c]
        have t5 : T (5 + 4 * g) = S (5 + 4 * g) := by
          rw [← hT, up1_miss (by omega)]
          exact k5 _ (by omega) (by omega)
        have := (hP g hg).2 (by omega)
        rw [t5]
        exact ⟨by omega, fun _ => this⟩
    · rw [e119, t119, q3]
      unfold q_age
      refine ⟨?_, fun hg2 => ?_⟩
      · by_cases c : g < S 3
        · rw [if_pos c]
          exact (age_le h2.2.1 (by have := (hP g hg).1; omega) (by omega) (hS g hg).1).2
        · rw [if_neg c]
          exact fLe_mono (hS g hg).1 (by omega)
      · rw [if_neg (by omega)]
        exact (hS g hg).2 hg2
    · rw [e1 122 (by omega) (by omega) (by omega) (by omega) (by omega), tk 122 (by omega) (by omega)]; exact hU.1
    · rw [eold 70 (by omega), if_pos rfl, t69] at hk
      rw [eold _ (by omega), if_neg (by omega), tk _ (by omega) (by omega), show 95 + 2 * k - 24 = 71 + 2 * k by omega]
      exact hU.2.1 k hk
end WF
