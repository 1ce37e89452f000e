section TREE
-- the shortest walk: what one more good adds to the way that all of them need
variable {pos : Nat → Nat} {c : Nat}
def q_T (c : Nat) (pos : Nat → Nat) (b : Nat) : Nat := q_th pos b 5 + c * q_la pos b 5
def q_meet (c x y : Nat) : Nat := if x / 6 = y / 6 then 1 + min (x % 6) (y % 6) + c * (y / 6) else 1 + c * min (x / 6) (y / 6)
theorem q_stp_meet {x y : Nat} : q_stp c x y + 2 * q_meet c x y = q_dsk c x + q_dsk c y := by
  unfold q_stp q_meet q_dsk
  by_cases e : x / 6 = y / 6
  · rw [if_pos e, if_pos e, e]
    rcases Nat.le_total (x % 6) (y % 6) with h | h
    · rw [Nat.min_eq_left h]
      split <;> omega
    · rw [Nat.min_eq_right h]
      split <;> omega
  · rw [if_neg e, if_neg e]
    rcases Nat.le_total (x / 6) (y / 6) with h | h
    · rw [Nat.min_eq_left h]
      obtain ⟨z, hz⟩ := Nat.exists_eq_add_of_le h
      by_cases e2 : y / 6 ≤ x / 6
      · omega
      · have h1 : c * (x / 6 + z) = c * (x / 6) + c * z := Nat.mul_add _ _ _
        rw [if_neg e2, hz, Nat.add_sub_cancel_left, h1]
        omega
    · rw [Nat.min_eq_right h]
      obtain ⟨z, hz⟩ := Nat.exists_eq_add_of_le h
      have h1 : c * (y / 6 + z) = c * (y / 6) + c * z := Nat.mul_add _ _ _
      rw [if_pos h, hz, Nat.add_sub_cancel_left, h1]
      omega
theorem lp_x {s l A k : Nat} (hl : s / 2 ^ l % 2 = 1) : q_lp pos s A k = if l < k ∧ pos l / 6 = A then some (match q_lp pos (s ^^^ 2 ^ l) A k with
    | none => pos l % 6
    | some m => max m (pos l % 6)) else q_lp pos (s ^^^ 2 ^ l) A k := by
  induction k with
  | zero => rw [if_neg (by omega)]; rfl
  | succ k ih =>
    rw [q_lp, ih]
    have hx := b_xor s l k
    by_cases e : k = l
    · subst e
      rw [if_pos rfl, hl] at hx
      by_cases cA : pos k / 6 = A
      · rw [if_pos ⟨hl, cA⟩, if_neg (by omega), if_pos ⟨by omega, cA⟩]
        have e2 : q_lp pos (s ^^^ 2 ^ k) A (k + 1) = q_lp pos (s ^^^ 2 ^ k) A k := by rw [q_lp, if_neg (by omega)]
        rw [e2]
        cases q_lp pos (s ^^^ 2 ^ k) A k with
        | none => rfl
        | some m =>
          dsimp only
          congr 1
          by_cases c3 : m < pos k % 6
          · rw [if_pos c3, Nat.max_eq_right (by omega)]
          · rw [if_neg c3, Nat.max_eq_left (by omega)]
      · rw [if_neg (fun z => cA z.2), if_neg (by omega), if_neg (fun z => cA z.2)]
        rw [q_lp, if_neg (fun z => cA z.2)]
    · rw [if_neg e] at hx
      have e2 : q_lp pos (s ^^^ 2 ^ l) A (k + 1) = if s / 2 ^ k % 2 = 1 ∧ pos k / 6 = A then some (match q_lp pos (s ^^^ 2 ^ l) A k with
        | none => pos k % 6
        | some m => if m < pos k % 6 then pos k % 6 else m) else q_lp pos (s ^^^ 2 ^ l) A k := by
        rw [q_lp, hx]
        rfl
      rw [e2]
      by_cases cl : l < k ∧ pos l / 6 = A
      · rw [if_pos cl, if_pos (show l < k + 1 ∧ pos l / 6 = A from ⟨by omega, cl.2⟩)]
        by_cases ck : s / 2 ^ k % 2 = 1 ∧ pos k / 6 = A
        · rw [if_pos ck, if_pos ck]
          congr 1
          generalize pos l % 6 = u
          generalize pos k % 6 = v
          cases q_lp pos (s ^^^ 2 ^ l) A k with
          | none =>
            dsimp only
            rw [Nat.max_def]
            split <;> split <;> omega
          | some m =>
            dsimp only
            rw [Nat.max_def, Nat.max_def]
            repeat' split
            all_goals omega
        · rw [if_neg ck, if_neg ck]
      · have cl2 : ¬ (l < k + 1 ∧ pos l / 6 = A) := fun z => cl ⟨by omega, z.2⟩
        rw [if_neg cl, if_neg cl2]
        rfl
theorem th_x {s l : Nat} (hl : s / 2 ^ l % 2 = 1) (hl16 : l < 16) (j : Nat) : q_th pos s j + (if pos l / 6 < j then (q_lp pos (s ^^^ 2 ^ l) (pos l / 6) 16).getD 0 else 0) = q_th pos (s ^^^ 2 ^ l) j + (if pos l / 6 < j then max ((q_lp pos (s ^^^ 2 ^ l) (pos l / 6) 16).getD 0) (pos l % 6) else 0) := by
  induction j with
  | zero => rfl
  | succ j ih =>
    rw [q_th, q_th, lp_x (A := j) hl]
    by_cases e : pos l / 6 = j
    · subst e
      rw [if_neg (by omega), if_neg (by omega)] at ih
      rw [if_pos ⟨hl16, rfl⟩, if_pos (by omega), if_pos (by omega)]
      cases q_lp pos (s ^^^ 2 ^ l) (pos l / 6) 16 with
      | none => simp only [Option.getD_none, Option.getD_some, Nat.zero_max]; omega
      | some m => simp only [Option.getD_some]; omega
    · rw [if_neg (fun z => e z.2)]
      by_cases c2 : pos l / 6 < j
      · rw [if_pos c2, if_pos c2] at ih
        rw [if_pos (by omega), if_pos (by omega)]
        omega
      · rw [if_neg c2, if_neg c2] at ih
        rw [if_neg (by omega), if_neg (by omega)]
        omega
theorem la_lt {s j : Nat} : q_la pos s j ≤ j - 1 := by
  induction j with
  | zero => exact Nat.le_refl _
  | succ j ih =>
    rw [q_la]
    split <;> omega
theorem la_x {s l : Nat} (hl : s / 2 ^ l % 2 = 1) (hl16 : l < 16) (j : Nat) : q_la pos s j = if pos l / 6 < j then max (q_la pos (s ^^^ 2 ^ l) j) (pos l / 6) else q_la pos (s ^^^ 2 ^ l) j := by
  induction j with
  | zero => rfl
  | succ j ih =>
    have hlt := la_lt (pos := pos) (s := s ^^^ 2 ^ l) (j := j)
    have hx := lp_x (pos := pos) (s := s) (l := l) (A := j) (k := 16) hl
    have e1 : q_la pos s (j + 1) = if (q_lp pos s j 16).isSome = true then j else q_la pos s j := rfl
    have e2 : q_la pos (s ^^^ 2 ^ l) (j + 1) = if (q_lp pos (s ^^^ 2 ^ l) j 16).isSome = true then j else q_la pos (s ^^^ 2 ^ l) j := rfl
    rw [e1, e2, ih]
    by_cases e : pos l / 6 = j
    · rw [if_pos (show l < 16 ∧ pos l / 6 = j from ⟨hl16, e⟩)] at hx
      rw [hx, if_pos (show (some _).isSome = true from rfl), if_pos (show pos l / 6 < j + 1 by omega), Nat.max_def]
      split <;> split <;> omega
    · rw [if_neg (show ¬ (l < 16 ∧ pos l / 6 = j) from fun z => e z.2)] at hx
      rw [hx]
      by_cases c2 : pos l / 6 < j
      · rw [if_pos c2, if_pos (show pos l / 6 < j + 1 by omega), Nat.max_def, Nat.max_def]
        split
        · rw [if_neg (by omega)]
        · rfl
      · rw [if_neg c2, if_neg (show ¬ pos l / 6 < j + 1 by omega)]
theorem lp_mem {s k : Nat} (hk : k < 16) (hb : s / 2 ^ k % 2 = 1) : ∃ m, q_lp pos s (pos k / 6) 16 = some m ∧ pos k % 6 ≤ m := by
  rw [lp_x hb, if_pos ⟨hk, rfl⟩]
  cases q_lp pos (s ^^^ 2 ^ k) (pos k / 6) 16 with
  | none => exact ⟨_, rfl, Nat.le_refl _⟩
  | some m => exact ⟨_, rfl, Nat.le_max_right _ _⟩
theorem lp_att {s A j m : Nat} (h : q_lp pos s A j = some m) : ∃ k, k < j ∧ s / 2 ^ k % 2 = 1 ∧ pos k / 6 = A ∧ pos k % 6 = m := by
  induction j generalizing m with
  | zero => cases h
  | succ j ih =>
    rw [q_lp] at h
    split at h
    · rename_i c
      cases e : q_lp pos s A j with
      | none =>
        rw [e] at h
        cases h
        exact ⟨j, by omega, c.1, c.2, rfl⟩
      | some q =>
        rw [e] at h
        dsimp only at h
        split at h
        · cases h
          exact ⟨j, by omega, c.1, c.2, rfl⟩
        · cases h
          obtain ⟨k, k1, k2⟩ := ih e
          exact ⟨k, by omega, k2⟩
    · obtain ⟨k, k1, k2⟩ := ih h
      exact ⟨k, by omega, k2⟩
theorem la_ge {s A j : Nat} (h : (q_lp pos s A 16).isSome = true) (hA : A < j) : A ≤ q_la pos s j := by
  induction j with
  | zero => omega
  | succ j ih =>
    rw [q_la]
    by_cases e : A = j
    · subst e
      rw [if_pos h]; exact Nat.le_refl _
    · have := ih (by omega)
      split <;> omega
theorem la_att {s A j : Nat} (h : (q_lp pos s A 16).isSome = true) (hA : A < j) : (q_lp pos s (q_la pos s j) 16).isSome = true := by
  induction j with
  | zero => omega
  | succ j ih =>
    rw [q_la]
    split
    · assumption
    · rename_i c
      by_cases e : A = j
      · subst e; exact absurd h c
      · exact ih (by omega)
theorem T_x {s l : Nat} (hl : s / 2 ^ l % 2 = 1) (hl16 : l < 16) (h5 : pos l / 6 < 5) : q_T c pos s + (q_lp pos (s ^^^ 2 ^ l) (pos l / 6) 16).getD 0 + c * q_la pos (s ^^^ 2 ^ l) 5 = q_T c pos (s ^^^ 2 ^ l) + max ((q_lp pos (s ^^^ 2 ^ l) (pos l / 6) 16).getD 0) (pos l % 6) + c * max (q_la pos (s ^^^ 2 ^ l) 5) (pos l / 6) := by
  have h1 := th_x (pos := pos) hl hl16 5
  have h2 := la_x (pos := pos) hl hl16 5
  rw [if_pos h5, if_pos h5] at h1
  rw [if_pos h5] at h2
  unfold q_T
  rw [h2]
  omega
theorem T_le {s l k : Nat} (hl : s / 2 ^ l % 2 = 1) (hl16 : l < 16) (hp : ∀ i, i < 16 → s / 2 ^ i % 2 = 1 → pos i < 30) (hk : k < 16) (hb : (s ^^^ 2 ^ l) / 2 ^ k % 2 = 1) : q_T c pos s + q_meet c (pos k) (pos l) ≤ q_T c pos (s ^^^ 2 ^ l) + q_dsk c (pos l) := by
  have hpl := hp l hl16 hl
  have hpk : pos k < 30 := hp k hk (by
    rw [b_xor] at hb
    by_cases e : k = l
    · subst e; exact hl
    · rw [if_neg e] at hb; exact hb)
  have hT := T_x (c := c) (pos := pos) hl hl16 (by omega)
  obtain ⟨m, hm, hm2⟩ := lp_mem (pos := pos) hk hb
  have hla := la_ge (pos := pos) (s := s ^^^ 2 ^ l) (A := pos k / 6) (j := 5) (by rw [hm]; rfl) (by omega)
  unfold q_meet q_dsk
  generalize q_la pos (s ^^^ 2 ^ l) 5 = la at hT hla
  by_cases e : pos k / 6 = pos l / 6
  · rw [if_pos e]
    rw [e] at hm hla
    rw [hm] at hT
    simp only [Option.getD_some] at hT
    rw [Nat.max_eq_left hla] at hT
    omega
  · rw [if_neg e]
    generalize (q_lp pos (s ^^^ 2 ^ l) (pos l / 6) 16).getD 0 = ml at hT
    have hc : c * max la (pos l / 6) + c * min (pos k / 6) (pos l / 6) ≤ c * la + c * (pos l / 6) := by
      rw [← Nat.mul_add, ← Nat.mul_add]
      exact Nat.mul_le_mul_left _ (by omega)
    omega
theorem T_eq {s l : Nat} (hl : s / 2 ^ l % 2 = 1) (hl16 : l < 16) (hp : ∀ i, i < 16 → s / 2 ^ i % 2 = 1 → pos i < 30) {k0 : Nat} (hk0 : k0 < 16) (hb0 : (s ^^^ 2 ^ l) / 2 ^ k0 % 2 = 1) : ∃ k, k < 16 ∧ (s ^^^ 2 ^ l) / 2 ^ k % 2 = 1 ∧ q_T c pos s + q_meet c (pos k) (pos l) = q_T c pos (s ^^^ 2 ^ l) + q_dsk c (pos l) := by
  have hpl := hp l hl16 hl
  have sub : ∀ k, k < 16 → (s ^^^ 2 ^ l) / 2 ^ k % 2 = 1 → pos k < 30 := fun k hk hb => hp k hk (by
    rw [b_xor] at hb
    by_cases e : k = l
    · subst e; exact hl
    · rw [if_neg e] at hb; exact hb)
  have hT := T_x (c := c) (pos := pos) hl hl16 (by omega)
  cases hm : q_lp pos (s ^^^ 2 ^ l) (pos l / 6) 16 with
  | some m =>
    obtain ⟨k, k1, k2, k3, k4⟩ := lp_att hm
    have hla := la_ge (pos := pos) (s := s ^^^ 2 ^ l) (A := pos l / 6) (j := 5) (by rw [hm]; rfl) (by omega)
    refine ⟨k, k1, k2, ?_⟩
    rw [hm] at hT
    simp only [Option.getD_some] at hT
    unfold q_meet q_dsk
    generalize q_la pos (s ^^^ 2 ^ l) 5 = la at hT hla
    rw [Nat.max_eq_left hla] at hT
    rw [if_pos k3, k4]
    omega
  | none =>
    obtain ⟨m0, q1, q2⟩ := lp_mem (pos := pos) hk0 hb0
    have hs := la_att (pos := pos) (s := s ^^^ 2 ^ l) (A := pos k0 / 6) (j := 5) (by rw [q1]; rfl) (by have := sub k0 hk0 hb0; omega)
    obtain ⟨m, hm2⟩ := Option.isSome_iff_exists.mp hs
    obtain ⟨k, k1, k2, k3, k4⟩ := lp_att hm2
    refine ⟨k, k1, k2, ?_⟩
    rw [hm] at hT
    simp only [Option.getD_none, Nat.zero_max] at hT
    have hne : pos k / 6 ≠ pos l / 6 := fun e => by
      rw [k3] at e
      rw [e, hm] at hm2
      cases hm2
    unfold q_meet q_dsk
    rw [if_neg hne, k3]
    generalize q_la pos (s ^^^ 2 ^ l) 5 = la at hT
    have hc : c * max la (pos l / 6) + c * min la (pos l / 6) = c * la + c * (pos l / 6) := by
      rw [← Nat.mul_add, ← Nat.mul_add]
      congr 1
      omega
    omega
end TREE
