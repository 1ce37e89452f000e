section PARSE
-- the orders of a text, read from left to right
abbrev Od : Type := Nat × Nat × Nat × Nat × Nat × Nat
def ff (pl : Nat) (pc : Nat → Nat) (s : Nat) (g : Gs) : Option Nat := q_ff pl pc (pl - s) s g
variable {pl : Nat} {pc : Nat → Nat}
theorem ff_lt {s : Nat} {g : Gs} (h : s < pl) : ff pl pc s g = if (q_tk g (pc s)).1 = 1 then ff pl pc (s + 1) (q_tk g (pc s)).2 else some s := by
  unfold ff
  obtain ⟨j, hj⟩ : ∃ j, pl - s = j + 1 := ⟨pl - s - 1, by omega⟩
  rw [hj, show pl - (s + 1) = j by omega, q_ff]
theorem ff_end {g : Gs} : ff pl pc pl g = if g.2.2 = 1 ∧ (g.1 = 2 ∨ g.1 = 3) then none else some pl := by
  unfold ff
  rw [Nat.sub_self, q_ff]
def isD (x : Nat) : Prop := 48 ≤ x ∧ x ≤ 57
abbrev q_dig (pl : Nat) (pc : Nat → Nat) (s : Nat) : Prop := s < pl ∧ 48 ≤ pc s ∧ pc s ≤ 57
def q_nm (pl : Nat) (pc : Nat → Nat) (s : Nat) : Nat ⊕ (Nat × Nat) :=
  if q_dig pl pc s then (if pc s = 48 then .inr (0, s + 1) else if q_dig pl pc (s + 1) then .inr (10 * (pc s - 48) + (pc (s + 1) - 48), s + 2) else .inr (pc s - 48, s + 1)) else .inl s
theorem q_nm_lt {s v t : Nat} (h : q_nm pl pc s = .inr (v, t)) : s < t ∧ t ≤ pl ∧ v < 100 := by
  unfold q_nm at h
  split at h
  · rename_i c
    split at h
    · cases h; omega
    · split at h
      · rename_i c2; cases h; omega
      · cases h; omega
  · cases h
/-- a number, and behind it a mark -/
theorem ff_num {s mk me : Nat} (hs : s ≤ pl) : ff pl pc s (1, mk, me) = match q_nm pl pc s with
    | .inl p => some p
    | .inr (_, t) => ff pl pc t (3, mk, me) := by
  have two : ∀ t, t ≤ pl → ff pl pc t (2, mk, me) = if q_dig pl pc t then ff pl pc (t + 1) (3, mk, me) else ff pl pc t (3, mk, me) := by
    intro t ht
    by_cases c : t < pl
    · rw [ff_lt c, ff_lt c]
      have e2 : q_tk (2, mk, me) (pc t) = if 48 ≤ pc t ∧ pc t ≤ 57 then (1, 3, mk, me) else q_mark (3, mk, me) (pc t) := rfl
      have e3 : q_tk (3, mk, me) (pc t) = q_mark (3, mk, me) (pc t) := rfl
      rw [e2, e3]
      by_cases c2 : 48 ≤ pc t ∧ pc t ≤ 57
      · rw [if_pos c2, if_pos (show q_dig pl pc t from ⟨c, c2⟩), if_pos rfl]
      · rw [if_neg c2, if_neg (show ¬ q_dig pl pc t from fun z => c2 z.2)]
    · have : t = pl := by omega
      subst this
      rw [if_neg (fun z => c z.1), ff_end, ff_end]
      simp
  unfold q_nm
  by_cases c : s < pl
  · rw [ff_lt c]
    have e1 : q_tk (1, mk, me) (pc s) = (if 48 ≤ pc s ∧ pc s ≤ 57 then 1 else 0, if pc s = 48 then 3 else 2, mk, me) := rfl
    rw [e1]
    by_cases c2 : 48 ≤ pc s ∧ pc s ≤ 57
    · rw [if_pos c2, if_pos (show q_dig pl pc s from ⟨c, c2⟩), if_pos rfl]
      by_cases c3 : pc s = 48
      · rw [if_pos c3, if_pos c3]
      · rw [if_neg c3, if_neg c3, two (s + 1) c]
        by_cases c4 : q_dig pl pc (s + 1)
        · rw [if_pos c4, if_pos c4]
        · rw [if_neg c4, if_neg c4]
    · rw [if_neg c2, if_neg (show ¬ q_dig pl pc s from fun z => c2 z.2)]
      rfl
  · have : s = pl := by omega
    subst this
    rw [if_neg (fun z => c z.1), ff_end]
    simp
theorem ff_mark {s mk me : Nat} (hs : s ≤ pl) : ff pl pc s (3, mk, me) = if s < pl then (if pc s = 59 ∧ me = 1 then ff pl pc (s + 1) (0, mk, me) else if pc s = mk then ff pl pc (s + 1) (1, if pc s = 45 then 32 else mk, if pc s = 45 then 1 else me) else some s) else if me = 1 then none else some pl := by
  by_cases c : s < pl
  · rw [ff_lt c, if_pos c]
    have e3 : q_tk (3, mk, me) (pc s) = q_mark (3, mk, me) (pc s) := rfl
    rw [e3]
    unfold q_mark
    by_cases c2 : pc s = 59 ∧ me = 1
    · rw [if_pos c2, if_pos c2, if_pos rfl]
    · rw [if_neg c2, if_neg c2]
      by_cases c3 : pc s = mk
      · rw [if_pos c3, if_pos c3, if_pos rfl]
      · rw [if_neg c3, if_neg c3]
        exact if_neg (show ¬ (0 : Nat) = 1 by decide)
  · have : s = pl := by omega
    subst this
    rw [if_neg c, ff_end]
    simp
def q_bk (pl : Nat) (pc : Nat → Nat) : Nat → Nat → Nat → Nat → Nat ⊕ (Nat × Nat × Nat)
  | 0, s, _, _ => .inl s
  | f + 1, s, t, w => match q_nm pl pc s with
    | .inl p => .inl p
    | .inr (v, s1) => if s1 < pl ∧ pc s1 = 44 then q_bk pl pc f (s1 + 1) (if v < 16 then t ||| 2 ^ v else t) (if v < 16 then w else 1) else .inr (if v < 16 then t ||| 2 ^ v else t, if v < 16 then w else 1, s1)
def q_od (pl : Nat) (pc : Nat → Nat) (s : Nat) : Nat ⊕ Od :=
  if s < pl then (
    if pc s = 110 then .inr (110, 0, 0, 0, 0, s + 1)
    else if pc s = 98 then (match q_bk pl pc 81 (s + 1) 0 0 with
      | .inl p => .inl p
      | .inr (t, w, s1) => .inr (98, 0, 0, t, w, s1))
    else if pc s = 109 then (match q_nm pl pc (s + 1) with
      | .inl p => .inl p
      | .inr (v, s1) => if s1 < pl ∧ pc s1 = 45 then (match q_nm pl pc (s1 + 1) with
        | .inl p => .inl p
        | .inr (v2, s2) => .inr (109, v, v2, 0, 0, s2)) else .inl s1)
    else if pc s = 103 ∨ pc s = 120 then (match q_nm pl pc (s + 1) with
      | .inl p => .inl p
      | .inr (v, s1) => .inr (pc s, v, 0, 0, 0, s1))
    else .inl s)
  else .inl s
def q_fl (pl : Nat) (pc : Nat → Nat) : Nat → Nat → Option Nat
  | 0, s => some s
  | f + 1, s => match q_od pl pc s with
    | .inl p => some p
    | .inr (_, _, _, _, _, s1) => if s1 < pl then (if pc s1 = 59 then q_fl pl pc f (s1 + 1) else some s1) else none
theorem ff_32 {s : Nat} (hp : padOK pl pc) (hs : s ≤ pl) : ff pl pc s (3, 32, 1) = if s < pl then (if pc s = 59 then ff pl pc (s + 1) (0, 32, 1) else some s) else none := by
  rw [ff_mark hs]
  by_cases c : s < pl
  · have := hp s c
    rw [if_pos c, if_pos c]
    by_cases c2 : pc s = 59
    · rw [if_pos ⟨c2, rfl⟩, if_pos c2]
    · rw [if_neg (fun z => c2 z.1), if_neg c2, if_neg (by omega)]
  · rw [if_neg c, if_neg c, if_pos rfl]
theorem ff_0 {s mk me mk' me' : Nat} (hs : s ≤ pl) : ff pl pc s (0, mk, me) = ff pl pc s (0, mk', me') := by
  by_cases c : s < pl
  · rw [ff_lt c, ff_lt c]; rfl
  · have : s = pl := by omega
    subst this
    rw [ff_end, ff_end]
    simp
/-- a basket's numbers -/
theorem ff_bk (hp : padOK pl pc) (f : Nat) : ∀ s t w, s ≤ pl → pl - s < f → ff pl pc s (1, 44, 1) = match q_bk pl pc f s t w with
    | .inl p => some p
    | .inr (_, _, s1) => ff pl pc s1 (3, 32, 1) := by
  induction f with
  | zero => intro s t w hs hf; omega
  | succ f ih =>
    intro s t w hs hf
    rw [ff_num hs, q_bk]
    cases e : q_nm pl pc s with
    | inl p => rfl
    | inr vt =>
      obtain ⟨v, s1⟩ := vt
      have h1 := q_nm_lt e
      dsimp only
      by_cases c : s1 < pl ∧ pc s1 = 44
      · rw [if_pos c, ← ih (s1 + 1) _ _ (by omega) (by omega), ff_mark (by omega), if_pos c.1, if_neg (by omega), if_pos c.2, if_neg (by omega), if_neg (by omega)]
      · rw [if_neg c]
        dsimp only
        rw [ff_mark (by omega), ff_32 hp (by omega)]
        by_cases c1 : s1 < pl
        · rw [if_pos c1, if_pos c1]
          by_cases c2 : pc s1 = 59
          · rw [if_pos ⟨c2, rfl⟩, if_pos c2]
            exact ff_0 c1
          · rw [if_neg (fun z => c2 z.1), if_neg c2, if_neg (fun z => c ⟨c1, z⟩)]
        · rw [if_neg c1, if_neg c1, if_pos rfl]
theorem q_bk_lt (f : Nat) : ∀ s t w t' w' s1, q_bk pl pc f s t w = .inr (t', w', s1) → s < s1 ∧ s1 ≤ pl := by
  induction f with
  | zero => intro s t w t' w' s1 h; cases h
  | succ f ih =>
    intro s t w t' w' s1 h
    rw [q_bk] at h
    cases e : q_nm pl pc s with
    | inl p => rw [e] at h; cases h
    | inr vt =>
      obtain ⟨v, s2⟩ := vt
      have h1 := q_nm_lt e
      rw [e] at h
      dsimp only at h
      split at h
      · have := ih _ _ _ _ _ _ h
        omega
      · cases h; omega
/-- an order, and what comes behind it -/
theorem ff_od (hp : padOK pl pc) (h80 : pl ≤ 80) {s : Nat} (hs : s ≤ pl) : ff pl pc s (0, 32, 1) = match q_od pl pc s with
    | .inl p => some p
    | .inr (_, _, _, _, _, s1) => ff pl pc s1 (3, 32, 1) := by
  unfold q_od
  by_cases c : s < pl
  · rw [if_pos c, ff_lt c]
    have e0 : q_tk (0, 32, 1) (pc s) = (q_isL (pc s), q_letter (pc s)) := rfl
    rw [e0]
    unfold q_isL q_letter
    by_cases c1 : pc s = 110
    · rw [if_pos c1, if_pos (Or.inr (Or.inr (Or.inr (Or.inr c1)))), if_pos rfl]
      simp [c1]
    · rw [if_neg c1]
      by_cases c2 : pc s = 98
      · rw [if_pos c2, if_pos (Or.inr (Or.inl c2)), if_pos rfl, if_neg c1, if_pos c2, if_neg (by omega)]
        rw [ff_bk hp 81 (s + 1) 0 0 (by omega) (by omega)]
        cases q_bk pl pc 81 (s + 1) 0 0 with
        | inl p => rfl
        | inr x => rfl
      · rw [if_neg c2]
        by_cases c3 : pc s = 109
        · rw [if_pos c3, if_pos (Or.inr (Or.inr (Or.inl c3))), if_pos rfl, if_neg c1, if_neg c2, if_pos c3, if_pos c3]
          rw [ff_num (by omega)]
          cases e : q_nm pl pc (s + 1) with
          | inl p => rfl
          | inr x =>
            obtain ⟨v, s1⟩ := x
            have h1 := q_nm_lt e
            dsimp only
            rw [ff_mark (by omega)]
            by_cases d1 : s1 < pl
            · rw [if_pos d1, if_neg (fun z => absurd z.2 (by decide))]
              by_cases d2 : pc s1 = 45
              · rw [if_pos d2, if_pos d2, if_pos d2, if_pos ⟨d1, d2⟩, ff_num (by omega)]
                cases e2 : q_nm pl pc (s1 + 1) with
                | inl p => rfl
                | inr x => rfl
              · rw [if_neg d2, if_neg (show ¬ (s1 < pl ∧ pc s1 = 45) from fun z => d2 z.2)]
            · rw [if_neg d1, if_neg (show ¬ (s1 < pl ∧ pc s1 = 45) from fun z => d1 z.1), if_neg (show ¬ (0 : Nat) = 1 by decide)]
              congr 1
              omega
        · rw [if_neg c3]
          by_cases c4 : pc s = 103 ∨ pc s = 120
          · rw [if_pos c4, if_pos (show pc s = 103 ∨ pc s = 98 ∨ pc s = 109 ∨ pc s = 120 ∨ pc s = 110 by omega), if_pos rfl, if_neg c1, if_neg c2, if_neg c3, if_neg c3]
            rw [ff_num (by omega)]
            cases e : q_nm pl pc (s + 1) with
            | inl p => rfl
            | inr x => rfl
          · rw [if_neg c4, if_neg (show ¬ (pc s = 103 ∨ pc s = 98 ∨ pc s = 109 ∨ pc s = 120 ∨ pc s = 110) by omega), if_neg (show ¬ (0 : Nat) = 1 by decide), if_neg c3, if_neg c1, if_neg c2]
  · have : s = pl := by omega
    subst this
    rw [if_neg c, ff_end]
    simp
theorem q_od_lt {s s1 l f g t w : Nat} (h : q_od pl pc s = .inr (l, f, g, t, w, s1)) : s < s1 ∧ s1 ≤ pl ∧ (l = 98 → s + 2 ≤ s1) := by
  unfold q_od at h
  split at h
  · rename_i c
    split at h
    · cases h; omega
    · split at h
      · cases e : q_bk pl pc 81 (s + 1) 0 0 with
        | inl p => rw [e] at h; cases h
        | inr x =>
          obtain ⟨a, b, e2⟩ := x
          rw [e] at h
          have := q_bk_lt _ _ _ _ _ _ _ e
          cases h; omega
      · split at h
        · cases e : q_nm pl pc (s + 1) with
          | inl p => rw [e] at h; cases h
          | inr x =>
            obtain ⟨a, b⟩ := x
            have h1 := q_nm_lt e
            rw [e] at h
            dsimp only at h
            split at h
            · cases e2 : q_nm pl pc (b + 1) with
              | inl p => rw [e2] at h; cases h
              | inr x =>
                obtain ⟨a2, b2⟩ := x
                have h2 := q_nm_lt e2
                rw [e2] at h
                cases h; omega
            · cases h
        · split at h
          · cases e : q_nm pl pc (s + 1) with
            | inl p => rw [e] at h; cases h
            | inr x =>
              obtain ⟨a, b⟩ := x
              have h1 := q_nm_lt e
              rw [e] at h
              rename_i c4
              cases h; omega
          · cases h
  · cases h
theorem ff_fl (hp : padOK pl pc) (h80 : pl ≤ 80) (f : Nat) : ∀ s, s ≤ pl → pl - s < f → ff pl pc s (0, 32, 1) = q_fl pl pc f s := by
  induction f with
  | zero => intro s hs hf; omega
  | succ f ih =>
    intro s hs hf
    rw [ff_od hp h80 hs, q_fl]
    cases e : q_od pl pc s with
    | inl p => rfl
    | inr x =>
      obtain ⟨l, f1, g1, t1, w1, s1⟩ := x
      have h1 := q_od_lt e
      dsimp only
      rw [ff_32 hp (by omega)]
      by_cases c : s1 < pl
      · rw [if_pos c, if_pos c, ih (s1 + 1) (by omega) (by omega)]
      · rw [if_neg c, if_neg c]
theorem q_flt_fl (hp : padOK pl pc) (h80 : pl ≤ 80) : q_flt pl pc = q_fl pl pc 81 0 := by
  rw [← ff_fl hp h80 81 0 (by omega) (by omega), ff_0 (mk' := 32) (me' := 0) (by omega)]
  rfl
end PARSE
