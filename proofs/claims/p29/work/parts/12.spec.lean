-- the shed as numbers: what the class and the reference both compute
def q_stp (c s o : Nat) : Nat := if s / 6 = o / 6 then (if o ≤ s then s - o else o - s) else s % 6 + o % 6 + c * (if o / 6 ≤ s / 6 then s / 6 - o / 6 else o / 6 - s / 6)
def q_dsk (c s : Nat) : Nat := 1 + s % 6 + c * (s / 6)
def q_gin (pos : Nat → Nat) : Nat → Nat → Option Nat
  | 0, _ => none
  | n + 1, s => if pos n = s then some n else q_gin pos n s
def q_oI (o : Option Nat) : Int32 := match o with
  | none => -nI 6
  | some g => nI g
def q_ex (pos : Nat → Nat) (n s o : Nat) : Nat → Nat := fun g => if g < n ∧ pos g = s then o else if g < n ∧ pos g = o then s else pos g
theorem q_gin_some {pos : Nat → Nat} {n s g : Nat} (h : q_gin pos n s = some g) : g < n ∧ pos g = s := by
  induction n with
  | zero => cases h
  | succ n ih =>
    unfold q_gin at h
    split at h
    · cases h
      rename_i e
      exact ⟨by omega, e⟩
    · have := ih h
      exact ⟨by omega, this.2⟩
theorem q_gin_none {pos : Nat → Nat} {n s : Nat} (h : q_gin pos n s = none) : ∀ g, g < n → pos g ≠ s := by
  induction n with
  | zero => intro g hg; omega
  | succ n ih =>
    unfold q_gin at h
    split at h
    · cases h
    · rename_i e
      intro g hg
      by_cases hgn : g = n
      · subst hgn; exact e
      · exact ih h g (by omega)
def q_inj (pos : Nat → Nat) (n : Nat) : Prop := ∀ g h, g < n → h < n → pos g = pos h → g = h
theorem q_gin_of {pos : Nat → Nat} {n s g : Nat} (hi : q_inj pos n) (hg : g < n) (h : pos g = s) : q_gin pos n s = some g := by
  cases e : q_gin pos n s with
  | none => exact absurd h (q_gin_none e g hg)
  | some k =>
    obtain ⟨h1, h2⟩ := q_gin_some e
    rw [hi k g h1 hg (by rw [h2, h])]
theorem q_gin_not {pos : Nat → Nat} {n s : Nat} (h : ∀ g, g < n → pos g ≠ s) : q_gin pos n s = none := by
  cases e : q_gin pos n s with
  | none => rfl
  | some k =>
    obtain ⟨h1, h2⟩ := q_gin_some e
    exact absurd h2 (h k h1)
/-- where a shed's parts lie -/
def ISh (lay : mL) (R : mR) (a : Nat) : Prop :=
  lay a = (11, 0) ∧ lay (a + 1) = (0, 3) ∧ lay (a + 2) = (0, 16) ∧ lay (a + 3) = (0, 30) ∧ lay (a + 4) = (1, 16) ∧ lay (a + 5) = (0, 16) ∧ lay (a + 6) = (0, 16) ∧ lay (a + 7) = (0, 16) ∧ lay (a + 8) = (5, 0) ∧ lay (a + 9) = (0, 12) ∧ lay (a + 10) = (0, 12) ∧ lay (a + 11) = (5, 0) ∧ lay (a + 12) = (0, 12) ∧ lay (a + 13) = (0, 12) ∧
  m_rv (R a 0) = .ref (a + 1) ∧ m_rv (R a 1) = .ref (a + 2) ∧ m_rv (R a 2) = .ref (a + 3) ∧ m_rv (R a 3) = .ref (a + 4) ∧ m_rv (R a 4) = .ref (a + 5) ∧ m_rv (R a 5) = .ref (a + 6) ∧ m_rv (R a 6) = .ref (a + 7) ∧ m_rv (R a 7) = .ref (a + 8) ∧ m_rv (R a 8) = .ref (a + 11) ∧
  m_rv (R (a + 8) 0) = .ref (a + 9) ∧ m_rv (R (a + 8) 1) = .ref (a + 10) ∧ m_rv (R (a + 11) 0) = .ref (a + 12) ∧ m_rv (R (a + 11) 1) = .ref (a + 13)
