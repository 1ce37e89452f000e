section DP
variable {lay : mL} {d a n n' : Nat} {I I' : mI} {F F' : mF} {R R' : mR} {Q : mP} {S : Nat → Nat} {sp : Nat → UInt32} {hi : List Nat} {pos : Nat → Nat} {c : Nat}
theorem th_le {s j : Nat} : q_th pos s j ≤ 1 + 5 * j := by
  induction j with
  | zero => exact Nat.le_refl _
  | succ j ih =>
    rw [q_th]
    cases e : q_lp pos s j 16 with
    | none => simp only [Option.getD_none]; omega
    | some m =>
      have := q_lp_lt e
      simp only [Option.getD_some]; omega
theorem th_ge {s A j : Nat} (hA : A < j) : 1 + (q_lp pos s A 16).getD 0 ≤ q_th pos s j := by
  induction j with
  | zero => omega
  | succ j ih =>
    rw [q_th]
    by_cases e : A = j
    · subst e
      have : 1 ≤ q_th pos s A := by
        clear ih hA
        induction A with
        | zero => exact Nat.le_refl _
        | succ A ih => rw [q_th]; omega
      omega
    · have := ih (by omega)
      omega
theorem T_le62 {s : Nat} (hc : c ≤ 9) : q_T c pos s ≤ 62 := by
  have h1 := th_le (pos := pos) (s := s) (j := 5)
  have h2 := la_lt (pos := pos) (s := s) (j := 5)
  have h3 : c * q_la pos s 5 ≤ 9 * 4 := Nat.mul_le_mul hc (by omega)
  unfold q_T
  omega
theorem T_dsk {s k : Nat} (hk : k < 16) (hb : s / 2 ^ k % 2 = 1) (hp : pos k < 30) : q_dsk c (pos k) ≤ q_T c pos s := by
  obtain ⟨m, hm, hm2⟩ := lp_mem (pos := pos) hk hb
  have h1 := th_ge (pos := pos) (s := s) (A := pos k / 6) (j := 5) (by omega)
  have h2 := la_ge (pos := pos) (s := s) (A := pos k / 6) (j := 5) (by rw [hm]; rfl) (by omega)
  rw [hm] at h1
  simp only [Option.getD_some] at h1
  have h3 : c * (pos k / 6) ≤ c * q_la pos s 5 := Nat.mul_le_mul_left _ h2
  unfold q_T q_dsk
  omega
def q_memk (b : Nat) : Nat → Nat → Nat
  | 0, _ => 0
  | k + 1, i => if b / 2 ^ k % 2 = 1 ∧ q_on b k = i then k else q_memk b k i
def q_mem (b i : Nat) : Nat := q_memk b 16 i
theorem memk_on {b k g : Nat} (hg : g < k) (hb : b / 2 ^ g % 2 = 1) : q_memk b k (q_on b g) = g := by
  induction k with
  | zero => omega
  | succ k ih =>
    rw [q_memk]
    by_cases e : g = k
    · subst e; rw [if_pos ⟨hb, rfl⟩]
    · have := q_on_lt (show g < k by omega) hb
      rw [if_neg (by omega), ih (by omega)]
theorem on_ex {b k i : Nat} (h : i < q_on b k) : ∃ g, g < k ∧ b / 2 ^ g % 2 = 1 ∧ q_on b g = i := by
  induction k with
  | zero => exact absurd h (Nat.not_lt_zero _)
  | succ k ih =>
    rw [q_on_s] at h
    by_cases c : i < q_on b k
    · obtain ⟨g, g1, g2⟩ := ih c
      exact ⟨g, by omega, g2⟩
    · exact ⟨k, by omega, by omega, by omega⟩
theorem mem_ok {b i : Nat} (h : i < q_on b 16) : q_mem b i < 16 ∧ b / 2 ^ q_mem b i % 2 = 1 ∧ q_on b (q_mem b i) = i := by
  obtain ⟨g, g1, g2, g3⟩ := on_ex h
  have : q_mem b i = g := by rw [← g3]; exact memk_on g1 g2
  rw [this]
  exact ⟨g1, g2, g3⟩
/-- the same way by members as by goods -/
theorem lp_mm {b A : Nat} (k : Nat) (hk : k ≤ 16) : q_lp (fun i => pos (q_mem b i)) (2 ^ q_on b 16 - 1) A (q_on b k) = q_lp pos b A k := by
  induction k with
  | zero => rfl
  | succ k ih =>
    have ih := ih (by omega)
    rw [q_on_s b k]
    have hmono := q_on_mono (b := b) (show k + 1 ≤ 16 by omega)
    rw [q_on_s b k] at hmono
    rcases Nat.mod_two_eq_zero_or_one (b / 2 ^ k) with hb | hb
    · rw [hb, Nat.add_zero, ih]
      rw [q_lp, if_neg (by omega)]
    · rw [hb]
      have hbit : (2 ^ q_on b 16 - 1) / 2 ^ q_on b k % 2 = 1 := by
        rw [b_tb, Nat.testBit_two_pow_sub_one]
        simp
        omega
      have hm : q_mem b (q_on b k) = k := memk_on (by omega) hb
      rw [q_lp, ih, q_lp, hbit, hb]
      rw [hm]
theorem lp_top {s A m : Nat} (hs : s < 2 ^ m) (j : Nat) : q_lp pos s A (m + j) = q_lp pos s A m := by
  induction j with
  | zero => rfl
  | succ j ih =>
    rw [← Nat.add_assoc, q_lp, if_neg, ih]
    intro z
    have : s / 2 ^ (m + j) = 0 := Nat.div_eq_of_lt (Nat.lt_of_lt_of_le hs (Nat.pow_le_pow_right (by decide) (by omega)))
    rw [this] at z
    exact absurd z.1 (by decide)
theorem T_mm {b : Nat} (h : q_on b 16 ≤ 16) : q_T c (fun i => pos (q_mem b i)) (2 ^ q_on b 16 - 1) = q_T c pos b := by
  have key : ∀ A, q_lp (fun i => pos (q_mem b i)) (2 ^ q_on b 16 - 1) A 16 = q_lp pos b A 16 := by
    intro A
    have h2 := lp_mm (pos := pos) (b := b) (A := A) 16 (Nat.le_refl _)
    have := lp_top (pos := fun i => pos (q_mem b i)) (s := 2 ^ q_on b 16 - 1) (A := A) (m := q_on b 16) (by have := Nat.two_pow_pos (q_on b 16); omega) (16 - q_on b 16)
    rw [show q_on b 16 + (16 - q_on b 16) = 16 by omega] at this
    exact this.trans h2
  have th : ∀ j, q_th (fun i => pos (q_mem b i)) (2 ^ q_on b 16 - 1) j = q_th pos b j := by
    intro j
    induction j with
    | zero => rfl
    | succ j ih => rw [q_th, q_th, ih, key]
  have la : ∀ j, q_la (fun i => pos (q_mem b i)) (2 ^ q_on b 16 - 1) j = q_la pos b j := by
    intro j
    induction j with
    | zero => rfl
    | succ j ih => rw [q_la, q_la, ih, key]
  unfold q_T
  rw [th, la]
def q_val (c : Nat) (pos : Nat → Nat) (r k : Nat) : Nat := 2 * q_T c pos r - q_dsk c (pos k)
def q_cand (c : Nat) (pos : Nat → Nat) (r k l : Nat) : Nat := q_val c pos r k + q_stp c (pos k) (pos l)
/-- the least of what a loop has seen -/
def q_inv (f : Nat → Nat) (v0 r k v : Nat) : Prop := (∀ i, i < k → r / 2 ^ i % 2 = 1 → v ≤ f i) ∧ (v = v0 ∧ (∀ i, i < k → r / 2 ^ i % 2 = 1 → v0 ≤ f i) ∨ ∃ i, i < k ∧ r / 2 ^ i % 2 = 1 ∧ v = f i)
theorem way_min {s l m v : Nat} (hm : m ≤ 6) (hs : s < 2 ^ m) (hl : l < m) (hb : s / 2 ^ l % 2 = 1) (hc : c ≤ 9) (hp : ∀ i, i < m → pos i < 30) (hv : q_inv (fun k => q_cand c pos (s ^^^ 2 ^ l) k l) (if s ^^^ 2 ^ l = 0 then q_dsk c (pos l) else 1000000) (s ^^^ 2 ^ l) m v) : v = q_val c pos s l := by
  have bitm : ∀ r i, r < 2 ^ m → r / 2 ^ i % 2 = 1 → i < m := fun r i hr hb => by
    rcases Nat.lt_or_ge i m with c | c
    · exact c
    · rw [Nat.div_eq_of_lt (Nat.lt_of_lt_of_le hr (Nat.pow_le_pow_right (by decide) c))] at hb
      exact absurd hb (by decide)
  have hpl := hp l hl
  have hps : ∀ i, i < 16 → s / 2 ^ i % 2 = 1 → pos i < 30 := fun i _ hi => hp i (bitm s i hs hi)
  have hr2 : s ^^^ 2 ^ l < 2 ^ m := Nat.xor_lt_two_pow hs (Nat.pow_lt_pow_right (by decide) hl)
  have hpr : ∀ i, i < 16 → (s ^^^ 2 ^ l) / 2 ^ i % 2 = 1 → pos i < 30 := fun i _ hi => hp i (bitm _ i hr2 hi)
  have hTs := T_dsk (c := c) (pos := pos) (s := s) (k := l) (by omega) hb hpl
  have hT62 := T_le62 (pos := pos) (s := s) hc
  by_cases e0 : s ^^^ 2 ^ l = 0
  · have hT := T_x (c := c) (pos := pos) hb (by omega) (by omega)
    rw [e0] at hT hv
    have n0 : ∀ A, q_lp pos 0 A 16 = none := by
      intro A
      cases e : q_lp pos 0 A 16 with
      | none => rfl
      | some m =>
        obtain ⟨k, _, k2, _⟩ := lp_att e
        rw [Nat.zero_div] at k2
        exact absurd k2 (by decide)
    have z1 : q_th pos 0 5 = 1 := by simp only [q_th, n0, Option.getD_none]
    have z2 : q_la pos 0 5 = 0 := by
      have : (none : Option Nat).isSome = false := rfl
      simp [q_la, n0]
    have z3 : q_T c pos 0 = 1 := by unfold q_T; rw [z1, z2]; rfl
    rw [n0, z2, z3] at hT
    simp only [Option.getD_none, Nat.zero_max, Nat.mul_zero] at hT
    have hTd : q_T c pos s = q_dsk c (pos l) := by unfold q_dsk; omega
    obtain ⟨-, h2⟩ := hv
    rw [if_pos rfl] at h2
    rcases h2 with ⟨h2, -⟩ | ⟨i, _, i2, _⟩
    · unfold q_val; omega
    · rw [Nat.zero_div] at i2
      exact absurd i2 (by decide)
  · rw [if_neg e0] at hv
    obtain ⟨k0, hk0⟩ : ∃ k0, (s ^^^ 2 ^ l).testBit k0 = true := by
      refine Classical.byContradiction fun hn => e0 (Nat.eq_of_testBit_eq fun i => ?_)
      rw [Nat.zero_testBit]
      cases e : (s ^^^ 2 ^ l).testBit i with
      | false => rfl
      | true => exact absurd ⟨i, e⟩ hn
    have hb0 : (s ^^^ 2 ^ l) / 2 ^ k0 % 2 = 1 := by rw [b_tb, hk0]; rfl
    have hk0m := bitm _ k0 hr2 hb0
    have cd : ∀ i, i < m → (s ^^^ 2 ^ l) / 2 ^ i % 2 = 1 → q_cand c pos (s ^^^ 2 ^ l) i l + 2 * q_meet c (pos i) (pos l) = 2 * q_T c pos (s ^^^ 2 ^ l) + q_dsk c (pos l) := by
      intro i hi hbi
      have h1 := q_stp_meet (c := c) (x := pos i) (y := pos l)
      have h2 := T_dsk (c := c) (pos := pos) (s := s ^^^ 2 ^ l) (k := i) (by omega) hbi (hp i hi)
      unfold q_cand q_val
      omega
    obtain ⟨k, k1, k2, k3⟩ := T_eq (c := c) hb (by omega) hps (k0 := k0) (by omega) hb0
    have hkm := bitm _ k hr2 k2
    have h1 := hv.1 k hkm k2
    have c1 := cd k hkm k2
    dsimp only at h1
    unfold q_val
    rcases hv.2 with ⟨h2, h3⟩ | ⟨i, i1, i2, i3⟩
    · have := h3 k hkm k2
      dsimp only at this
      omega
    · have l1 := T_le (c := c) hb (by omega) hps (k := i) (by omega) i2
      have c2 := cd i i1 i2
      dsimp only at i3
      omega
end DP
