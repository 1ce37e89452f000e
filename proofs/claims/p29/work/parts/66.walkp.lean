-- walks between their bounds
section WALKP
variable {S : Nat → Nat} {pos : Nat → Nat} {c : Nat}
theorem th_ge {s A j : Nat} (hA : A < j) : 1 + (q_lp pos s A 16).getD 0 ≤ q_th pos s j := by
  induction j with
  | zero => omega
  | succ j ih =>
    rw [q_th]
    by_cases e : A = j
    · subst e
      have : 1 ≤ q_th pos s A := by
        clear ih hA
        induction A with
        | zero => exact Nat.le_refl _
        | succ A ih => rw [q_th]; omega
      omega
    · have := ih (by omega)
      omega
theorem T_dsk {s k : Nat} (hk : k < 16) (hb : s / 2 ^ k % 2 = 1) (hp : pos k < 30) : q_dsk c (pos k) ≤ q_T c pos s := by
  obtain ⟨m, hm, hm2⟩ := lp_mem (pos := pos) hk hb
  have h1 := th_ge (pos := pos) (s := s) (A := pos k / 6) (j := 5) (by omega)
  have h2 := la_ge (pos := pos) (s := s) (A := pos k / 6) (j := 5) (by rw [hm]; rfl) (by omega)
  rw [hm] at h1
  simp only [Option.getD_some] at h1
  have h3 : c * (pos k / 6) ≤ c * q_la pos s 5 := Nat.mul_le_mul_left _ h2
  unfold q_T q_dsk
  omega
theorem lp_0 (A k : Nat) : q_lp pos 0 A k = none := by
  cases e : q_lp pos 0 A k with
  | none => rfl
  | some m =>
    obtain ⟨k, _, k2, _⟩ := lp_att e
    rw [Nat.zero_div] at k2
    exact absurd k2 (by decide)
theorem T_0 : q_T c pos 0 = 1 := by
  have z1 : q_th pos 0 5 = 1 := by simp only [q_th, lp_0, Option.getD_none]
  have z2 : q_la pos 0 5 = 0 := by
    have : (none : Option Nat).isSome = false := rfl
    simp [q_la, lp_0]
  unfold q_T
  rw [z1, z2]
  rfl
theorem p2_bit (l k : Nat) : 2 ^ l / 2 ^ k % 2 = if k = l then 1 else 0 := by
  rw [b_tb, Nat.testBit_two_pow]
  by_cases e : k = l
  · subst e; simp
  · rw [if_neg e, decide_eq_false (fun h => e h.symm)]; rfl
theorem p2_on (l k : Nat) : q_on (2 ^ l) k = if l < k then 1 else 0 := by
  induction k with
  | zero => rfl
  | succ k ih =>
    rw [q_on_s, ih, p2_bit]
    by_cases e : k = l
    · rw [if_pos e, if_neg (by omega), if_pos (by omega)]
    · rw [if_neg e, Nat.add_zero]
      by_cases h : l < k
      · rw [if_pos h, if_pos (by omega)]
      · rw [if_neg h, if_neg (by omega)]
theorem T_1 {l : Nat} (hl : l < 16) (hp : pos l < 30) : q_T c pos (2 ^ l) = q_dsk c (pos l) := by
  have hT := T_x (c := c) (pos := pos) (s := 2 ^ l) (l := l) (by rw [p2_bit, if_pos rfl]) hl (by omega)
  rw [Nat.xor_self, T_0, lp_0] at hT
  have z2 : q_la pos 0 5 = 0 := by
    have : (none : Option Nat).isSome = false := rfl
    simp [q_la, lp_0]
  rw [z2] at hT
  simp only [Option.getD_none, Nat.zero_max, Nat.mul_zero] at hT
  unfold q_dsk
  omega
/-- a walk from good to good is no shorter than twice the way that its goods need -/
theorem wl_ge (k : Nat) : ∀ b g, g < 16 → pos g < 30 → (∀ i, i < 16 → b / 2 ^ i % 2 = 1 → pos i < 30) → b / 2 ^ g % 2 = 0 → k = q_on b 16 → b < 65536 → 2 * q_T c pos (b ^^^ 2 ^ g) ≤ q_wl c pos k b (pos g) + q_dsk c (pos g) := by
  induction k with
  | zero =>
    intro b g hg hpg hpb hbg hk hb
    have b0 : b = 0 := Decidable.byContradiction fun h => by have := q_on_pos hb h; omega
    subst b0
    rw [Nat.zero_xor, T_1 hg hpg, q_wl]
    omega
  | succ k ih =>
    intro b g hg hpg hpb hbg hk hb
    rw [q_wl]
    cases hn : q_nx (fun x => q_stp c (pos g) (pos x)) b 16 with
    | none =>
      have := q_nx_none hn
      omega
    | some l =>
      obtain ⟨hl, hbl⟩ := q_nx_bit hn
      have hpl := hpb l hl hbl
      have hlg : l ≠ g := fun e => by subst e; omega
      dsimp only
      have hx := ih (b ^^^ 2 ^ l) l hl hpl (fun i hi h => by
        rw [b_xor] at h
        by_cases e : i = l
        · subst e; exact hpl
        · rw [if_neg e] at h
          exact hpb i hi h) (by rw [b_xor, if_pos rfl, hbl]) (by rw [q_on_x hbl, if_pos hl]; omega) (b_lt hb hl)
      rw [Nat.xor_assoc, Nat.xor_self, Nat.xor_zero] at hx
      have hT := T_le (c := c) (pos := pos) (s := b ^^^ 2 ^ g) (l := g) (k := l) (by rw [b_xor, if_pos rfl, hbg]) hg (fun i hi h => by
        rw [b_xor] at h
        by_cases e : i = g
        · subst e; exact hpg
        · rw [if_neg e] at h
          exact hpb i hi h) hl (by rw [Nat.xor_assoc, Nat.xor_self, Nat.xor_zero]; exact hbl)
      rw [Nat.xor_assoc, Nat.xor_self, Nat.xor_zero] at hT
      have hm := q_stp_meet (c := c) (x := pos l) (y := pos g)
      rw [q_stp_sym c (pos l) (pos g)] at hm
      omega
theorem len_ge {b : Nat} (w : Wsh S) (hb : bOK S b) (h1 : 1 ≤ q_on b 16) : q_short S b ≤ q_len S b := by
  obtain ⟨b1, b2, b3⟩ := hb
  obtain ⟨k, hk⟩ : ∃ k, q_on b 16 = k + 1 := ⟨q_on b 16 - 1, by omega⟩
  have hp : ∀ i, i < 16 → b / 2 ^ i % 2 = 1 → q_pos S i < 30 := fun i hi h => w.2.1 i (b3 i hi h)
  unfold q_len
  rw [hk, q_wl]
  cases hn : q_nx (fun x => q_stp (S 2) 0 (q_pos S x)) b 16 with
  | none =>
    have := q_nx_none hn
    omega
  | some l =>
    obtain ⟨hl, hbl⟩ := q_nx_bit hn
    dsimp only
    have hx := wl_ge (c := S 2) (pos := q_pos S) k (b ^^^ 2 ^ l) l hl (hp l hl hbl) (fun i hi h => by
      rw [b_xor] at h
      by_cases e : i = l
      · subst e; exact hp i hl hbl
      · rw [if_neg e] at h
        exact hp i hi h) (by rw [b_xor, if_pos rfl, hbl]) (by rw [q_on_x hbl, if_pos hl]; omega) (b_lt b1 hl)
    rw [Nat.xor_assoc, Nat.xor_self, Nat.xor_zero] at hx
    have := q_dsk_stp (S 2) (q_pos S l)
    have e : q_short S b = 2 * q_T (S 2) (q_pos S) b := rfl
    omega
/-- all goods of a basket, each there and back -/
def q_all (c : Nat) (pos : Nat → Nat) (b : Nat) : Nat → Nat
  | 0 => 0
  | k + 1 => q_all c pos b k + (if b / 2 ^ k % 2 = 1 then 2 * q_dsk c (pos k) else 0)
/-- the farthest good of a basket -/
def q_far (c : Nat) (pos : Nat → Nat) (b : Nat) : Nat → Nat
  | 0 => 0
  | k + 1 => if b / 2 ^ k % 2 = 1 ∧ q_far c pos b k < q_dsk c (pos k) then q_dsk c (pos k) else q_far c pos b k
theorem m_bit (b k j : Nat) : b % 2 ^ k / 2 ^ j % 2 = if j < k then b / 2 ^ j % 2 else 0 := by
  rw [b_tb, b_tb, Nat.testBit_mod_two_pow]
  by_cases h : j < k
  · rw [if_pos h, decide_eq_true h, Bool.true_and]
  · rw [if_neg h, decide_eq_false h, Bool.false_and]; rfl
theorem bit_ext {x y : Nat} (h : ∀ j, x / 2 ^ j % 2 = y / 2 ^ j % 2) : x = y := by
  refine Nat.eq_of_testBit_eq fun j => ?_
  have := h j
  rw [b_tb, b_tb] at this
  cases h1 : x.testBit j <;> cases h2 : y.testBit j <;> rw [h1, h2] at this <;> first | rfl | exact absurd this (by decide)
theorem T_all {b : Nat} (hp : ∀ i, i < 16 → b / 2 ^ i % 2 = 1 → pos i < 30) (k : Nat) (hk : k ≤ 16) : 2 * q_T c pos (b % 2 ^ k) + 2 * q_on b k ≤ q_all c pos b k + 2 := by
  induction k with
  | zero =>
    rw [Nat.pow_zero, Nat.mod_one, T_0]
    exact Nat.le_refl _
  | succ k ih =>
    have ih := ih (by omega)
    rw [q_all, q_on_s]
    rcases Nat.mod_two_eq_zero_or_one (b / 2 ^ k) with e | e
    · have : b % 2 ^ (k + 1) = b % 2 ^ k := bit_ext fun j => by
        rw [m_bit, m_bit]
        by_cases h : j < k
        · rw [if_pos h, if_pos (by omega)]
        · by_cases h2 : j = k
          · subst h2
            rw [if_pos (by omega), if_neg h, e]
          · rw [if_neg (by omega), if_neg h]
      rw [this, e, if_neg (by omega)]
      omega
    · have hx : b % 2 ^ (k + 1) ^^^ 2 ^ k = b % 2 ^ k := bit_ext fun j => by
        rw [b_xor, m_bit, m_bit]
        by_cases h2 : j = k
        · subst h2
          rw [if_pos rfl, if_pos (by omega), if_neg (by omega), e]
        · rw [if_neg h2]
          by_cases h : j < k
          · rw [if_pos h, if_pos (by omega)]
          · rw [if_neg h, if_neg (by omega)]
      have hT := T_x (c := c) (pos := pos) (s := b % 2 ^ (k + 1)) (l := k) (by rw [m_bit, if_pos (by omega), e]) (by omega) (by have := hp k (by omega) e; omega)
      rw [hx] at hT
      rw [e, if_pos rfl]
      have m1 : c * max (q_la pos (b % 2 ^ k) 5) (pos k / 6) ≤ c * q_la pos (b % 2 ^ k) 5 + c * (pos k / 6) := by
        rw [← Nat.mul_add]
        exact Nat.mul_le_mul_left _ (by omega)
      unfold q_dsk
      omega
theorem all_ge {b : Nat} (w : Wsh S) (hb : bOK S b) (h1 : 1 ≤ q_on b 16) : q_short S b ≤ q_all (S 2) (q_pos S) b 16 := by
  have h := T_all (c := S 2) (pos := q_pos S) (b := b) (fun i hi h => w.2.1 i (hb.2.2 i hi h)) 16 (Nat.le_refl _)
  rw [Nat.mod_eq_of_lt (show b < 2 ^ 16 from hb.1)] at h
  have e : q_short S b = 2 * q_T (S 2) (q_pos S) b := rfl
  omega
theorem far_le {b : Nat} (w : Wsh S) (hb : bOK S b) (k : Nat) (hk : k ≤ 16) : 2 * q_far (S 2) (q_pos S) b k ≤ q_short S b := by
  induction k with
  | zero => exact Nat.zero_le _
  | succ k ih =>
    rw [q_far]
    split
    · rename_i h
      have := T_dsk (c := S 2) (pos := q_pos S) (s := b) (k := k) (by omega) h.1 (w.2.1 k (hb.2.2 k (by omega) h.1))
      have e : q_short S b = 2 * q_T (S 2) (q_pos S) b := rfl
      omega
    · exact ih (by omega)
theorem all_top {b m : Nat} (hb : ∀ g, g < 16 → b / 2 ^ g % 2 = 1 → g < m) (j : Nat) (h : m + j ≤ 16) : q_all c pos b (m + j) = q_all c pos b m := by
  induction j with
  | zero => rfl
  | succ j ih => rw [← Nat.add_assoc, q_all, if_neg (fun e => by have := hb _ (by omega) e; omega), ih (by omega), Nat.add_zero]
theorem nx_min {f : Nat → Nat} {b k g : Nat} (h : q_nx f b k = some g) : ∀ j, j < k → b / 2 ^ j % 2 = 1 → f g ≤ f j := by
  induction k generalizing g with
  | zero => cases h
  | succ k ih =>
    intro j hj hb
    rw [q_nx] at h
    split at h
    · rename_i hk
      cases e : q_nx f b k with
      | none =>
        rw [e] at h
        cases h
        by_cases c : j = k
        · subst c; exact Nat.le_refl _
        · have := q_nx_none e
          have := q_on_lt (show j < k by omega) hb
          omega
      | some x =>
        rw [e] at h
        dsimp only at h
        split at h
        · cases h
          by_cases c : j = k
          · subst c; exact Nat.le_refl _
          · have := ih e j (by omega) hb
            omega
        · cases h
          by_cases c : j = k
          · subst c; omega
          · exact ih e j (by omega) hb
    · rename_i hk
      by_cases c : j = k
      · subst c; exact absurd hb hk
      · exact ih h j (by omega) hb
/-- the good that a walk comes to first -/
theorem stop_0 {b : Nat} (hb : bOK S b) (h1 : 1 ≤ q_on b 16) : ∃ g, q_vi (S 2) (q_pos S) 0 b 0 = g ∧ g < 16 ∧ b / 2 ^ g % 2 = 1 ∧ g < S 3 ∧ ∀ j, j < 16 → b / 2 ^ j % 2 = 1 → q_dsk (S 2) (q_pos S g) ≤ q_dsk (S 2) (q_pos S j) := by
  cases hn : q_nx (fun x => q_stp (S 2) 0 (q_pos S x)) b 16 with
  | none =>
    have := q_nx_none hn
    omega
  | some g =>
    obtain ⟨hl, hbl⟩ := q_nx_bit hn
    refine ⟨g, by rw [q_vi, hn]; rfl, hl, hbl, hb.2.2 g hl hbl, fun j hj hbj => ?_⟩
    have := nx_min hn j hj hbj
    rw [q_dsk_stp, q_dsk_stp]
    omega
theorem bOK_1 {g : Nat} (w3 : S 3 ≤ 16) (hg : g < S 3) : bOK S (2 ^ g) ∧ q_on (2 ^ g) 16 = 1 := by
  have ho : q_on (2 ^ g) 16 = 1 := by rw [p2_on, if_pos (by omega)]
  refine ⟨⟨Nat.pow_lt_pow_right (a := 2) (n := 16) (by decide) (by omega), by omega, fun j hj h => ?_⟩, ho⟩
  rw [p2_bit] at h
  split at h
  · rename_i e; subst e; exact hg
  · cases h
theorem len_1 {g : Nat} (w3 : S 3 ≤ 16) (hg : g < S 3) : q_len S (2 ^ g) = 2 * q_dsk (S 2) (q_pos S g) := by
  obtain ⟨hb, ho⟩ := bOK_1 w3 hg
  unfold q_len
  rw [ho, q_wl]
  cases hn : q_nx (fun x => q_stp (S 2) 0 (q_pos S x)) (2 ^ g) 16 with
  | none =>
    have := q_nx_none hn
    omega
  | some l =>
    obtain ⟨hl, hbl⟩ := q_nx_bit hn
    rw [p2_bit] at hbl
    have e : l = g := by
      split at hbl
      · assumption
      · cases hbl
    subst e
    dsimp only
    rw [q_wl]
    have := q_dsk_stp (S 2) (q_pos S l)
    omega
theorem short_1 {g : Nat} (w : Wsh S) (hg : g < S 3) : q_short S (2 ^ g) = 2 * q_dsk (S 2) (q_pos S g) := by
  have e : q_short S (2 ^ g) = 2 * q_T (S 2) (q_pos S) (2 ^ g) := rfl
  have := w.1
  rw [e, T_1 (c := S 2) (pos := q_pos S) (l := g) (by omega) (w.2.1 g hg)]
theorem or_bit (x y k : Nat) : (x ||| y) / 2 ^ k % 2 = if x / 2 ^ k % 2 = 1 then 1 else y / 2 ^ k % 2 := by
  rw [b_tb, b_tb, b_tb, Nat.testBit_or]
  cases x.testBit k <;> cases y.testBit k <;> rfl
theorem or_on (x y k : Nat) : q_on (x ||| y) k ≤ q_on x k + q_on y k := by
  induction k with
  | zero => exact Nat.le_refl _
  | succ k ih =>
    rw [q_on_s, q_on_s, q_on_s, or_bit]
    have h1 := Nat.mod_lt (x / 2 ^ k) (show 0 < 2 by omega)
    have h2 := Nat.mod_lt (y / 2 ^ k) (show 0 < 2 by omega)
    split <;> omega
theorem bOK_5 {a1 a2 a3 a4 a5 : Nat} (w3 : S 3 ≤ 16) (h1 : a1 < S 3) (h2 : a2 < S 3) (h3 : a3 < S 3) (h4 : a4 < S 3) (h5 : a5 < S 3) : bOK S ((((2 ^ a1 ||| 2 ^ a2) ||| 2 ^ a3) ||| 2 ^ a4) ||| 2 ^ a5) ∧ 1 ≤ q_on ((((2 ^ a1 ||| 2 ^ a2) ||| 2 ^ a3) ||| 2 ^ a4) ||| 2 ^ a5) 16 ∧ ((((2 ^ a1 ||| 2 ^ a2) ||| 2 ^ a3) ||| 2 ^ a4) ||| 2 ^ a5) < 2 ^ S 3 := by
  have p : ∀ a, a < S 3 → 2 ^ a < 2 ^ S 3 := fun a h => Nat.pow_lt_pow_right (by decide) h
  have lt := Nat.or_lt_two_pow (Nat.or_lt_two_pow (Nat.or_lt_two_pow (Nat.or_lt_two_pow (p a1 h1) (p a2 h2)) (p a3 h3)) (p a4 h4)) (p a5 h5)
  have l16 : 2 ^ S 3 ≤ 65536 := Nat.pow_le_pow_right (n := 2) (j := 16) (by decide) w3
  have lt16 := Nat.lt_of_lt_of_le lt l16
  refine ⟨⟨lt16, ?_, fun g hg hb => ?_⟩, q_on_pos lt16 ?_, lt⟩
  · have o1 := or_on (((2 ^ a1 ||| 2 ^ a2) ||| 2 ^ a3) ||| 2 ^ a4) (2 ^ a5) 16
    have o2 := or_on ((2 ^ a1 ||| 2 ^ a2) ||| 2 ^ a3) (2 ^ a4) 16
    have o3 := or_on (2 ^ a1 ||| 2 ^ a2) (2 ^ a3) 16
    have o4 := or_on (2 ^ a1) (2 ^ a2) 16
    have q : ∀ a, q_on (2 ^ a) 16 ≤ 1 := fun a => by rw [p2_on]; split <;> omega
    have := q a1
    have := q a2
    have := q a3
    have := q a4
    have := q a5
    omega
  · refine Decidable.byContradiction fun hc => ?_
    have : ((((2 ^ a1 ||| 2 ^ a2) ||| 2 ^ a3) ||| 2 ^ a4) ||| 2 ^ a5) / 2 ^ g = 0 := Nat.div_eq_of_lt (Nat.lt_of_lt_of_le lt (Nat.pow_le_pow_right (by decide) (by omega)))
    rw [this] at hb
    exact absurd hb (by decide)
  · intro e
    have hb := or_bit (((2 ^ a1 ||| 2 ^ a2) ||| 2 ^ a3) ||| 2 ^ a4) (2 ^ a5) a5
    rw [e, Nat.zero_div, p2_bit, if_pos rfl] at hb
    split at hb <;> exact absurd hb (by decide)
end WALKP
