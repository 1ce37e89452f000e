-- floats that are not below 0, as whole numbers of the least unit
section FPS
variable {f : FP.Core.Fmt}
theorem fp_near_le {a b N : Nat} (hb : 0 < b) (h : a ≤ N * b) : FP.Core.nearest a b ≤ N := by
  unfold FP.Core.nearest
  have h1 := Nat.div_add_mod a b
  have h2 := Nat.mod_lt a hb
  have h3 : a / b ≤ N := Nat.div_le_of_le_mul (by rw [Nat.mul_comm]; exact h)
  by_cases hr : a % b = 0
  · rw [hr, if_pos (by omega)]
    exact h3
  · have h4 : a / b < N := by
      apply Nat.lt_of_not_le
      intro q
      have : N = a / b := Nat.le_antisymm q h3
      subst this
      rw [Nat.mul_comm] at h
      omega
    split
    · omega
    · split
      · omega
      · have := Nat.mod_lt (a / b) (show 0 < 2 by decide)
        omega
theorem fp_le_near {a b N : Nat} (hb : 0 < b) (h : N * b ≤ a) : N ≤ FP.Core.nearest a b := by
  unfold FP.Core.nearest
  have h3 : N ≤ a / b := (Nat.le_div_iff_mul_le hb).mpr h
  split
  · exact h3
  · split <;> omega
/-- 2^k is at most num / den, and 2^(k + 1) is more, at k = leading num den -/
theorem fp_lead {num den : Nat} (hn : 0 < num) (hd : 0 < den) : den * 2 ^ (FP.Core.leading num den).toNat ≤ num * 2 ^ (-FP.Core.leading num den).toNat ∧ num * 2 ^ (-FP.Core.leading num den).toNat < 2 * den * 2 ^ (FP.Core.leading num den).toNat := by
  have a1 : 2 ^ num.log2 ≤ num := Nat.log2_self_le (by omega)
  have a2 : num < 2 ^ (num.log2 + 1) := Nat.lt_log2_self
  have b1 : 2 ^ den.log2 ≤ den := Nat.log2_self_le (by omega)
  have b2 : den < 2 ^ (den.log2 + 1) := Nat.lt_log2_self
  unfold FP.Core.leading
  generalize num.log2 = u at *
  generalize den.log2 = v at *
  have key : num * 2 ^ (-((u : Int) - (v : Int))).toNat < 2 * den * 2 ^ ((u : Int) - (v : Int)).toNat := by
    rcases Nat.le_total v u with h | h
    · obtain ⟨k, rfl⟩ := Nat.exists_eq_add_of_le h
      have e1 : (-(((v + k : Nat) : Int) - (v : Int))).toNat = 0 := by omega
      have e2 : (((v + k : Nat) : Int) - (v : Int)).toNat = k := by omega
      rw [e1, e2, Nat.pow_zero, Nat.mul_one]
      calc num < 2 ^ (v + k + 1) := a2
        _ = 2 * 2 ^ v * 2 ^ k := by rw [Nat.pow_succ, Nat.pow_add, Nat.mul_comm, Nat.mul_assoc]
        _ ≤ 2 * den * 2 ^ k := Nat.mul_le_mul_right _ (Nat.mul_le_mul_left _ b1)
    · obtain ⟨k, rfl⟩ := Nat.exists_eq_add_of_le h
      have e1 : (-((u : Int) - ((u + k : Nat) : Int))).toNat = k := by omega
      have e2 : ((u : Int) - ((u + k : Nat) : Int)).toNat = 0 := by omega
      rw [e1, e2, Nat.pow_zero, Nat.mul_one]
      calc num * 2 ^ k < 2 ^ (u + 1) * 2 ^ k := Nat.mul_lt_mul_of_pos_right a2 (Nat.two_pow_pos k)
        _ = 2 * 2 ^ (u + k) := by rw [← Nat.pow_add, show u + 1 + k = (u + k) + 1 by omega, Nat.pow_succ, Nat.mul_comm]
        _ ≤ 2 * den := Nat.mul_le_mul_left _ b1
  have low : den * 2 ^ ((u : Int) - (v : Int) - 1).toNat ≤ num * 2 ^ (-((u : Int) - (v : Int) - 1)).toNat := by
    rcases Nat.lt_or_ge v u with h | h
    · obtain ⟨k, rfl⟩ := Nat.exists_eq_add_of_le h
      have e1 : (-(((v + 1 + k : Nat) : Int) - (v : Int) - 1)).toNat = 0 := by omega
      have e2 : (((v + 1 + k : Nat) : Int) - (v : Int) - 1).toNat = k := by omega
      rw [show v.succ + k = v + 1 + k from rfl, e1, e2, Nat.pow_zero, Nat.mul_one]
      calc den * 2 ^ k ≤ 2 ^ (v + 1) * 2 ^ k := Nat.mul_le_mul_right _ (Nat.le_of_lt b2)
        _ = 2 ^ (v + 1 + k) := (Nat.pow_add ..).symm
        _ ≤ num := a1
    · obtain ⟨k, rfl⟩ := Nat.exists_eq_add_of_le h
      have e1 : (-((u : Int) - ((u + k : Nat) : Int) - 1)).toNat = k + 1 := by omega
      have e2 : ((u : Int) - ((u + k : Nat) : Int) - 1).toNat = 0 := by omega
      rw [e1, e2, Nat.pow_zero, Nat.mul_one]
      calc den ≤ 2 ^ (u + k + 1) := Nat.le_of_lt b2
        _ = 2 ^ u * 2 ^ (k + 1) := by rw [← Nat.pow_add, Nat.add_assoc]
        _ ≤ num * 2 ^ (k + 1) := Nat.mul_le_mul_right _ a1
  simp only
  split
  · rename_i h
    exact ⟨h, key⟩
  · rename_i h
    refine ⟨low, ?_⟩
    have h' := Nat.lt_of_not_le h
    rcases Nat.lt_or_ge v u with g | g
    · obtain ⟨k, rfl⟩ := Nat.exists_eq_add_of_le g
      have e1 : (-(((v + 1 + k : Nat) : Int) - (v : Int) - 1)).toNat = 0 := by omega
      have e2 : (((v + 1 + k : Nat) : Int) - (v : Int) - 1).toNat = k := by omega
      have e3 : (-(((v + 1 + k : Nat) : Int) - (v : Int))).toNat = 0 := by omega
      have e4 : (((v + 1 + k : Nat) : Int) - (v : Int)).toNat = k + 1 := by omega
      rw [show v.succ + k = v + 1 + k from rfl, e3, e4, Nat.pow_succ] at h'
      rw [show v.succ + k = v + 1 + k from rfl, e1, e2]
      calc num * 2 ^ 0 < den * (2 ^ k * 2) := h'
        _ = 2 * den * 2 ^ k := by rw [Nat.mul_comm 2 den, Nat.mul_assoc, Nat.mul_comm 2]
    · obtain ⟨k, rfl⟩ := Nat.exists_eq_add_of_le g
      have e1 : (-((u : Int) - ((u + k : Nat) : Int) - 1)).toNat = k + 1 := by omega
      have e2 : ((u : Int) - ((u + k : Nat) : Int) - 1).toNat = 0 := by omega
      have e3 : (-((u : Int) - ((u + k : Nat) : Int))).toNat = k := by omega
      have e4 : ((u : Int) - ((u + k : Nat) : Int)).toNat = 0 := by omega
      rw [e3, e4, Nat.pow_zero, Nat.mul_one] at h'
      rw [e1, e2, Nat.pow_succ, Nat.pow_zero, Nat.mul_one, ← Nat.mul_assoc]
      omega
/-- units at the exponent qmin + t, against the same ratio in units of 2^qmin -/
theorem fp_units {num den a b t x y N : Nat} (h : x + b + t = a + y) : (num * 2 ^ x ≤ N * (den * 2 ^ y) ↔ num * 2 ^ a ≤ N * 2 ^ t * (den * 2 ^ b)) ∧ (N * (den * 2 ^ y) ≤ num * 2 ^ x ↔ N * 2 ^ t * (den * 2 ^ b) ≤ num * 2 ^ a) := by
  have p := Nat.two_pow_pos (b + t)
  have q := Nat.two_pow_pos y
  have e1 : num * 2 ^ x * 2 ^ (b + t) = num * 2 ^ a * 2 ^ y := by
    rw [Nat.mul_assoc, ← Nat.pow_add, Nat.mul_assoc, ← Nat.pow_add, ← h, Nat.add_assoc]
  have e2 : N * (den * 2 ^ y) * 2 ^ (b + t) = N * 2 ^ t * (den * 2 ^ b) * 2 ^ y := by
    rw [Nat.pow_add]
    simp only [Nat.mul_assoc, Nat.mul_comm, Nat.mul_left_comm]
  constructor
  · constructor
    · intro g
      have := Nat.mul_le_mul_right (2 ^ (b + t)) g
      rw [e1, e2] at this
      exact Nat.le_of_mul_le_mul_right this q
    · intro g
      have := Nat.mul_le_mul_right (2 ^ y) g
      rw [← e1, ← e2] at this
      exact Nat.le_of_mul_le_mul_right this p
  · constructor
    · intro g
      have := Nat.mul_le_mul_right (2 ^ (b + t)) g
      rw [e1, e2] at this
      exact Nat.le_of_mul_le_mul_right this q
    · intro g
      have := Nat.mul_le_mul_right (2 ^ y) g
      rw [← e1, ← e2] at this
      exact Nat.le_of_mul_le_mul_right this p
theorem fp_pw {d m n : Nat} (hd : 0 < d) (h : d * 2 ^ m < d * 2 ^ n) : m < n := (Nat.pow_lt_pow_iff_right (by decide : 1 < 2)).mp (Nat.lt_of_mul_lt_mul_left h)
/-- rounding goes past no number that the format has -/
theorem fp_round (hp : 1 ≤ f.p) {s : Bool} {num den : Nat} {e : Int} (hn : 0 < num) (hd : 0 < den) {a b : Nat} (hab : (a : Int) - (b : Int) = e - f.qmin) {c0 j : Nat} (hc0 : c0 < 2 ^ f.p) (hj : f.qmin + (j : Int) ≤ f.qmax) (hB : num * 2 ^ a ≤ c0 * 2 ^ j * (den * 2 ^ b)) :
    ∃ c t : Nat, FP.Core.roundRatio f s num den e = .fin s c (f.qmin + (t : Int)) ∧ c < 2 ^ f.p ∧ f.qmin + (t : Int) ≤ f.qmax ∧ (t = 0 ∨ f.tails ≤ c) ∧ c * 2 ^ t ≤ c0 * 2 ^ j ∧ ∀ c1 j1 : Nat, c1 < 2 ^ f.p → c1 * 2 ^ j1 * (den * 2 ^ b) ≤ num * 2 ^ a → c1 * 2 ^ j1 ≤ c * 2 ^ t := by
  obtain ⟨l1, l2⟩ := fp_lead hn hd
  have hq : FP.Core.quantum f num den e = max f.qmin (FP.Core.leading num den + e - ((f.p : Int) - 1)) := rfl
  generalize FP.Core.leading num den = k at l1 l2 hq
  obtain ⟨kp, km, hk1, hk2, hk⟩ : ∃ kp km : Nat, k.toNat = kp ∧ (-k).toNat = km ∧ k = (kp : Int) - (km : Int) := ⟨_, _, rfl, rfl, by omega⟩
  rw [hk1, hk2] at l1 l2
  obtain ⟨t, ht⟩ : ∃ t : Nat, FP.Core.quantum f num den e = f.qmin + (t : Int) := ⟨(FP.Core.quantum f num den e - f.qmin).toNat, by omega⟩
  have hxy : (e - (f.qmin + (t : Int))).toNat + b + t = a + ((f.qmin + (t : Int)) - e).toNat := by omega
  have tle : t ≤ j := by
    by_cases h0 : t = 0
    · omega
    · have hkt : k + e - ((f.p : Int) - 1) = f.qmin + (t : Int) := by omega
      have h1 : den * 2 ^ (kp + a) < den * 2 ^ (f.p + j + b + km) := by
        calc den * 2 ^ (kp + a) = den * 2 ^ kp * 2 ^ a := by rw [Nat.pow_add, Nat.mul_assoc]
          _ ≤ num * 2 ^ km * 2 ^ a := Nat.mul_le_mul_right _ l1
          _ = num * 2 ^ a * 2 ^ km := by rw [Nat.mul_assoc, Nat.mul_comm (2 ^ km), ← Nat.mul_assoc]
          _ ≤ c0 * 2 ^ j * (den * 2 ^ b) * 2 ^ km := Nat.mul_le_mul_right _ hB
          _ < 2 ^ f.p * 2 ^ j * (den * 2 ^ b) * 2 ^ km := by
            apply Nat.mul_lt_mul_of_pos_right _ (Nat.two_pow_pos km)
            apply Nat.mul_lt_mul_of_pos_right _ (Nat.mul_pos hd (Nat.two_pow_pos b))
            exact Nat.mul_lt_mul_of_pos_right hc0 (Nat.two_pow_pos j)
          _ = den * 2 ^ (f.p + j + b + km) := by
            simp only [Nat.pow_add, Nat.mul_assoc, Nat.mul_comm, Nat.mul_left_comm]
      have := fp_pw hd h1
      omega
  have up : ∀ N : Nat, num * 2 ^ a ≤ N * 2 ^ t * (den * 2 ^ b) → FP.Core.nearest (num * 2 ^ (e - (f.qmin + (t : Int))).toNat) (den * 2 ^ ((f.qmin + (t : Int)) - e).toNat) ≤ N := fun N h => fp_near_le (Nat.mul_pos hd (Nat.two_pow_pos _)) ((fp_units hxy).1.mpr h)
  have lo : ∀ N : Nat, N * 2 ^ t * (den * 2 ^ b) ≤ num * 2 ^ a → N ≤ FP.Core.nearest (num * 2 ^ (e - (f.qmin + (t : Int))).toNat) (den * 2 ^ ((f.qmin + (t : Int)) - e).toNat) := fun N h => fp_le_near (Nat.mul_pos hd (Nat.two_pow_pos _)) ((fp_units hxy).2.mpr h)
  have hr : FP.Core.roundRatio f s num den e = FP.Core.settle f s (FP.Core.nearest (num * 2 ^ (e - (f.qmin + (t : Int))).toNat) (den * 2 ^ ((f.qmin + (t : Int)) - e).toNat)) (f.qmin + (t : Int)) := by
    unfold FP.Core.roundRatio
    rw [if_neg (by omega)]
    unfold FP.Core.roundAt FP.Core.unitsNum FP.Core.unitsDen
    rw [ht]
  generalize FP.Core.nearest (num * 2 ^ (e - (f.qmin + (t : Int))).toNat) (den * 2 ^ ((f.qmin + (t : Int)) - e).toNat) = cc at up lo hr
  have cB : cc ≤ c0 * 2 ^ (j - t) := up _ (by rw [Nat.mul_assoc c0, ← Nat.pow_add, Nat.sub_add_cancel tle]; exact hB)
  have cBt : cc * 2 ^ t ≤ c0 * 2 ^ j := by
    calc cc * 2 ^ t ≤ c0 * 2 ^ (j - t) * 2 ^ t := Nat.mul_le_mul_right _ cB
      _ = c0 * 2 ^ j := by rw [Nat.mul_assoc, ← Nat.pow_add, Nat.sub_add_cancel tle]
  have cP : cc ≤ 2 ^ f.p := up _ (by
    have h1 : num * 2 ^ a * 2 ^ km ≤ 2 ^ f.p * 2 ^ t * (den * 2 ^ b) * 2 ^ km := by
      calc num * 2 ^ a * 2 ^ km = num * 2 ^ km * 2 ^ a := by rw [Nat.mul_assoc, Nat.mul_comm (2 ^ a), ← Nat.mul_assoc]
        _ ≤ 2 * den * 2 ^ kp * 2 ^ a := Nat.mul_le_mul_right _ (Nat.le_of_lt l2)
        _ = den * 2 ^ (kp + 1 + a) := by
          rw [Nat.pow_add, Nat.pow_succ]
          simp only [Nat.mul_assoc, Nat.mul_comm, Nat.mul_left_comm]
        _ ≤ den * 2 ^ (f.p + t + b + km) := Nat.mul_le_mul_left _ (Nat.pow_le_pow_right (by decide) (by omega))
        _ = 2 ^ f.p * 2 ^ t * (den * 2 ^ b) * 2 ^ km := by
          simp only [Nat.pow_add, Nat.mul_assoc, Nat.mul_comm, Nat.mul_left_comm]
    exact Nat.le_of_mul_le_mul_right h1 (Nat.two_pow_pos km))
  have cT : t = 0 ∨ f.tails ≤ cc := by
    by_cases h0 : t = 0
    · exact Or.inl h0
    · refine Or.inr (lo _ ?_)
      have hkt : k + e - ((f.p : Int) - 1) = f.qmin + (t : Int) := by omega
      have h1 : f.tails * 2 ^ t * (den * 2 ^ b) * 2 ^ km ≤ num * 2 ^ a * 2 ^ km := by
        calc f.tails * 2 ^ t * (den * 2 ^ b) * 2 ^ km = den * 2 ^ (f.p - 1 + t + b + km) := by
              unfold FP.Core.Fmt.tails
              simp only [Nat.pow_add, Nat.mul_assoc, Nat.mul_comm, Nat.mul_left_comm]
          _ = den * 2 ^ kp * 2 ^ a := by rw [show f.p - 1 + t + b + km = kp + a by omega, Nat.pow_add, Nat.mul_assoc]
          _ ≤ num * 2 ^ km * 2 ^ a := Nat.mul_le_mul_right _ l1
          _ = num * 2 ^ a * 2 ^ km := by rw [Nat.mul_assoc, Nat.mul_comm (2 ^ km), ← Nat.mul_assoc]
      exact Nat.le_of_mul_le_mul_right h1 (Nat.two_pow_pos km)
  have cL : ∀ c1 j1 : Nat, c1 < 2 ^ f.p → c1 * 2 ^ j1 * (den * 2 ^ b) ≤ num * 2 ^ a → c1 * 2 ^ j1 ≤ cc * 2 ^ t := by
    intro c1 j1 h1 h2
    by_cases htj : t ≤ j1
    · have := lo (c1 * 2 ^ (j1 - t)) (by rw [Nat.mul_assoc c1, ← Nat.pow_add, Nat.sub_add_cancel htj]; exact h2)
      calc c1 * 2 ^ j1 = c1 * 2 ^ (j1 - t) * 2 ^ t := by rw [Nat.mul_assoc, ← Nat.pow_add, Nat.sub_add_cancel htj]
        _ ≤ cc * 2 ^ t := Nat.mul_le_mul_right _ this
    · have h3 : f.tails ≤ cc := by rcases cT with h | h <;> omega
      calc c1 * 2 ^ j1 ≤ 2 ^ f.p * 2 ^ j1 := Nat.mul_le_mul_right _ (Nat.le_of_lt h1)
        _ = 2 ^ (f.p + j1) := (Nat.pow_add ..).symm
        _ ≤ 2 ^ (f.p - 1 + t) := Nat.pow_le_pow_right (by decide) (by omega)
        _ = f.tails * 2 ^ t := Nat.pow_add ..
        _ ≤ cc * 2 ^ t := Nat.mul_le_mul_right _ h3
  rw [hr]
  unfold FP.Core.settle
  by_cases hlt : cc < 2 ^ f.p
  · rw [if_pos hlt]
    unfold FP.Core.bound
    rw [if_pos (by omega)]
    exact ⟨cc, t, rfl, hlt, by omega, cT, cBt, cL⟩
  · have hcc : cc = 2 ^ f.p := by omega
    have htj : t + 1 ≤ j := by
      apply Nat.lt_of_not_le
      intro h
      have : j - t = 0 := by omega
      rw [this, Nat.pow_zero, Nat.mul_one] at cB
      omega
    have e2 : f.tails * 2 ^ (t + 1) = cc * 2 ^ t := by
      rw [hcc]
      unfold FP.Core.Fmt.tails
      rw [← Nat.pow_add, ← Nat.pow_add]
      congr 1
      omega
    rw [if_neg hlt]
    unfold FP.Core.bound
    rw [if_pos (by omega)]
    refine ⟨f.tails, t + 1, by rw [show f.qmin + (t : Int) + 1 = f.qmin + ((t + 1 : Nat) : Int) by omega], ?_, by omega, Or.inr (Nat.le_refl _), by rw [e2]; exact cBt, fun c1 j1 h1 h2 => by rw [e2]; exact cL c1 j1 h1 h2⟩
    unfold FP.Core.Fmt.tails
    exact Nat.pow_lt_pow_right (by decide) (by omega)
def fV (f : FP.Core.Fmt) (x : Nat) : Nat := if FP.Core.fieldE f x = 0 then FP.Core.fieldT f x else (f.tails + FP.Core.fieldT f x) * 2 ^ (FP.Core.fieldE f x - 1)
def fG (f : FP.Core.Fmt) (x : Nat) : Prop := x < (f.exps - 1) * f.tails
theorem fp_tails : 0 < f.tails := Nat.two_pow_pos _
theorem fp_exps (hw : 1 ≤ f.w) : f.exps = 2 * (f.emax + 1) := by
  have h : 2 ^ f.w = 2 * 2 ^ (f.w - 1) := by
    rw [Nat.mul_comm, ← Nat.pow_succ]
    congr 1
    omega
  have := Nat.two_pow_pos (f.w - 1)
  unfold FP.Core.Fmt.exps FP.Core.Fmt.emax
  omega
theorem fp_dec {x : Nat} (h : fG f x) : ∃ c t : Nat, FP.Core.decode f x = .fin false c (f.qmin + (t : Int)) ∧ fV f x = c * 2 ^ t := by
  have h1 : x / f.tails < f.exps - 1 := (Nat.div_lt_iff_lt_mul fp_tails).mpr h
  have hE : FP.Core.fieldE f x = x / f.tails := Nat.mod_eq_of_lt (by omega)
  have hS : FP.Core.fieldS f x = false := by
    unfold FP.Core.fieldS
    rw [Nat.div_eq_of_lt (show x / f.tails < f.exps by omega)]
    rfl
  unfold FP.Core.decode fV
  rw [hS, if_neg (by omega)]
  by_cases h0 : FP.Core.fieldE f x = 0
  · rw [if_pos h0, if_pos h0]
    exact ⟨FP.Core.fieldT f x, 0, by simp, by simp⟩
  · rw [if_neg h0, if_neg h0]
    refine ⟨f.tails + FP.Core.fieldT f x, FP.Core.fieldE f x - 1, ?_, rfl⟩
    congr 2
    omega
theorem fp_enc (hp : 1 ≤ f.p) (hw : 1 ≤ f.w) {c t : Nat} (h1 : c < 2 ^ f.p) (h2 : f.qmin + (t : Int) ≤ f.qmax) (h3 : t = 0 ∨ f.tails ≤ c) : fG f (FP.Core.encode f (.fin false c (f.qmin + (t : Int)))) ∧ fV f (FP.Core.encode f (.fin false c (f.qmin + (t : Int)))) = c * 2 ^ t := by
  have hx := fp_exps (f := f) hw
  have hq : f.qmax - f.qmin = 2 * (f.emax : Int) - 1 := by unfold FP.Core.Fmt.qmax FP.Core.Fmt.qmin; omega
  have he : f.emax ≠ 0 := by
    intro q
    rw [q] at hq
    omega
  have h2p : 2 ^ f.p = 2 * f.tails := by
    unfold FP.Core.Fmt.tails
    rw [Nat.mul_comm, ← Nat.pow_succ]
    congr 1
    omega
  have key : ∀ e tt : Nat, tt < f.tails → e < f.exps - 1 → FP.Core.assemble f false e tt = e * f.tails + tt ∧ fG f (e * f.tails + tt) ∧ FP.Core.fieldE f (e * f.tails + tt) = e ∧ FP.Core.fieldT f (e * f.tails + tt) = tt := by
    intro e tt g1 g2
    refine ⟨by simp [FP.Core.assemble], ?_, ?_, ?_⟩
    · unfold fG
      calc e * f.tails + tt < e * f.tails + f.tails := by omega
        _ = (e + 1) * f.tails := (Nat.succ_mul ..).symm
        _ ≤ (f.exps - 1) * f.tails := Nat.mul_le_mul_right _ (by omega)
    · unfold FP.Core.fieldE
      rw [Nat.mul_comm, Nat.mul_add_div fp_tails, Nat.div_eq_of_lt g1, Nat.add_zero, Nat.mod_eq_of_lt (by omega)]
    · unfold FP.Core.fieldT
      rw [Nat.mul_comm, Nat.mul_add_mod, Nat.mod_eq_of_lt g1]
  unfold FP.Core.encode
  simp only
  by_cases hc : c < f.tails
  · have ht : t = 0 := by omega
    subst ht
    obtain ⟨k1, k2, k3, k4⟩ := key 0 c hc (by omega)
    rw [if_pos hc, k1]
    refine ⟨k2, ?_⟩
    unfold fV
    rw [k3, if_pos rfl, k4]
    simp
  · have e1 : (f.qmin + (t : Int) - f.qmin).toNat = t := by omega
    obtain ⟨k1, k2, k3, k4⟩ := key (t + 1) (c - f.tails) (by omega) (by omega)
    rw [if_neg hc, e1, k1]
    refine ⟨k2, ?_⟩
    unfold fV
    rw [k3, if_neg (by omega), k4, Nat.add_sub_cancel, show f.tails + (c - f.tails) = c by omega]
/-- what rounding gives, as bits: no more than any number of the format that is no less, no less than any that is no more -/
theorem fp_rbits (hp : 1 ≤ f.p) (hw : 2 ≤ f.w) {num den : Nat} {e : Int} (hd : 0 < den) {a b : Nat} (hab : (a : Int) - (b : Int) = e - f.qmin) {c0 j : Nat} (hc0 : c0 < 2 ^ f.p) (hj : f.qmin + (j : Int) ≤ f.qmax) (hB : num * 2 ^ a ≤ c0 * 2 ^ j * (den * 2 ^ b)) :
    fG f (FP.Core.encode f (FP.Core.roundRatio f false num den e)) ∧ fV f (FP.Core.encode f (FP.Core.roundRatio f false num den e)) ≤ c0 * 2 ^ j ∧ ∀ c1 j1 : Nat, c1 < 2 ^ f.p → c1 * 2 ^ j1 * (den * 2 ^ b) ≤ num * 2 ^ a → c1 * 2 ^ j1 ≤ fV f (FP.Core.encode f (FP.Core.roundRatio f false num den e)) := by
  by_cases hn : num = 0
  · subst hn
    have hr : FP.Core.roundRatio f false 0 den e = .fin false 0 (f.qmin + ((0 : Nat) : Int)) := by simp [FP.Core.roundRatio]
    obtain ⟨g1, g2⟩ := fp_enc (f := f) hp (by omega) (c := 0) (t := 0) (Nat.two_pow_pos _) (by
      have : f.emax ≠ 0 := by
        unfold FP.Core.Fmt.emax
        have : 2 ^ 1 ≤ 2 ^ (f.w - 1) := Nat.pow_le_pow_right (by decide) (by omega)
        omega
      unfold FP.Core.Fmt.qmax FP.Core.Fmt.qmin
      omega) (Or.inl rfl)
    rw [hr]
    refine ⟨g1, by rw [g2]; simp, fun c1 j1 h1 h2 => ?_⟩
    rw [g2]
    have h3 : c1 * 2 ^ j1 * (den * 2 ^ b) = 0 := by omega
    rcases Nat.mul_eq_zero.mp h3 with h | h
    · omega
    · have := Nat.mul_pos hd (Nat.two_pow_pos b)
      omega
  · obtain ⟨c, t, h1, h2, h3, h4, h5, h6⟩ := fp_round (s := false) hp (Nat.pos_of_ne_zero hn) hd hab hc0 hj hB
    obtain ⟨g1, g2⟩ := fp_enc hp (by omega) h2 h3 h4
    rw [h1]
    exact ⟨g1, by rw [g2]; exact h5, fun c1 j1 k1 k2 => by rw [g2]; exact h6 c1 j1 k1 k2⟩
end FPS
