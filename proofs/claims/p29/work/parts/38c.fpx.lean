section FPX
variable {f g : FP.Core.Fmt}
def fGd (f : FP.Core.Fmt) : Prop := 1 ≤ f.p ∧ 2 ≤ f.w ∧ f.qmin ≤ 0
def fu (f : FP.Core.Fmt) : Nat := (-f.qmin).toNat
theorem fGd32 : fGd FP.Core.b32 := ⟨by decide, by decide, by decide⟩
theorem fGd64 : fGd FP.Core.b64 := ⟨by decide, by decide, by decide⟩
def fRp (f : FP.Core.Fmt) (v : Nat) : Prop := ∃ c t : Nat, c < 2 ^ f.p ∧ f.qmin + (t : Int) ≤ f.qmax ∧ v = c * 2 ^ t
/-- z is N / D, rounded -/
def fRd (f : FP.Core.Fmt) (z N D : Nat) : Prop := fG f z ∧ (∀ v, fRp f v → N ≤ v * D → fV f z ≤ v) ∧ ∀ v, fRp f v → v * D ≤ N → v ≤ fV f z
theorem fp_qq (h : fGd f) : f.qmax - f.qmin = 2 * (f.emax : Int) - 1 ∧ f.exps = 2 * (f.emax + 1) ∧ 2 ^ f.p = 2 * f.tails := by
  obtain ⟨h1, h2, h3⟩ := h
  refine ⟨by unfold FP.Core.Fmt.qmax FP.Core.Fmt.qmin; omega, fp_exps (by omega), ?_⟩
  unfold FP.Core.Fmt.tails
  rw [Nat.mul_comm, ← Nat.pow_succ]
  congr 1
  omega
theorem fp_E {x : Nat} (h : fG f x) : FP.Core.fieldE f x = x / f.tails ∧ x / f.tails < f.exps - 1 := by
  have h1 : x / f.tails < f.exps - 1 := (Nat.div_lt_iff_lt_mul fp_tails).mpr h
  exact ⟨Nat.mod_eq_of_lt (by omega), h1⟩
theorem fp_rep {x : Nat} (hg : fGd f) (h : fG f x) : ∃ c t : Nat, FP.Core.decode f x = .fin false c (f.qmin + (t : Int)) ∧ fV f x = c * 2 ^ t ∧ c < 2 ^ f.p ∧ f.qmin + (t : Int) ≤ f.qmax := by
  obtain ⟨q1, q2, q3⟩ := fp_qq hg
  obtain ⟨hE, h1⟩ := fp_E h
  have hT : FP.Core.fieldT f x < f.tails := Nat.mod_lt _ fp_tails
  have he : f.emax ≠ 0 := by
    unfold FP.Core.Fmt.emax
    have : 2 ^ 1 ≤ 2 ^ (f.w - 1) := Nat.pow_le_pow_right (by decide) (by have := hg.2.1; omega)
    omega
  have hS : FP.Core.fieldS f x = false := by
    unfold FP.Core.fieldS
    rw [Nat.div_eq_of_lt (show x / f.tails < f.exps by omega)]
    rfl
  unfold FP.Core.decode fV
  rw [hS, if_neg (by omega)]
  by_cases h0 : FP.Core.fieldE f x = 0
  · rw [if_pos h0, if_pos h0]
    exact ⟨FP.Core.fieldT f x, 0, by simp, by simp, by omega, by omega⟩
  · rw [if_neg h0, if_neg h0]
    refine ⟨f.tails + FP.Core.fieldT f x, FP.Core.fieldE f x - 1, ?_, rfl, by omega, by omega⟩
    congr 2
    omega
theorem fRp_of {x : Nat} (hg : fGd f) (h : fG f x) : fRp f (fV f x) := by
  obtain ⟨c, t, -, h2, h3, h4⟩ := fp_rep hg h
  exact ⟨c, t, h3, h4, h2⟩
/-- the value, of the bits alone -/
def fW (f : FP.Core.Fmt) (x : Nat) : Nat := if x / f.tails = 0 then x % f.tails else (f.tails + x % f.tails) * 2 ^ (x / f.tails - 1)
theorem fV_W {x : Nat} (h : fG f x) : fV f x = fW f x := by
  unfold fV fW
  rw [(fp_E h).1]
  rfl
theorem fW_succ (x : Nat) : fW f x < fW f (x + 1) := by
  have ht := fp_tails (f := f)
  have h1 := Nat.div_add_mod x f.tails
  have h2 := Nat.mod_lt x ht
  generalize hq : x / f.tails = q at h1
  generalize hr : x % f.tails = r at h1 h2
  have hp := Nat.two_pow_pos (q - 1)
  unfold fW
  rw [hq, hr]
  by_cases h : r + 1 < f.tails
  · have e : x + 1 = r + 1 + f.tails * q := by omega
    have e1 : (x + 1) / f.tails = q := by rw [e, Nat.add_mul_div_left _ _ ht, Nat.div_eq_of_lt h, Nat.zero_add]
    have e2 : (x + 1) % f.tails = r + 1 := by rw [e, Nat.add_mul_mod_self_left, Nat.mod_eq_of_lt h]
    rw [e1, e2]
    split
    · omega
    · exact Nat.mul_lt_mul_of_pos_right (by omega) hp
  · have hm : f.tails * (q + 1) = f.tails * q + f.tails := Nat.mul_succ ..
    have e : x + 1 = f.tails * (q + 1) := by omega
    have e1 : (x + 1) / f.tails = q + 1 := by rw [e, Nat.mul_div_cancel_left _ ht]
    have e2 : (x + 1) % f.tails = 0 := by rw [e, Nat.mul_mod_right]
    rw [e1, e2, if_neg (show ¬ q + 1 = 0 by omega), Nat.add_zero, Nat.add_sub_cancel]
    by_cases h0 : q = 0
    · rw [if_pos h0, h0, Nat.pow_zero]
      omega
    · rw [if_neg h0]
      have e3 : 2 ^ q = 2 * 2 ^ (q - 1) := by rw [Nat.mul_comm, ← Nat.pow_succ]; congr 1; omega
      rw [e3, ← Nat.mul_assoc]
      exact Nat.mul_lt_mul_of_pos_right (by omega) hp
theorem fW_lt {x y : Nat} (h : x < y) : fW f x < fW f y := by
  induction h with
  | refl => exact fW_succ x
  | step _ ih => exact Nat.lt_trans ih (fW_succ _)
theorem fW_iff {x y : Nat} : fW f x < fW f y ↔ x < y := by
  constructor
  · intro h
    apply Nat.lt_of_not_le
    intro q
    rcases Nat.lt_or_eq_of_le q with q | q
    · have := fW_lt (f := f) q
      omega
    · subst q
      omega
  · exact fW_lt
theorem fW_inj {x y : Nat} (h : fW f x = fW f y) : x = y := by
  rcases Nat.lt_trichotomy x y with q | q | q
  · have := fW_lt (f := f) q; omega
  · exact q
  · have := fW_lt (f := f) q; omega
theorem fV_inj {x y : Nat} (hx : fG f x) (hy : fG f y) (h : fV f x = fV f y) : x = y := by
  rw [fV_W hx, fV_W hy] at h
  exact fW_inj h
theorem fV_lt {x y : Nat} (hx : fG f x) (hy : fG f y) : fV f x < fV f y ↔ x < y := by
  rw [fV_W hx, fV_W hy]
  exact fW_iff
/-- twice the number, one exponent more -/
theorem fW_dbl {x : Nat} (h : f.tails ≤ x) : fW f (x + f.tails) = 2 * fW f x := by
  have ht := fp_tails (f := f)
  have h0 : 0 < x / f.tails := Nat.div_pos h ht
  unfold fW
  rw [Nat.add_div_right _ ht, Nat.add_mod_right, if_neg (by omega), if_neg (by omega), Nat.add_sub_cancel]
  have e3 : 2 ^ (x / f.tails) = 2 * 2 ^ (x / f.tails - 1) := by rw [Nat.mul_comm, ← Nat.pow_succ]; congr 1; omega
  rw [e3, Nat.mul_left_comm]
theorem fW_sub {x : Nat} (h : x < f.tails) : fW f x = x := by
  unfold fW
  rw [Nat.div_eq_of_lt h, if_pos rfl, Nat.mod_eq_of_lt h]
theorem fW_dbls {x : Nat} (h : x < f.tails) : fW f (2 * x) = 2 * x := by
  by_cases h2 : 2 * x < f.tails
  · exact fW_sub h2
  · have ht := fp_tails (f := f)
    have e : 2 * x = (2 * x - f.tails) + f.tails * 1 := by omega
    unfold fW
    have e1 : 2 * x / f.tails = 1 := by rw [e, Nat.add_mul_div_left _ _ ht, Nat.div_eq_of_lt (by omega)]
    have e2 : 2 * x % f.tails = 2 * x - f.tails := by
      rw [e, Nat.add_mul_mod_self_left, Nat.mod_eq_of_lt (by omega)]
      omega
    rw [e1, e2, if_neg (by decide), Nat.sub_self, Nat.pow_zero, Nat.mul_one]
    omega
-- the operations
theorem rd_bits (hg : fGd f) {num den : Nat} {e : Int} (hd : 0 < den) {a b : Nat} (hab : (a : Int) - (b : Int) = e - f.qmin) {N D : Nat} (eN : num * 2 ^ a = N) (eD : den * 2 ^ b = D) (hv : ∃ v, fRp f v ∧ N ≤ v * D) : fRd f (FP.Core.encode f (FP.Core.roundRatio f false num den e)) N D := by
  subst eN eD
  obtain ⟨v, ⟨c0, j, h1, h2, rfl⟩, h3⟩ := hv
  obtain ⟨k1, k2, k3⟩ := fp_rbits hg.1 hg.2.1 hd hab h1 h2 h3
  refine ⟨k1, ?_, ?_⟩
  · rintro v ⟨c, t, g1, g2, rfl⟩ hv
    exact (fp_rbits hg.1 hg.2.1 hd hab g1 g2 hv).2.1
  · rintro v ⟨c, t, g1, g2, rfl⟩ hv
    exact k3 c t g1 hv
theorem fu_eq (hg : fGd f) : (fu f : Int) = -f.qmin := by
  have := hg.2.2
  unfold fu
  omega
theorem rd_mul {x y : Nat} (hg : fGd f) (hx : fG f x) (hy : fG f y) (hv : ∃ v, fRp f v ∧ fV f x * fV f y ≤ v * 2 ^ fu f) : fRd f (FP.Core.mul f x y) (fV f x * fV f y) (2 ^ fu f) := by
  obtain ⟨c, t, e1, e2, -, -⟩ := fp_rep hg hx
  obtain ⟨d, r, e3, e4, -, -⟩ := fp_rep hg hy
  have hu := fu_eq hg
  unfold FP.Core.mul
  rw [e1, e3]
  refine rd_bits (num := c * d) (den := 1) hg Nat.one_pos (a := t + r) (b := fu f) (by omega) ?_ (Nat.one_mul _) hv
  rw [e2, e4, Nat.pow_add, Nat.mul_mul_mul_comm]
theorem rd_div {x y : Nat} (hg : fGd f) (hx : fG f x) (hy : fG f y) (h0 : 0 < fV f y) (hv : ∃ v, fRp f v ∧ fV f x * 2 ^ fu f ≤ v * fV f y) : fRd f (FP.Core.div f x y) (fV f x * 2 ^ fu f) (fV f y) := by
  obtain ⟨c, t, e1, e2, -, -⟩ := fp_rep hg hx
  obtain ⟨d, r, e3, e4, -, -⟩ := fp_rep hg hy
  have hu := fu_eq hg
  have hd : 0 < d := by
    rw [e4] at h0
    exact Nat.pos_of_mul_pos_right h0
  unfold FP.Core.div
  rw [e1, e3]
  unfold FP.Core.quotient
  simp only
  rw [if_neg (by omega)]
  refine rd_bits (num := c) (den := d) hg hd (a := t + fu f) (b := r) (by omega) ?_ e4.symm hv
  rw [e2, Nat.pow_add, Nat.mul_assoc]
theorem rd_add {x y : Nat} (hg : fGd f) (hx : fG f x) (hy : fG f y) (hv : ∃ v, fRp f v ∧ fV f x + fV f y ≤ v) : fRd f (FP.Core.add f x y) (fV f x + fV f y) 1 := by
  obtain ⟨c, t, e1, e2, -, -⟩ := fp_rep hg hx
  obtain ⟨d, r, e3, e4, -, -⟩ := fp_rep hg hy
  obtain ⟨k, hk⟩ : ∃ k : Nat, min (f.qmin + (t : Int)) (f.qmin + (r : Int)) = f.qmin + (k : Int) := ⟨min t r, by omega⟩
  have k1 : k ≤ t := by omega
  have k2 : k ≤ r := by omega
  have u1 : FP.Core.inUnits c (f.qmin + (t : Int)) (f.qmin + (k : Int)) = c * 2 ^ (t - k) := by
    unfold FP.Core.inUnits
    congr 2
    omega
  have u2 : FP.Core.inUnits d (f.qmin + (r : Int)) (f.qmin + (k : Int)) = d * 2 ^ (r - k) := by
    unfold FP.Core.inUnits
    congr 2
    omega
  have us : FP.Core.sumUnits false c (f.qmin + (t : Int)) false d (f.qmin + (r : Int)) (f.qmin + (k : Int)) = ((c * 2 ^ (t - k) + d * 2 ^ (r - k) : Nat) : Int) := by
    unfold FP.Core.sumUnits
    rw [u1, u2]
    simp [FP.Core.signed]
  have sg : ∀ m : Nat, FP.Core.sumSign false false ((m : Nat) : Int) = false := by
    intro m
    unfold FP.Core.sumSign
    split
    · rfl
    · exact decide_eq_false (by omega)
  unfold FP.Core.add
  rw [e1, e3]
  unfold FP.Core.exactSum
  simp only
  rw [hk, us, sg, Int.natAbs_natCast]
  refine rd_bits (num := c * 2 ^ (t - k) + d * 2 ^ (r - k)) (den := 1) hg Nat.one_pos (a := k) (b := 0) (by omega) ?_ rfl (by simpa using hv)
  rw [e2, e4, Nat.add_mul, Nat.mul_assoc, ← Nat.pow_add, Nat.mul_assoc, ← Nat.pow_add, Nat.sub_add_cancel k1, Nat.sub_add_cancel k2]
theorem rd_sub {x y : Nat} (hg : fGd f) (hx : fG f x) (hy : fG f y) (hxy : fV f y ≤ fV f x) : fRd f (FP.Core.sub f x y) (fV f x - fV f y) 1 := by
  have hv : ∃ v, fRp f v ∧ fV f x - fV f y ≤ v * 1 := ⟨_, fRp_of hg hx, by omega⟩
  obtain ⟨c, t, e1, e2, -, -⟩ := fp_rep hg hx
  obtain ⟨d, r, e3, e4, -, -⟩ := fp_rep hg hy
  obtain ⟨k, hk⟩ : ∃ k : Nat, min (f.qmin + (t : Int)) (f.qmin + (r : Int)) = f.qmin + (k : Int) := ⟨min t r, by omega⟩
  have k1 : k ≤ t := by omega
  have k2 : k ≤ r := by omega
  have u1 : FP.Core.inUnits c (f.qmin + (t : Int)) (f.qmin + (k : Int)) = c * 2 ^ (t - k) := by
    unfold FP.Core.inUnits
    congr 2
    omega
  have u2 : FP.Core.inUnits d (f.qmin + (r : Int)) (f.qmin + (k : Int)) = d * 2 ^ (r - k) := by
    unfold FP.Core.inUnits
    congr 2
    omega
  have m1 : c * 2 ^ (t - k) * 2 ^ k = fV f x := by rw [e2, Nat.mul_assoc, ← Nat.pow_add, Nat.sub_add_cancel k1]
  have m2 : d * 2 ^ (r - k) * 2 ^ k = fV f y := by rw [e4, Nat.mul_assoc, ← Nat.pow_add, Nat.sub_add_cancel k2]
  have le : d * 2 ^ (r - k) ≤ c * 2 ^ (t - k) := by
    rw [← m1, ← m2] at hxy
    exact Nat.le_of_mul_le_mul_right hxy (Nat.two_pow_pos k)
  have us : FP.Core.sumUnits false c (f.qmin + (t : Int)) (!false) d (f.qmin + (r : Int)) (f.qmin + (k : Int)) = ((c * 2 ^ (t - k) - d * 2 ^ (r - k) : Nat) : Int) := by
    unfold FP.Core.sumUnits
    rw [u1, u2]
    simp only [FP.Core.signed, Bool.not_false, if_true, if_false, Bool.false_eq_true]
    omega
  have sg : ∀ m : Nat, FP.Core.sumSign false (!false) ((m : Nat) : Int) = false := by
    intro m
    unfold FP.Core.sumSign
    split
    · rfl
    · exact decide_eq_false (by omega)
  unfold FP.Core.sub
  rw [e1, e3]
  unfold FP.Core.negate FP.Core.exactSum
  simp only
  rw [hk, us, sg, Int.natAbs_natCast]
  refine rd_bits (num := c * 2 ^ (t - k) - d * 2 ^ (r - k)) (den := 1) hg Nat.one_pos (a := k) (b := 0) (by omega) ?_ rfl hv
  rw [Nat.sub_mul, m1, m2]
theorem rd_conv {x k : Nat} (hg : fGd f) (hh : fGd g) (hx : fG f x) (hk : fu g = fu f + k) (hv : ∃ v, fRp g v ∧ fV f x * 2 ^ k ≤ v) : fRd g (FP.Core.convert f g x) (fV f x * 2 ^ k) 1 := by
  obtain ⟨c, t, e1, e2, -, -⟩ := fp_rep hg hx
  have hu := fu_eq hg
  have hw := fu_eq hh
  unfold FP.Core.convert
  rw [e1]
  refine rd_bits (num := c) (den := 1) hh Nat.one_pos (a := t + k) (b := 0) (by omega) ?_ rfl (by simpa using hv)
  rw [e2, Nat.pow_add, Nat.mul_assoc]
theorem rd_int {m : Nat} (hg : fGd f) (hv : ∃ v, fRp f v ∧ m * 2 ^ fu f ≤ v) : fRd f (FP.Core.fromInt f (m : Int)) (m * 2 ^ fu f) 1 := by
  have hu := fu_eq hg
  unfold FP.Core.fromInt FP.Core.ofInt
  rw [decide_eq_false (by omega), Int.natAbs_natCast]
  exact rd_bits (num := m) (den := 1) hg Nat.one_pos (a := fu f) (b := 0) (by omega) rfl rfl (by simpa using hv)
/-- rounding keeps what the format has -/
theorem rd_exact {z N D w : Nat} (h : fRd f z N D) (hD : 0 < D) (hw : fRp f w) (e : N = w * D) : fG f z ∧ fV f z = w := by
  have h1 := h.2.1 w hw (Nat.le_of_eq e)
  have h2 := h.2.2 w hw (Nat.le_of_eq e.symm)
  exact ⟨h.1, Nat.le_antisymm h1 h2⟩
theorem rd_eq {z N D w : Nat} (h : fRd f z N D) (hD : 0 < D) (hg : fGd f) (hw : fG f w) (e : N = fV f w * D) : z = w := by
  obtain ⟨h1, h2⟩ := rd_exact h hD (fRp_of hg hw) e
  exact fV_inj h1 hw h2
theorem fp_cmp {x y : Nat} (hg : fGd f) (hx : fG f x) (hy : fG f y) : FP.Core.cmp f x y = some (compare x y) := by
  have l1 := fV_lt hx hy
  have l2 := fV_lt hy hx
  obtain ⟨c, t, e1, e2, -, -⟩ := fp_rep hg hx
  obtain ⟨d, r, e3, e4, -, -⟩ := fp_rep hg hy
  obtain ⟨k, hk⟩ : ∃ k : Nat, min (f.qmin + (t : Int)) (f.qmin + (r : Int)) = f.qmin + (k : Int) := ⟨min t r, by omega⟩
  have k1 : k ≤ t := by omega
  have k2 : k ≤ r := by omega
  have u1 : FP.Core.inUnits c (f.qmin + (t : Int)) (f.qmin + (k : Int)) = c * 2 ^ (t - k) := by
    unfold FP.Core.inUnits
    congr 2
    omega
  have u2 : FP.Core.inUnits d (f.qmin + (r : Int)) (f.qmin + (k : Int)) = d * 2 ^ (r - k) := by
    unfold FP.Core.inUnits
    congr 2
    omega
  have m1 : c * 2 ^ (t - k) * 2 ^ k = fV f x := by rw [e2, Nat.mul_assoc, ← Nat.pow_add, Nat.sub_add_cancel k1]
  have m2 : d * 2 ^ (r - k) * 2 ^ k = fV f y := by rw [e4, Nat.mul_assoc, ← Nat.pow_add, Nat.sub_add_cancel k2]
  have p := Nat.two_pow_pos k
  have n1 : c * 2 ^ (t - k) < d * 2 ^ (r - k) ↔ fV f x < fV f y := by
    rw [← m1, ← m2]
    exact (Nat.mul_lt_mul_right p).symm
  have n2 : d * 2 ^ (r - k) < c * 2 ^ (t - k) ↔ fV f y < fV f x := by
    rw [← m1, ← m2]
    exact (Nat.mul_lt_mul_right p).symm
  unfold FP.Core.cmp
  rw [e1, e3]
  unfold FP.Core.order
  simp only
  rw [hk, u1, u2]
  congr 1
  rw [show FP.Core.signed false (c * 2 ^ (t - k)) = ((c * 2 ^ (t - k) : Nat) : Int) from rfl, show FP.Core.signed false (d * 2 ^ (r - k)) = ((d * 2 ^ (r - k) : Nat) : Int) from rfl]
  generalize c * 2 ^ (t - k) = A at *
  generalize d * 2 ^ (r - k) = B at *
  rcases Nat.lt_trichotomy x y with q | q | q
  · have a1 := n1.mpr (l1.mpr q)
    rw [Nat.compare_eq_lt.mpr q]
    exact Int.compare_eq_lt.mpr (by omega)
  · subst q
    have a1 : ¬ A < B := fun h => by have := n1.mp h; omega
    have a2 : ¬ B < A := fun h => by have := n2.mp h; omega
    rw [Nat.compare_eq_eq.mpr rfl]
    exact Int.compare_eq_eq.mpr (by omega)
  · have a1 := n2.mpr (l2.mpr q)
    rw [Nat.compare_eq_gt.mpr q]
    exact Int.compare_eq_gt.mpr (by omega)
theorem fp_trunc {c t : Nat} (hg : fGd f) : FP.Core.truncate false c (f.qmin + (t : Int)) = ((c * 2 ^ t / 2 ^ fu f : Nat) : Int) := by
  have hu := fu_eq hg
  unfold FP.Core.truncate
  show ((_ : Nat) : Int) = _
  congr 1
  by_cases h : fu f ≤ t
  · have e1 : (f.qmin + (t : Int)).toNat = t - fu f := by omega
    have e2 : (-(f.qmin + (t : Int))).toNat = 0 := by omega
    rw [e1, e2, Nat.pow_zero, Nat.div_one]
    have : 2 ^ t = 2 ^ (t - fu f) * 2 ^ fu f := by rw [← Nat.pow_add, Nat.sub_add_cancel h]
    rw [this, ← Nat.mul_assoc, Nat.mul_div_cancel _ (Nat.two_pow_pos _)]
  · have e1 : (f.qmin + (t : Int)).toNat = 0 := by omega
    have e2 : (-(f.qmin + (t : Int))).toNat = fu f - t := by omega
    rw [e1, e2, Nat.pow_zero, Nat.mul_one]
    have : 2 ^ fu f = 2 ^ (fu f - t) * 2 ^ t := by rw [← Nat.pow_add, Nat.sub_add_cancel (by omega)]
    rw [this, Nat.mul_div_mul_right _ _ (Nat.two_pow_pos _)]
theorem fp_toInt {x : Nat} (hg : fGd f) (hx : fG f x) {lo hi : Int} (hlo : lo ≤ 0) (hhi : ((fV f x / 2 ^ fu f : Nat) : Int) ≤ hi) : FP.Core.toInt lo hi (FP.Core.decode f x) = ((fV f x / 2 ^ fu f : Nat) : Int) := by
  obtain ⟨c, t, e1, e2, -, -⟩ := fp_rep hg hx
  rw [e2] at hhi ⊢
  rw [e1]
  show max lo (min hi (FP.Core.truncate false c (f.qmin + (t : Int)))) = _
  rw [fp_trunc hg, Int.min_eq_right hhi, Int.max_eq_right (Int.le_trans hlo (Int.natCast_nonneg _))]
end FPX
