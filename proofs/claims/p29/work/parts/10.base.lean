-- numbers, the general rewriting set
theorem m_kl_i (x : Int32) : m_kl (.int x) = .int x := rfl
theorem m_kl_f (x : UInt32) : m_kl (.float x) = .float x := rfl
theorem m_kl_r (x : Nat) : m_kl (.ref x) = .ref x := rfl
theorem m_kl_n : m_kl .null = .null := rfl
theorem m_kl_j : m_kl m_j = m_j := rfl
theorem m_kl_l (x : Int64) : m_kl (.long x) = m_j := rfl
theorem m_kl_d (x : UInt64) : m_kl (.double x) = m_j := rfl
theorem c_i (x : Int32) : (Value.int x).category = 1 := rfl
theorem c_f (x : UInt32) : (Value.float x).category = 1 := rfl
theorem c_r (x : Nat) : (Value.ref x).category = 1 := rfl
theorem c_n : Value.null.category = 1 := rfl
theorem m_psh_s (w : Value) (r : List Value) : m_psh (some w) r = w :: r := rfl
theorem m_psh_n (r : List Value) : m_psh none r = r := rfl
theorem m_rv_s (r : Nat) : m_rv (r + 1) = .ref (r + 1) := rfl
theorem m_rv_0 : m_rv 0 = .null := rfl
theorem m_rv_p {r : Nat} (h : 0 < r) : m_rv r = .ref r := by
  cases r with
  | zero => exact absurd h (by decide)
  | succ r => rfl
theorem m_pair {a b c d : Nat} : ((a, b) = (c, d)) ↔ (a = c ∧ b = d) := Prod.mk.injEq a b c d ▸ Iff.rfl
theorem n_lit (n : Nat) : (OfNat.ofNat n : Int32) = nI (OfNat.ofNat n) := rfl
theorem n_in {k N : Nat} (hk : k < 2147483648) (hN : N < 2147483648) : vp_in (nI k) N ↔ k < N := by
  constructor
  · intro h
    have := (vp_in_iff.mp h).2
    rw [nI_toInt (by omega)] at this
    omega
  · exact fun h => vp_in_nI h (by omega)
theorem n_min {k N : Nat} (hk : 0 < k) (hk2 : k < 2147483648) : vp_in (-nI k) N ↔ False := by
  rw [vp_in_iff, Int32.toInt_neg, nI_toInt (by omega)]
  constructor
  · intro h
    have := h.1
    simp [Int.bmod_def] at this
    omega
  · exact False.elim
theorem n_clamp {k : Nat} (h : k < 2147483648) : (nI k).toNatClampNeg = k := nI_clamp (by omega)
theorem n_eq {a b : Nat} (ha : a < 2147483648) (hb : b < 2147483648) : nI a = nI b ↔ a = b := nI_eq (by omega) (by omega)
theorem n_le {a b : Nat} (ha : a < 2147483648) (hb : b < 2147483648) : nI a ≤ nI b ↔ a ≤ b := nI_leI (by omega) (by omega)
theorem n_lt {a b : Nat} (ha : a < 2147483648) (hb : b < 2147483648) : nI a < nI b ↔ a < b := nI_ltI (by omega) (by omega)
theorem n_negT {k : Nat} (h : k < 2147483648) : (-nI k).toInt = -(k : Int) := by
  rw [Int32.toInt_neg, nI_toInt (by omega), Int.bmod_def]
  split <;> omega
theorem n_eqm {a m : Nat} (ha : a < 2147483648) (h0 : 0 < m) (hm : m < 2147483648) : nI a = -nI m ↔ False := by
  rw [← Int32.toInt_inj, n_negT hm, nI_toInt (by omega)]
  exact ⟨fun h => by omega, False.elim⟩
theorem n_meq {a m : Nat} (ha : a < 2147483648) (h0 : 0 < m) (hm : m < 2147483648) : -nI m = nI a ↔ False := by
  rw [← Int32.toInt_inj, n_negT hm, nI_toInt (by omega)]
  exact ⟨fun h => by omega, False.elim⟩
theorem n_meqm {a m : Nat} (ha : a < 2147483648) (hm : m < 2147483648) : -nI m = -nI a ↔ m = a := by
  rw [← Int32.toInt_inj, n_negT hm, n_negT ha]
  omega
theorem n_ltm {a m : Nat} (ha : a < 2147483648) (hm : m < 2147483648) : nI a < -nI m ↔ False := by
  rw [Int32.lt_iff_toInt_lt, n_negT hm, nI_toInt (by omega)]
  exact ⟨fun h => by omega, False.elim⟩
theorem n_lem {a m : Nat} (ha : a < 2147483648) (h0 : 0 < m) (hm : m < 2147483648) : nI a ≤ -nI m ↔ False := by
  rw [Int32.le_iff_toInt_le, n_negT hm, nI_toInt (by omega)]
  exact ⟨fun h => by omega, False.elim⟩
theorem n_mlt {a m : Nat} (ha : a < 2147483648) (h0 : 0 < m) (hm : m < 2147483648) : -nI m < nI a ↔ True := by
  rw [Int32.lt_iff_toInt_lt, n_negT hm, nI_toInt (by omega)]
  exact ⟨fun _ => trivial, fun _ => by omega⟩
theorem n_mle {a m : Nat} (ha : a < 2147483648) (hm : m < 2147483648) : -nI m ≤ nI a ↔ True := by
  rw [Int32.le_iff_toInt_le, n_negT hm, nI_toInt (by omega)]
  exact ⟨fun _ => trivial, fun _ => by omega⟩
theorem n_sub {a b : Nat} (h : b ≤ a) : nI a - nI b = nI (a - b) := pk_sub h
theorem n_div {a d : Nat} (ha : a < 2147483648) (h0 : 0 < d) (hd : d < 2147483648) : nI a / nI d = nI (a / d) := pk_div (by omega) h0 (by omega)
theorem n_and (a b : Nat) : nI a &&& nI b = nI (a &&& b) := by
  apply Int32.toBitVec_inj.1
  show BitVec.ofNat 32 a &&& BitVec.ofNat 32 b = BitVec.ofNat 32 (a &&& b)
  apply BitVec.eq_of_getLsbD_eq
  intro i hi
  simp [hi]
theorem n_or (a b : Nat) : nI a ||| nI b = nI (a ||| b) := by
  apply Int32.toBitVec_inj.1
  show BitVec.ofNat 32 a ||| BitVec.ofNat 32 b = BitVec.ofNat 32 (a ||| b)
  apply BitVec.eq_of_getLsbD_eq
  intro i hi
  simp [hi]
theorem n_xor (a b : Nat) : nI a ^^^ nI b = nI (a ^^^ b) := by
  apply Int32.toBitVec_inj.1
  show BitVec.ofNat 32 a ^^^ BitVec.ofNat 32 b = BitVec.ofNat 32 (a ^^^ b)
  apply BitVec.eq_of_getLsbD_eq
  intro i hi
  simp [hi]
theorem n_sl : ∀ n, n < 32 → ((nI n &&& 31).toBitVec.smod 32).toNat = n := by decide +kernel
theorem n_shl {x k : Nat} (hk : k < 32) (h : x * 2 ^ k < 4294967296) : nI x <<< (nI k &&& nI 31) = nI (x * 2 ^ k) := pk_shlN _ k (n_sl k hk) (by omega)
theorem n_shr {x k : Nat} (hk : k < 32) (h : x < 2147483648) : nI x >>> (nI k &&& nI 31) = nI (x / 2 ^ k) := pk_shrN (by omega) _ k (n_sl k hk)
theorem n_and1 (x : Nat) : nI x &&& nI 1 = nI (x % 2) := by
  rw [n_and, Nat.and_one_is_mod]
theorem n_inc (x : Nat) (k : Nat) : nI x + nI k = nI (x + k) := nI_add x k
theorem n_mul (a b : Nat) : nI a * nI b = nI (a * b) := pk_mul a b
/-- every int is a number below 2^31, or the negative of one up to 2^31 -/
theorem n_cases (x : Int32) : (∃ k : Nat, k < 2147483648 ∧ x = nI k) ∨ x < 0 := by
  by_cases h : x < 0
  · exact Or.inr h
  · obtain ⟨j, h1, h2⟩ := nI_of h
    exact Or.inl ⟨j, by omega, h2⟩
theorem m_up_off {α : Type} {f : Nat → Nat → α} {a k x : Nat} {v : α} (h : x ≠ a) : m_up f a k v x = f x := by
  funext j
  simp [m_up, h]
theorem m_up_at {α : Type} {f : Nat → Nat → α} {a k : Nat} {v : α} : m_up f a k v a k = v := by simp [m_up]
theorem m_up_ne {α : Type} {f : Nat → Nat → α} {a k j : Nat} {v : α} (h : j ≠ k) : m_up f a k v a j = f a j := by simp [m_up, h]
theorem m_row_off {α : Type} {f : Nat → Nat → α} {a x : Nat} {r : Nat → α} (h : x ≠ a) : m_row f a r x = f x := by
  funext j
  simp [m_row, h]
theorem m_row_at {α : Type} {f : Nat → Nat → α} {a : Nat} {r : Nat → α} : m_row f a r a = r := by
  funext j
  simp [m_row]
theorem m_up_hit {α : Type} {f : Nat → Nat → α} {a k b j : Nat} {v : α} (h : b = a) (h2 : j = k) : m_up f a k v b j = v := by
  subst h; subst h2; exact m_up_at
theorem m_up_miss {α : Type} {f : Nat → Nat → α} {a k b j : Nat} {v : α} (h : b ≠ a ∨ j ≠ k) : m_up f a k v b j = f b j := by
  unfold m_up
  rw [if_neg]
  intro h2
  cases h with
  | inl h => exact h h2.1
  | inr h => exact h h2.2
theorem m_row_hit {α : Type} {f : Nat → Nat → α} {a b : Nat} {r : Nat → α} {j : Nat} (h : b = a) : m_row f a r b j = r j := by
  subst h; rw [m_row_at]
theorem m_row_miss {α : Type} {f : Nat → Nat → α} {a b : Nat} {r : Nat → α} {j : Nat} (h : b ≠ a) : m_row f a r b j = f b j := by
  rw [m_row_off h]
theorem n_le_t {a b : Nat} (h : a ≤ b) (hb : b < 2147483648) : nI a ≤ nI b ↔ True := (n_le (by omega) hb).trans (iff_true_intro h)
theorem n_le_f {a b : Nat} (h : b < a) (ha : a < 2147483648) : nI a ≤ nI b ↔ False := (n_le ha (by omega)).trans (iff_false_intro (by omega))
theorem n_lt_t {a b : Nat} (h : a < b) (hb : b < 2147483648) : nI a < nI b ↔ True := (n_lt (by omega) hb).trans (iff_true_intro h)
theorem n_lt_f {a b : Nat} (h : b ≤ a) (ha : a < 2147483648) : nI a < nI b ↔ False := (n_lt ha (by omega)).trans (iff_false_intro (by omega))
theorem n_eq_t {a b : Nat} (h : a = b) : nI a = nI b ↔ True := iff_true_intro (by rw [h])
theorem n_eq_f {a b : Nat} (h : a ≠ b) (ha : a < 2147483648) (hb : b < 2147483648) : nI a = nI b ↔ False := (n_eq ha hb).trans (iff_false_intro h)
theorem n_sub0 {a b : Nat} (ha : a < 2147483648) (hb : b < 2147483648) : nI a - nI b = nI 0 ↔ a = b := by
  constructor
  · intro h
    have h2 : nI a = nI b := by
      have h3 : nI a - nI b + nI b = nI 0 + nI b := by rw [h]
      rw [Int32.sub_add_cancel, n_inc, Nat.zero_add] at h3
      exact h3
    exact (n_eq ha hb).mp h2
  · intro h
    rw [h, n_sub (Nat.le_refl _), Nat.sub_self]
theorem n_subT {a b : Nat} (ha : a < 2147483648) (hb : b < 2147483648) : (nI a - nI b).toInt = (a : Int) - b := by
  rw [Int32.toInt_sub, nI_toInt (by omega), nI_toInt (by omega), Int.bmod_def]
  split <;> omega
theorem n_sublt {a b : Nat} (ha : a < 2147483648) (hb : b < 2147483648) : nI a - nI b < nI 0 ↔ a < b := by
  rw [Int32.lt_iff_toInt_lt, n_subT ha hb, nI_toInt (by omega)]
  omega
theorem n_suble {a b : Nat} (ha : a < 2147483648) (hb : b < 2147483648) : nI 0 ≤ nI a - nI b ↔ b ≤ a := by
  rw [Int32.le_iff_toInt_le, n_subT ha hb, nI_toInt (by omega)]
  omega
theorem n_negsub {a b : Nat} (h : a ≤ b) (hb : b < 2147483648) : -(nI a - nI b) = nI (b - a) := by
  rw [Int32.neg_sub, n_sub h]
theorem m_nar0 : narrow .boolean (.int (nI 0)) = .int (nI 0) ↔ True := iff_true_intro rfl
theorem m_nar1 : narrow .boolean (.int (nI 1)) = .int (nI 1) ↔ True := iff_true_intro rfl
theorem n_rem (a k : Nat) : a - a / k * k = a % k := by
  have h := Nat.div_add_mod a k
  rw [Nat.mul_comm] at h
  omega
theorem z_lt {a b : Nat} (h : a < b) : a < b ↔ True := iff_true_intro h
theorem z_le {a b : Nat} (h : a ≤ b) : a ≤ b ↔ True := iff_true_intro h
theorem z_ne {a b : Nat} (h : a ≠ b) : a = b ↔ False := iff_false_intro h
theorem n_g1 {x : Int32} {k : Nat} (h : x < nI 0) (hk : k < 2147483648) : x < nI k ↔ True := by
  rw [Int32.lt_iff_toInt_lt, nI_toInt (by omega)] at *
  exact ⟨fun _ => trivial, fun _ => by omega⟩
theorem n_g2 {x : Int32} {k : Nat} (h : x < nI 0) (hk : k < 2147483648) : nI k ≤ x ↔ False := by
  rw [Int32.lt_iff_toInt_lt, nI_toInt (by omega)] at h
  rw [Int32.le_iff_toInt_le, nI_toInt (by omega)]
  exact ⟨fun _ => by omega, False.elim⟩
theorem n_g3 {x : Int32} {k : Nat} (h : x < nI 0) (hk : k < 2147483648) : x = nI k ↔ False := by
  rw [Int32.lt_iff_toInt_lt, nI_toInt (by omega)] at h
  refine ⟨fun e => ?_, False.elim⟩
  rw [e, nI_toInt (by omega)] at h
  omega
theorem n_g4 {x : Int32} {k : Nat} (h : x < nI 0) (hk : k < 2147483648) : x ≤ nI k ↔ True := by
  rw [Int32.lt_iff_toInt_lt, nI_toInt (by omega)] at h
  rw [Int32.le_iff_toInt_le, nI_toInt (by omega)]
  exact ⟨fun _ => trivial, fun _ => by omega⟩
theorem n_g5 {x : Int32} {k : Nat} (h : x < nI 0) (hk : k < 2147483648) : nI k < x ↔ False := by
  rw [Int32.lt_iff_toInt_lt, nI_toInt (by omega)] at *
  exact ⟨fun _ => by omega, False.elim⟩
theorem n_g (x : Int32) : (∃ k : Nat, k < 2147483648 ∧ x = nI k) ∨ x < nI 0 := n_cases x
theorem z_nlt {a b : Nat} (h : b ≤ a) : a < b ↔ False := iff_false_intro (by omega)
theorem z_nle {a b : Nat} (h : b < a) : a ≤ b ↔ False := iff_false_intro (by omega)
