section BITS
variable {lay : mL} {d a n n' : Nat} {I I' : mI} {F F' : mF} {R R' : mR} {Q : mP}
/-- floats and doubles that are numbers not below 0 -/
def fOK (x : UInt32) : Prop := x.toNat < 2139095040
def gOK (x : UInt64) : Prop := x.toNat = 0 ∨ (4503599627370496 ≤ x.toNat ∧ x.toNat < 9218868437227405312)
def q_fb (x : UInt32) : Int32 := nI x.toNat
def q_lb (x : UInt64) : Int64 := Int64.ofNat x.toNat
theorem s_ofFloat {x : UInt32} (hx : fOK x) (hd : 1 ≤ d) : Ev lay d 50 0 [.float x, m_j, m_j] [] I F R n Q ↔ Q (some (.int (q_fb x))) I F R n := by
  sorry
theorem s_ofDouble {x : UInt64} (hx : gOK x) (hd : 1 ≤ d) : Ev lay d 62 0 [.double x, m_j, m_j, m_j, m_j] [] I F R n Q ↔ Q (some (.long (q_lb x))) I F R n := by
  sorry
theorem s_bitsOf {x : UInt32} (hx : fOK x) : Ev lay d 134 0 [.float x, m_j, m_j] [] I F R n Q ↔ Q (some (.int (q_fb x))) I F R n := by
  sorry
theorem s_longBitsOf {x : UInt64} (hx : gOK x) : Ev lay d 143 0 [.double x, m_j, m_j, m_j, m_j, m_j] [] I F R n Q ↔ Q (some (.long (q_lb x))) I F R n := by
  sorry
/-- a float that is a number from 0 to B -/
def fLe (x : UInt32) (B : Nat) : Prop := fG FP.Core.b32 x.toNat ∧ fV FP.Core.b32 x.toNat ≤ B * 2 ^ 149
theorem fLe_0 {B : Nat} : fLe 0 B := by
  sorry
theorem fLe_ok {x : UInt32} {B : Nat} (h : fLe x B) : fOK x := by
  sorry
theorem fLe_mono {x : UInt32} {A B : Nat} (h : fLe x A) (hab : A ≤ B) : fLe x B := ⟨h.1, Nat.le_trans h.2 (Nat.mul_le_mul_right _ hab)⟩
theorem age_le {c p N : Nat} {x : UInt32} (hc : c ≤ 100) (hp : p ≤ 12) (hN : N < 9999) (hx : fLe x (12 * N)) : q_aok1 c p x ∧ fLe (q_agef c p x) (12 * (N + 1)) := by
  sorry
/-- speeds that 9999 nights can make -/
def spOK (N : Nat) (sp : Nat → UInt32) (m : Nat) : Prop := ∀ g, g < 16 → fLe (sp g) (12 * N) ∧ (m ≤ g → sp g = 0)
theorem wsum_ok {T : Nat → Nat} {sp : Nat → UInt32} {N : Nat} (hN : N ≤ 10000) (w : Wsh T) (hc : T 2 ≤ 9) (hs : ∀ g, g < 16 → fLe (sp g) (12 * N)) : q_wok T sp ∧ fOK (q_wsum T sp (T 3)) := by
  sorry
theorem mean_ok {T : Nat → Nat} {sp : Nat → UInt32} {N : Nat} (hN : N ≤ 10000) (w : T 3 ≤ 16) (hs : ∀ g, g < 16 → fLe (sp g) (12 * N)) : q_mok T sp ∧ gOK (q_mean T sp) := by
  sorry
end BITS
