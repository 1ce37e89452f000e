section BITS
variable {lay : mL} {d a n n' : Nat} {I I' : mI} {F F' : mF} {R R' : mR} {Q : mP}
/-- floats and doubles that are numbers not below 0 -/
def fOK (x : UInt32) : Prop := x.toNat < 2139095040
def gOK (x : UInt64) : Prop := x.toNat = 0 ∨ (4503599627370496 ≤ x.toNat ∧ x.toNat < 9218868437227405312)
def q_fb (x : UInt32) : Int32 := nI x.toNat
def q_lb (x : UInt64) : Int64 := Int64.ofNat x.toNat
theorem s_ofFloat {x : UInt32} (hx : fOK x) (hd : 1 ≤ d) : Ev lay d 50 0 [.float x, m_j, m_j] [] I F R n Q ↔ Q (some (.int (q_fb x))) I F R n := by
  sorry
theorem s_ofDouble {x : UInt64} (hx : gOK x) (hd : 1 ≤ d) : Ev lay d 62 0 [.double x, m_j, m_j, m_j, m_j] [] I F R n Q ↔ Q (some (.long (q_lb x))) I F R n := by
  sorry
theorem s_bitsOf {x : UInt32} (hx : fOK x) : Ev lay d 134 0 [.float x, m_j, m_j] [] I F R n Q ↔ Q (some (.int (q_fb x))) I F R n := by
  sorry
theorem s_longBitsOf {x : UInt64} (hx : gOK x) : Ev lay d 143 0 [.double x, m_j, m_j, m_j, m_j, m_j] [] I F R n Q ↔ Q (some (.long (q_lb x))) I F R n := by
  sorry
end BITS
