-- numbers, the general rewriting set
theorem m_kl_i (x : Int32) : m_kl (.int x) = .int x := rfl
theorem m_kl_f (x : UInt32) : m_kl (.float x) = .float x := rfl
theorem m_kl_r (x : Nat) : m_kl (.ref x) = .ref x := rfl
theorem m_kl_n : m_kl .null = .null := rfl
theorem m_kl_j : m_kl m_j = m_j := rfl
theorem m_kl_l (x : Int64) : m_kl (.long x) = m_j := rfl
theorem m_kl_d (x : UInt64) : m_kl (.double x) = m_j := rfl
theorem c_i (x : Int32) : (Value.int x).category = 1 := rfl
theorem c_f (x : UInt32) : (Value.float x).category = 1 := rfl
theorem c_r (x : Nat) : (Value.ref x).category = 1 := rfl
theorem c_n : Value.null.category = 1 := rfl
theorem n_lit (n : Nat) : (OfNat.ofNat n : Int32) = nI (OfNat.ofNat n) := rfl
