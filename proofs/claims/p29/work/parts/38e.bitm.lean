theorem ET {m : Nat} (X : Nat) (hm : 0 < m) : ∃ E T, X = E * m + T ∧ T < m := ⟨X / m, X % m, (Nat.div_add_mod' X m).symm, Nat.mod_lt _ hm⟩
