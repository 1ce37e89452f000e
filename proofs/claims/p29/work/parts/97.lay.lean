section LAYZ
def l_sh : List (Nat × Nat) := [(11, 0), (0, 3), (0, 16), (0, 30), (1, 16), (0, 16), (0, 16), (0, 16), (5, 0), (0, 12), (0, 12), (5, 0), (0, 12), (0, 12)]
def l_tb : List (Nat × Nat) := (13, 0) :: (l_sh ++ (l_sh ++ ([(12, 0), (0, 6), (8, 0), (9, 0), (3, 80), (6, 0), (7, 0), (4, 7)] ++ (l_sh ++ (l_sh ++ (l_sh ++ (l_sh ++ (l_sh ++ (l_sh ++ (l_sh ++ ([(4, 2)] ++ (l_sh ++ (l_sh ++ [(2, 2)])))))))))))))
def lay0 (L : Nat) : mL := fun k => if k = 0 then (0, L) else (l_tb ++ l_tb).getD (k - 1) (10, 0)
theorem whole_start {p : Program} {e : Env} {s : State} {m : MethodId} {below : List Frame} {meth : Method} {c : Code} (l : Launch) (hflags : l.flags = flags0) {b L : Nat} {xs : Nat → Int32} (hL : L ≤ 260) (C0 : lw_At p s m meth c b L xs) : W p l e room_1 s m #[Value.ref b] below meth c s.heap [] 0 0 (lw_Z below #[Value.ref b] s) (entryFrame m ([Value.ref b] : List Value).toArray 8) := by
  refine m_start l C0 (lay := lay0 L) rfl (I := fun a j => if a = 0 then xs j else 0) (F := fun _ _ => 0) (fun j hj => if_pos rfl) ?_
  sorry
end LAYZ
