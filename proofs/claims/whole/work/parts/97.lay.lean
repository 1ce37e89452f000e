section LAYZ
def l_sh : List (Nat × Nat) := [(11, 0), (0, 3), (0, 16), (0, 30), (1, 16), (0, 16), (0, 16), (0, 16), (5, 0), (0, 12), (0, 12), (5, 0), (0, 12), (0, 12)]
def l_tb : List (Nat × Nat) := (13, 0) :: (l_sh ++ (l_sh ++ ([(12, 0), (0, 6), (8, 0), (9, 0), (3, 80), (6, 0), (7, 0), (4, 7)] ++ (l_sh ++ (l_sh ++ (l_sh ++ (l_sh ++ (l_sh ++ (l_sh ++ (l_sh ++ ([(4, 2)] ++ (l_sh ++ (l_sh ++ ([(2, 2)] ++ [(14, 0), (0, 124), (1, 16), (0, 124), (1, 16), (0, 744), (1, 96), (0, 248), (1, 32), (0, 80), (0, 2048), (0, 2048), (0, 384), (0, 6)]))))))))))))))
def lay0 (L : Nat) : mL := fun k => if k = 0 then (0, L) else l_tb.getD (k - 1) (10, 0)
theorem lay0_s {L k : Nat} : lay0 L (k + 1) = l_tb.getD k (10, 0) := rfl
theorem lay0_n {L k : Nat} (h : 180 ≤ k) : lay0 L k = (10, 0) := by
  obtain ⟨j, rfl⟩ : ∃ j, k = j + 1 := ⟨k - 1, by omega⟩
  rw [lay0_s, List.getD_eq_getElem?_getD, List.getElem?_eq_none (by show 179 ≤ j; omega)]
  rfl
theorem lay0_C {L : Nat} : CL (lay0 L) := by
  refine ⟨rfl, rfl, rfl, rfl, rfl, rfl, rfl, rfl, rfl, rfl, rfl, ?_⟩
  rintro a (rfl | rfl | h | rfl | rfl)
  · exact ⟨rfl, rfl, rfl, rfl, rfl, rfl, rfl, rfl, rfl, rfl, rfl, rfl, rfl, rfl⟩
  · exact ⟨rfl, rfl, rfl, rfl, rfl, rfl, rfl, rfl, rfl, rfl, rfl, rfl, rfl, rfl⟩
  · obtain ⟨i, rfl, hi⟩ : ∃ i, a = 38 + 14 * i ∧ i < 7 := ⟨(a - 38) / 14, by omega, by omega⟩
    match i, hi with
    | 0, _ => exact ⟨rfl, rfl, rfl, rfl, rfl, rfl, rfl, rfl, rfl, rfl, rfl, rfl, rfl, rfl⟩
    | 1, _ => exact ⟨rfl, rfl, rfl, rfl, rfl, rfl, rfl, rfl, rfl, rfl, rfl, rfl, rfl, rfl⟩
    | 2, _ => exact ⟨rfl, rfl, rfl, rfl, rfl, rfl, rfl, rfl, rfl, rfl, rfl, rfl, rfl, rfl⟩
    | 3, _ => exact ⟨rfl, rfl, rfl, rfl, rfl, rfl, rfl, rfl, rfl, rfl, rfl, rfl, rfl, rfl⟩
    | 4, _ => exact ⟨rfl, rfl, rfl, rfl, rfl, rfl, rfl, rfl, rfl, rfl, rfl, rfl, rfl, rfl⟩
    | 5, _ => exact ⟨rfl, rfl, rfl, rfl, rfl, rfl, rfl, rfl, rfl, rfl, rfl, rfl, rfl, rfl⟩
    | 6, _ => exact ⟨rfl, rfl, rfl, rfl, rfl, rfl, rfl, rfl, rfl, rfl, rfl, rfl, rfl, rfl⟩
    | k + 7, h => omega
  · exact ⟨rfl, rfl, rfl, rfl, rfl, rfl, rfl, rfl, rfl, rfl, rfl, rfl, rfl, rfl⟩
  · exact ⟨rfl, rfl, rfl, rfl, rfl, rfl, rfl, rfl, rfl, rfl, rfl, rfl, rfl, rfl⟩
theorem lay0_D {L : Nat} : DL (lay0 L) := ⟨rfl, rfl, rfl, rfl, rfl, rfl, rfl, rfl, rfl, rfl, rfl, rfl, rfl, rfl⟩
theorem lay0_z {L : Nat} (hL : L ≤ 2048) (k : Nat) : m_cz (lay0 L k) ≤ 2048 := by
  match k with
  | 0 => exact hL
  | j + 1 =>
    rw [lay0_s]
    have h : ∀ q ∈ (10, 0) :: l_tb, m_cz q ≤ 2048 := by decide +kernel
    rw [List.getD_eq_getElem?_getD]
    cases hj : l_tb[j]? with
    | none => exact h _ (List.mem_cons_self ..)
    | some q => exact h _ (List.mem_cons_of_mem _ (List.mem_of_getElem? hj))
theorem lay0_sz {L : Nat} (hL : L ≤ 2048) : ∀ n, m_sz (lay0 L) n ≤ 2048 * n
  | 0 => Nat.le_refl _
  | n + 1 => by
    have h1 := lay0_sz hL n
    have h2 := lay0_z hL n
    show m_sz (lay0 L) n + m_cz (lay0 L n) ≤ 2048 * (n + 1)
    omega
theorem whole_start {p : Program} {e : Env} {s : State} {m : MethodId} {below : List Frame} {meth : Method} {c : Code} (l : Launch) (_ : l.flags = flags0) {b L : Nat} {xs : Nat → Int32} (hL : L ≤ 2048) (C0 : lw_At p s m meth c b L xs) : W p l e room_1 s m #[Value.ref b] below meth c s.heap [] 0 0 (lw_Z below #[Value.ref b] s) (entryFrame m ([Value.ref b] : List Value).toArray 4) := by
  refine m_start l C0 (lay := lay0 L) rfl (I := fun a j => if a = 0 then xs j else 0) (F := fun _ _ => 0) (fun j hj => if_pos rfl) ?_
  refine law_all (L := L) rfl hL lay0_C lay0_D (fun n h _ => lay0_n h) (fun I F R n hn => ⟨rfl, by omega, ?_⟩)
  have := lay0_sz hL n
  omega
end LAYZ
