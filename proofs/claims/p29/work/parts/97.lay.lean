section LAYZ
def l_sh : List (Nat × Nat) := [(11, 0), (0, 3), (0, 16), (0, 30), (1, 16), (0, 16), (0, 16), (0, 16), (5, 0), (0, 12), (0, 12), (5, 0), (0, 12), (0, 12)]
def l_tb : List (Nat × Nat) := (13, 0) :: (l_sh ++ (l_sh ++ ([(12, 0), (0, 6), (8, 0), (9, 0), (3, 80), (6, 0), (7, 0), (4, 7)] ++ (l_sh ++ (l_sh ++ (l_sh ++ (l_sh ++ (l_sh ++ (l_sh ++ (l_sh ++ ([(4, 2)] ++ (l_sh ++ (l_sh ++ [(2, 2)])))))))))))))
def lay0 (L : Nat) : mL := fun k => if k = 0 then (0, L) else if k ≤ 165 then l_tb.getD (k - 1) (10, 0) else if k ≤ 330 then l_tb.getD (k - 166) (10, 0) else (10, 0)
theorem lay0_lo {L k : Nat} (h1 : 1 ≤ k) (h2 : k ≤ 165) : lay0 L k = l_tb.getD (k - 1) (10, 0) := by
  unfold lay0
  rw [if_neg (by omega), if_pos h2]
theorem lay0_mi {L k : Nat} (h1 : 166 ≤ k) (h2 : k ≤ 330) : lay0 L k = l_tb.getD (k - 166) (10, 0) := by
  unfold lay0
  rw [if_neg (by omega), if_neg (by omega), if_pos h2]
theorem lay0_hi {L k : Nat} (h1 : 331 ≤ k) : lay0 L k = (10, 0) := by
  unfold lay0
  rw [if_neg (by omega), if_neg (by omega), if_neg (by omega)]
theorem l_tb_no : ∀ q ∈ l_tb, q ≠ (10, 0) := by decide +kernel
theorem l_tb_len : l_tb.length = 165 := by decide +kernel
theorem lay0_H {L : Nat} : HL (lay0 L) := by
  refine ⟨fun a => ?_, fun a h1 h2 => ?_, fun a h => lay0_hi h⟩
  · by_cases c0 : a = 0
    · subst c0; rfl
    · by_cases c1 : a ≤ 165
      · rw [sw_lo (by omega) c1, lay0_mi (by omega) (by omega), lay0_lo (by omega) c1, show a + 165 - 166 = a - 1 by omega]
      · by_cases c2 : a ≤ 330
        · rw [sw_mi (by omega) c2, lay0_lo (by omega) (by omega), lay0_mi (by omega) c2, show a - 165 - 1 = a - 166 by omega]
        · rw [sw_hi (by omega)]
  · refine Decidable.byContradiction fun c => ?_
    rw [lay0_mi (by omega) (by omega), List.getD_eq_getElem?_getD, List.getElem?_eq_getElem (by rw [l_tb_len]; omega)] at h2
    exact l_tb_no _ (List.getElem_mem _) h2
theorem lay0_C {L : Nat} : CL (lay0 L) := by
  refine ⟨rfl, rfl, rfl, rfl, rfl, rfl, rfl, rfl, rfl, rfl, rfl, ?_⟩
  rintro a (rfl | rfl | h | rfl | rfl)
  · exact ⟨rfl, rfl, rfl, rfl, rfl, rfl, rfl, rfl, rfl, rfl, rfl, rfl, rfl, rfl⟩
  · exact ⟨rfl, rfl, rfl, rfl, rfl, rfl, rfl, rfl, rfl, rfl, rfl, rfl, rfl, rfl⟩
  · obtain ⟨i, rfl, hi⟩ : ∃ i, a = 38 + 14 * i ∧ i < 7 := ⟨(a - 38) / 14, by omega, by omega⟩
    match i, hi with
    | 0, _ => exact ⟨rfl, rfl, rfl, rfl, rfl, rfl, rfl, rfl, rfl, rfl, rfl, rfl, rfl, rfl⟩
    | 1, _ => exact ⟨rfl, rfl, rfl, rfl, rfl, rfl, rfl, rfl, rfl, rfl, rfl, rfl, rfl, rfl⟩
    | 2, _ => exact ⟨rfl, rfl, rfl, rfl, rfl, rfl, rfl, rfl, rfl, rfl, rfl, rfl, rfl, rfl⟩
    | 3, _ => exact ⟨rfl, rfl, rfl, rfl, rfl, rfl, rfl, rfl, rfl, rfl, rfl, rfl, rfl, rfl⟩
    | 4, _ => exact ⟨rfl, rfl, rfl, rfl, rfl, rfl, rfl, rfl, rfl, rfl, rfl, rfl, rfl, rfl⟩
    | 5, _ => exact ⟨rfl, rfl, rfl, rfl, rfl, rfl, rfl, rfl, rfl, rfl, rfl, rfl, rfl, rfl⟩
    | 6, _ => exact ⟨rfl, rfl, rfl, rfl, rfl, rfl, rfl, rfl, rfl, rfl, rfl, rfl, rfl, rfl⟩
    | k + 7, h => omega
  · exact ⟨rfl, rfl, rfl, rfl, rfl, rfl, rfl, rfl, rfl, rfl, rfl, rfl, rfl, rfl⟩
  · exact ⟨rfl, rfl, rfl, rfl, rfl, rfl, rfl, rfl, rfl, rfl, rfl, rfl, rfl, rfl⟩
theorem l_tb_z : ∀ q ∈ (10, 0) :: l_tb, m_cz q ≤ 260 := by decide +kernel
theorem lay0_t {j : Nat} : m_cz (l_tb.getD j (10, 0)) ≤ 260 := by
  rw [List.getD_eq_getElem?_getD]
  cases hj : l_tb[j]? with
  | none => exact l_tb_z _ (List.mem_cons_self ..)
  | some q => exact l_tb_z _ (List.mem_cons_of_mem _ (List.mem_of_getElem? hj))
theorem lay0_z {L : Nat} (hL : L ≤ 260) (k : Nat) : m_cz (lay0 L k) ≤ 260 := by
  by_cases c0 : k = 0
  · subst c0; exact hL
  · by_cases c1 : k ≤ 165
    · rw [lay0_lo (by omega) c1]; exact lay0_t
    · by_cases c2 : k ≤ 330
      · rw [lay0_mi (by omega) c2]; exact lay0_t
      · rw [lay0_hi (by omega)]; exact l_tb_z _ (List.mem_cons_self ..)
theorem lay0_sz {L : Nat} (hL : L ≤ 260) : ∀ n, m_sz (lay0 L) n ≤ 260 * n
  | 0 => Nat.le_refl _
  | n + 1 => by
    have h1 := lay0_sz hL n
    have h2 := lay0_z hL n
    show m_sz (lay0 L) n + m_cz (lay0 L n) ≤ 260 * (n + 1)
    omega
theorem whole_start {p : Program} {e : Env} {s : State} {m : MethodId} {below : List Frame} {meth : Method} {c : Code} (l : Launch) (_ : l.flags = flags0) {b L : Nat} {xs : Nat → Int32} (hL : L ≤ 260) (C0 : lw_At p s m meth c b L xs) : W p l e room_1 s m #[Value.ref b] below meth c s.heap [] 0 0 (lw_Z below #[Value.ref b] s) (entryFrame m ([Value.ref b] : List Value).toArray 8) := by
  refine m_start l C0 (lay := lay0 L) rfl (I := fun a j => if a = 0 then xs j else 0) (F := fun _ _ => 0) (fun j hj => if_pos rfl) ?_
  refine law_all (L := L) lay0_H lay0_C rfl hL (fun I F R n hn => ⟨rfl, by omega, ?_⟩)
  have := lay0_sz hL n
  omega
end LAYZ
