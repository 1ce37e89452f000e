theorem e167_0 {lay : mL} {d : Nat} {ls st : List Value} {I : mI} {F : mF} {R : mR} {n : Nat} {Q : mP} : Ev lay d 167 0 ls st I F R n Q ↔ (lay n = (13, 0) ∧ Ev lay d 167 3 ls (.ref n :: st) (m_row I n (fun _ => 0)) F (m_row R n (fun _ => 0)) (n + 1) Q) := ev_nc rfl
theorem e167_3 {lay : mL} {d : Nat} {ls st : List Value} {I : mI} {F : mF} {R : mR} {n : Nat} {Q : mP} {v : Value} : Ev lay d 167 3 ls (v :: st) I F R n Q ↔ (v.category = 1 ∧ Ev lay d 167 4 ls (v :: v :: st) I F R n Q) := ev_nc rfl
theorem e167_4 {lay : mL} {d : Nat} {ls st : List Value} {I : mI} {F : mF} {R : mR} {n : Nat} {Q : mP} {a : Nat} : Ev lay d 167 4 ls (.ref a :: st) I F R n Q ↔ (((st.length ≤ 4 ∨ (st.map fun v => v.category).sum ≤ 8) ∧ 1 ≤ d) ∧ Ev lay (d - 1) 0 0 [.ref a, m_j] [] I F R n (fun v I F R n => Ev lay d 167 7 ls (m_psh v st) I F R n Q)) := ev_c rfl rfl
theorem e167_7 {lay : mL} {d : Nat} {ls st : List Value} {I : mI} {F : mF} {R : mR} {n : Nat} {Q : mP} {v0 v1 : Value} {x : Nat} : Ev lay d 167 7 (v0 :: v1 :: ls) (.ref x :: st) I F R n Q ↔ Ev lay d 167 8 (m_kl v0 :: .ref x :: ls) st I F R n Q := ev_nh rfl (show 1 < (v0 :: v1 :: ls).length by simp only [List.length_cons]; omega)
theorem e167_7N {lay : mL} {d : Nat} {ls st : List Value} {I : mI} {F : mF} {R : mR} {n : Nat} {Q : mP} {v0 v1 : Value} : Ev lay d 167 7 (v0 :: v1 :: ls) (.null :: st) I F R n Q ↔ Ev lay d 167 8 (m_kl v0 :: .null :: ls) st I F R n Q := ev_nh rfl (show 1 < (v0 :: v1 :: ls).length by simp only [List.length_cons]; omega)
theorem e167_8 {lay : mL} {d : Nat} {ls st : List Value} {I : mI} {F : mF} {R : mR} {n : Nat} {Q : mP} : Ev lay d 167 8 ls st I F R n Q ↔ (lay n = (14, 0) ∧ Ev lay d 167 11 ls (.ref n :: st) (m_row I n (fun _ => 0)) F (m_row R n (fun _ => 0)) (n + 1) Q) := ev_nc rfl
theorem e167_11 {lay : mL} {d : Nat} {ls st : List Value} {I : mI} {F : mF} {R : mR} {n : Nat} {Q : mP} {v : Value} : Ev lay d 167 11 ls (v :: st) I F R n Q ↔ (v.category = 1 ∧ Ev lay d 167 12 ls (v :: v :: st) I F R n Q) := ev_nc rfl
theorem e167_12 {lay : mL} {d : Nat} {ls st : List Value} {I : mI} {F : mF} {R : mR} {n : Nat} {Q : mP} {a : Nat} : Ev lay d 167 12 ls (.ref a :: st) I F R n Q ↔ (((st.length ≤ 4 ∨ (st.map fun v => v.category).sum ≤ 8) ∧ 1 ≤ d) ∧ Ev lay (d - 1) 96 0 [.ref a] [] I F R n (fun v I F R n => Ev lay d 167 15 ls (m_psh v st) I F R n Q)) := ev_c rfl rfl
theorem e167_15 {lay : mL} {d : Nat} {ls st : List Value} {I : mI} {F : mF} {R : mR} {n : Nat} {Q : mP} {v0 v1 v2 : Value} {x : Nat} : Ev lay d 167 15 (v0 :: v1 :: v2 :: ls) (.ref x :: st) I F R n Q ↔ Ev lay d 167 16 (v0 :: m_kl v1 :: .ref x :: ls) st I F R n Q := ev_nh rfl (show 2 < (v0 :: v1 :: v2 :: ls).length by simp only [List.length_cons]; omega)
theorem e167_15N {lay : mL} {d : Nat} {ls st : List Value} {I : mI} {F : mF} {R : mR} {n : Nat} {Q : mP} {v0 v1 v2 : Value} : Ev lay d 167 15 (v0 :: v1 :: v2 :: ls) (.null :: st) I F R n Q ↔ Ev lay d 167 16 (v0 :: m_kl v1 :: .null :: ls) st I F R n Q := ev_nh rfl (show 2 < (v0 :: v1 :: v2 :: ls).length by simp only [List.length_cons]; omega)
theorem e167_16 {lay : mL} {d : Nat} {ls st : List Value} {I : mI} {F : mF} {R : mR} {n : Nat} {Q : mP} : Ev lay d 167 16 ls st I F R n Q ↔ Ev lay d 167 17 ls (.int (0 : Int32) :: st) I F R n Q := ev_n rfl
theorem e167_17 {lay : mL} {d : Nat} {ls st : List Value} {I : mI} {F : mF} {R : mR} {n : Nat} {Q : mP} {v0 v1 v2 v3 : Value} {x : Int32} : Ev lay d 167 17 (v0 :: v1 :: v2 :: v3 :: ls) (.int x :: st) I F R n Q ↔ Ev lay d 167 18 (v0 :: v1 :: m_kl v2 :: .int x :: ls) st I F R n Q := ev_nh rfl (show 3 < (v0 :: v1 :: v2 :: v3 :: ls).length by simp only [List.length_cons]; omega)
theorem e167_18 {lay : mL} {d : Nat} {ls st : List Value} {I : mI} {F : mF} {R : mR} {n : Nat} {Q : mP} {v0 v1 v2 : Value} {x : Int32} : Ev lay d 167 18 (v0 :: v1 :: v2 :: .int x :: ls) st I F R n Q ↔ Ev lay d 167 19 (v0 :: v1 :: v2 :: .int x :: ls) (.int x :: st) I F R n Q := ev_n rfl
theorem e167_19 {lay : mL} {d : Nat} {ls st : List Value} {I : mI} {F : mF} {R : mR} {n : Nat} {Q : mP} {x : Nat} : Ev lay d 167 19 (.ref x :: ls) st I F R n Q ↔ Ev lay d 167 20 (.ref x :: ls) (.ref x :: st) I F R n Q := ev_n rfl
theorem e167_19N {lay : mL} {d : Nat} {ls st : List Value} {I : mI} {F : mF} {R : mR} {n : Nat} {Q : mP} : Ev lay d 167 19 (.null :: ls) st I F R n Q ↔ Ev lay d 167 20 (.null :: ls) (.null :: st) I F R n Q := ev_n rfl
theorem e167_20 {lay : mL} {d : Nat} {ls st : List Value} {I : mI} {F : mF} {R : mR} {n : Nat} {Q : mP} {a : Nat} : Ev lay d 167 20 ls (.ref a :: st) I F R n Q ↔ ((lay a).1 < 5 ∧ Ev lay d 167 21 ls (.int (Int32.ofNat (lay a).2) :: st) I F R n Q) := ev_nc rfl
theorem e167_21 {lay : mL} {d : Nat} {ls st : List Value} {I : mI} {F : mF} {R : mR} {n : Nat} {Q : mP} : Ev lay d 167 21 ls st I F R n Q ↔ Ev lay d 167 22 ls (.int (4 : Int32) :: st) I F R n Q := ev_n rfl
theorem e167_22 {lay : mL} {d : Nat} {ls st : List Value} {I : mI} {F : mF} {R : mR} {n : Nat} {Q : mP} {x y : Int32} : Ev lay d 167 22 ls (.int y :: .int x :: st) I F R n Q ↔ Ev lay d 167 23 ls (.int (x - y) :: st) I F R n Q := ev_n rfl
theorem e167_23 {lay : mL} {d : Nat} {ls st : List Value} {I : mI} {F : mF} {R : mR} {n : Nat} {Q : mP} {x y : Int32} : Ev lay d 167 23 ls (.int y :: .int x :: st) I F R n Q ↔ (if y < x then Ev lay d 167 807 ls st I F R n Q else Ev lay d 167 26 ls st I F R n Q) := (ev_n rfl).trans (ev_if _)
theorem e167_26 {lay : mL} {d : Nat} {ls st : List Value} {I : mI} {F : mF} {R : mR} {n : Nat} {Q : mP} {x : Nat} : Ev lay d 167 26 (.ref x :: ls) st I F R n Q ↔ Ev lay d 167 27 (.ref x :: ls) (.ref x :: st) I F R n Q := ev_n rfl
theorem e167_26N {lay : mL} {d : Nat} {ls st : List Value} {I : mI} {F : mF} {R : mR} {n : Nat} {Q : mP} : Ev lay d 167 26 (.null :: ls) st I F R n Q ↔ Ev lay d 167 27 (.null :: ls) (.null :: st) I F R n Q := ev_n rfl
theorem e167_27 {lay : mL} {d : Nat} {ls st : List Value} {I : mI} {F : mF} {R : mR} {n : Nat} {Q : mP} {v0 v1 v2 : Value} {x : Int32} : Ev lay d 167 27 (v0 :: v1 :: v2 :: .int x :: ls) st I F R n Q ↔ Ev lay d 167 28 (v0 :: v1 :: v2 :: .int x :: ls) (.int x :: st) I F R n Q := ev_n rfl
theorem e167_28 {lay : mL} {d : Nat} {ls st : List Value} {I : mI} {F : mF} {R : mR} {n : Nat} {Q : mP} {a : Nat} {i : Int32} : Ev lay d 167 28 ls (.int i :: .ref a :: st) I F R n Q ↔ (m_in lay 0 a i ∧ Ev lay d 167 29 ls (.int (I a i.toNatClampNeg) :: st) I F R n Q) := ev_nc rfl
theorem e167_29 {lay : mL} {d : Nat} {ls st : List Value} {I : mI} {F : mF} {R : mR} {n : Nat} {Q : mP} : Ev lay d 167 29 ls st I F R n Q ↔ Ev lay d 167 31 ls (.int (31 : Int32) :: st) I F R n Q := ev_n rfl
theorem e167_31 {lay : mL} {d : Nat} {ls st : List Value} {I : mI} {F : mF} {R : mR} {n : Nat} {Q : mP} {x y : Int32} : Ev lay d 167 31 ls (.int y :: .int x :: st) I F R n Q ↔ Ev lay d 167 32 ls (.int (x &&& y) :: st) I F R n Q := ev_n rfl
theorem e167_32 {lay : mL} {d : Nat} {ls st : List Value} {I : mI} {F : mF} {R : mR} {n : Nat} {Q : mP} {x : Int32} : Ev lay d 167 32 ls (.int x :: st) I F R n Q ↔ (if x = 0 then Ev lay d 167 152 ls st I F R n Q else (if x = 1 then Ev lay d 167 185 ls st I F R n Q else (if x = 2 then Ev lay d 167 208 ls st I F R n Q else (if x = 3 then Ev lay d 167 241 ls st I F R n Q else (if x = 4 then Ev lay d 167 264 ls st I F R n Q else (if x = 5 then Ev lay d 167 287 ls st I F R n Q else (if x = 6 then Ev lay d 167 300 ls st I F R n Q else (if x = 7 then Ev lay d 167 333 ls st I F R n Q else (if x = 8 then Ev lay d 167 366 ls st I F R n Q else (if x = 9 then Ev lay d 167 399 ls st I F R n Q else (if x = 10 then Ev lay d 167 442 ls st I F R n Q else (if x = 11 then Ev lay d 167 465 ls st I F R n Q else (if x = 12 then Ev lay d 167 488 ls st I F R n Q else (if x = 13 then Ev lay d 167 502 ls st I F R n Q else (if x = 14 then Ev lay d 167 525 ls st I F R n Q else (if x = 15 then Ev lay d 167 558 ls st I F R n Q else (if x = 16 then Ev lay d 167 581 ls st I F R n Q else (if x = 17 then Ev lay d 167 604 ls st I F R n Q else (if x = 18 then Ev lay d 167 637 ls st I F R n Q else (if x = 19 then Ev lay d 167 650 ls st I F R n Q else (if x = 20 then Ev lay d 167 703 ls st I F R n Q else (if x = 21 then Ev lay d 167 716 ls st I F R n Q else (if x = 22 then Ev lay d 167 729 ls st I F R n Q else (if x = 23 then Ev lay d 167 742 ls st I F R n Q else (if x = 24 then Ev lay d 167 755 ls st I F R n Q else (if x = 25 then Ev lay d 167 778 ls st I F R n Q else Ev lay d 167 801 ls st I F R n Q)))))))))))))))))))))))))) := by
  by_cases h0 : x = 0
  · subst h0
    exact (ev_n rfl).trans (iff_of_eq (by simp))
  by_cases h1 : x = 1
  · subst h1
    exact (ev_n rfl).trans (iff_of_eq (by simp))
  by_cases h2 : x = 2
  · subst h2
    exact (ev_n rfl).trans (iff_of_eq (by simp))
  by_cases h3 : x = 3
  · subst h3
    exact (ev_n rfl).trans (iff_of_eq (by simp))
  by_cases h4 : x = 4
  · subst h4
    exact (ev_n rfl).trans (iff_of_eq (by simp))
  by_cases h5 : x = 5
  · subst h5
    exact (ev_n rfl).trans (iff_of_eq (by simp))
  by_cases h6 : x = 6
  · subst h6
    exact (ev_n rfl).trans (iff_of_eq (by simp))
  by_cases h7 : x = 7
  · subst h7
    exact (ev_n rfl).trans (iff_of_eq (by simp))
  by_cases h8 : x = 8
  · subst h8
    exact (ev_n rfl).trans (iff_of_eq (by simp))
  by_cases h9 : x = 9
  · subst h9
    exact (ev_n rfl).trans (iff_of_eq (by simp))
  by_cases h10 : x = 10
  · subst h10
    exact (ev_n rfl).trans (iff_of_eq (by simp))
  by_cases h11 : x = 11
  · subst h11
    exact (ev_n rfl).trans (iff_of_eq (by simp))
  by_cases h12 : x = 12
  · subst h12
    exact (ev_n rfl).trans (iff_of_eq (by simp))
  by_cases h13 : x = 13
  · subst h13
    exact (ev_n rfl).trans (iff_of_eq (by simp))
  by_cases h14 : x = 14
  · subst h14
    exact (ev_n rfl).trans (iff_of_eq (by simp))
  by_cases h15 : x = 15
  · subst h15
    exact (ev_n rfl).trans (iff_of_eq (by simp))
  by_cases h16 : x = 16
  · subst h16
    exact (ev_n rfl).trans (iff_of_eq (by simp))
  by_cases h17 : x = 17
  · subst h17
    exact (ev_n rfl).trans (iff_of_eq (by simp))
  by_cases h18 : x = 18
  · subst h18
    exact (ev_n rfl).trans (iff_of_eq (by simp))
  by_cases h19 : x = 19
  · subst h19
    exact (ev_n rfl).trans (iff_of_eq (by simp))
  by_cases h20 : x = 20
  · subst h20
    exact (ev_n rfl).trans (iff_of_eq (by simp))
  by_cases h21 : x = 21
  · subst h21
    exact (ev_n rfl).trans (iff_of_eq (by simp))
  by_cases h22 : x = 22
  · subst h22
    exact (ev_n rfl).trans (iff_of_eq (by simp))
  by_cases h23 : x = 23
  · subst h23
    exact (ev_n rfl).trans (iff_of_eq (by simp))
  by_cases h24 : x = 24
  · subst h24
    exact (ev_n rfl).trans (iff_of_eq (by simp))
  by_cases h25 : x = 25
  · subst h25
    exact (ev_n rfl).trans (iff_of_eq (by simp))
  rw [if_neg h0, if_neg h1, if_neg h2, if_neg h3, if_neg h4, if_neg h5, if_neg h6, if_neg h7, if_neg h8, if_neg h9, if_neg h10, if_neg h11, if_neg h12, if_neg h13, if_neg h14, if_neg h15, if_neg h16, if_neg h17, if_neg h18, if_neg h19, if_neg h20, if_neg h21, if_neg h22, if_neg h23, if_neg h24, if_neg h25]
  have g0 : ¬ x.toInt = 0 := fun h => h0 (Int32.toInt_inj.mp h)
  have g1 : ¬ x.toInt = 1 := fun h => h1 (Int32.toInt_inj.mp h)
  have g2 : ¬ x.toInt = 2 := fun h => h2 (Int32.toInt_inj.mp h)
  have g3 : ¬ x.toInt = 3 := fun h => h3 (Int32.toInt_inj.mp h)
  have g4 : ¬ x.toInt = 4 := fun h => h4 (Int32.toInt_inj.mp h)
  have g5 : ¬ x.toInt = 5 := fun h => h5 (Int32.toInt_inj.mp h)
  have g6 : ¬ x.toInt = 6 := fun h => h6 (Int32.toInt_inj.mp h)
  have g7 : ¬ x.toInt = 7 := fun h => h7 (Int32.toInt_inj.mp h)
  have g8 : ¬ x.toInt = 8 := fun h => h8 (Int32.toInt_inj.mp h)
  have g9 : ¬ x.toInt = 9 := fun h => h9 (Int32.toInt_inj.mp h)
  have g10 : ¬ x.toInt = 10 := fun h => h10 (Int32.toInt_inj.mp h)
  have g11 : ¬ x.toInt = 11 := fun h => h11 (Int32.toInt_inj.mp h)
  have g12 : ¬ x.toInt = 12 := fun h => h12 (Int32.toInt_inj.mp h)
  have g13 : ¬ x.toInt = 13 := fun h => h13 (Int32.toInt_inj.mp h)
  have g14 : ¬ x.toInt = 14 := fun h => h14 (Int32.toInt_inj.mp h)
  have g15 : ¬ x.toInt = 15 := fun h => h15 (Int32.toInt_inj.mp h)
  have g16 : ¬ x.toInt = 16 := fun h => h16 (Int32.toInt_inj.mp h)
  have g17 : ¬ x.toInt = 17 := fun h => h17 (Int32.toInt_inj.mp h)
  have g18 : ¬ x.toInt = 18 := fun h => h18 (Int32.toInt_inj.mp h)
  have g19 : ¬ x.toInt = 19 := fun h => h19 (Int32.toInt_inj.mp h)
  have g20 : ¬ x.toInt = 20 := fun h => h20 (Int32.toInt_inj.mp h)
  have g21 : ¬ x.toInt = 21 := fun h => h21 (Int32.toInt_inj.mp h)
  have g22 : ¬ x.toInt = 22 := fun h => h22 (Int32.toInt_inj.mp h)
  have g23 : ¬ x.toInt = 23 := fun h => h23 (Int32.toInt_inj.mp h)
  have g24 : ¬ x.toInt = 24 := fun h => h24 (Int32.toInt_inj.mp h)
  have g25 : ¬ x.toInt = 25 := fun h => h25 (Int32.toInt_inj.mp h)
  have hc : x.toInt < 0 ∨ 25 < x.toInt := by omega
  exact ev_n (if_pos hc)
theorem e167_152 {lay : mL} {d : Nat} {ls st : List Value} {I : mI} {F : mF} {R : mR} {n : Nat} {Q : mP} {v0 : Value} {x : Nat} : Ev lay d 167 152 (v0 :: .ref x :: ls) st I F R n Q ↔ Ev lay d 167 153 (v0 :: .ref x :: ls) (.ref x :: st) I F R n Q := ev_n rfl
theorem e167_152N {lay : mL} {d : Nat} {ls st : List Value} {I : mI} {F : mF} {R : mR} {n : Nat} {Q : mP} {v0 : Value} : Ev lay d 167 152 (v0 :: .null :: ls) st I F R n Q ↔ Ev lay d 167 153 (v0 :: .null :: ls) (.null :: st) I F R n Q := ev_n rfl
theorem e167_153 {lay : mL} {d : Nat} {ls st : List Value} {I : mI} {F : mF} {R : mR} {n : Nat} {Q : mP} {x : Nat} : Ev lay d 167 153 (.ref x :: ls) st I F R n Q ↔ Ev lay d 167 154 (.ref x :: ls) (.ref x :: st) I F R n Q := ev_n rfl
theorem e167_153N {lay : mL} {d : Nat} {ls st : List Value} {I : mI} {F : mF} {R : mR} {n : Nat} {Q : mP} : Ev lay d 167 153 (.null :: ls) st I F R n Q ↔ Ev lay d 167 154 (.null :: ls) (.null :: st) I F R n Q := ev_n rfl
theorem e167_154 {lay : mL} {d : Nat} {ls st : List Value} {I : mI} {F : mF} {R : mR} {n : Nat} {Q : mP} {v0 v1 v2 : Value} {x : Int32} : Ev lay d 167 154 (v0 :: v1 :: v2 :: .int x :: ls) st I F R n Q ↔ Ev lay d 167 155 (v0 :: v1 :: v2 :: .int x :: ls) (.int x :: st) I F R n Q := ev_n rfl
theorem e167_155 {lay : mL} {d : Nat} {ls st : List Value} {I : mI} {F : mF} {R : mR} {n : Nat} {Q : mP} : Ev lay d 167 155 ls st I F R n Q ↔ Ev lay d 167 156 ls (.int (1 : Int32) :: st) I F R n Q := ev_n rfl
theorem e167_156 {lay : mL} {d : Nat} {ls st : List Value} {I : mI} {F : mF} {R : mR} {n : Nat} {Q : mP} {x y : Int32} : Ev lay d 167 156 ls (.int y :: .int x :: st) I F R n Q ↔ Ev lay d 167 157 ls (.int (x + y) :: st) I F R n Q := ev_n rfl
theorem e167_157 {lay : mL} {d : Nat} {ls st : List Value} {I : mI} {F : mF} {R : mR} {n : Nat} {Q : mP} {a : Nat} {i : Int32} : Ev lay d 167 157 ls (.int i :: .ref a :: st) I F R n Q ↔ (m_in lay 0 a i ∧ Ev lay d 167 158 ls (.int (I a i.toNatClampNeg) :: st) I F R n Q) := ev_nc rfl
theorem e167_158 {lay : mL} {d : Nat} {ls st : List Value} {I : mI} {F : mF} {R : mR} {n : Nat} {Q : mP} {x : Nat} : Ev lay d 167 158 (.ref x :: ls) st I F R n Q ↔ Ev lay d 167 159 (.ref x :: ls) (.ref x :: st) I F R n Q := ev_n rfl
theorem e167_158N {lay : mL} {d : Nat} {ls st : List Value} {I : mI} {F : mF} {R : mR} {n : Nat} {Q : mP} : Ev lay d 167 158 (.null :: ls) st I F R n Q ↔ Ev lay d 167 159 (.null :: ls) (.null :: st) I F R n Q := ev_n rfl
theorem e167_159 {lay : mL} {d : Nat} {ls st : List Value} {I : mI} {F : mF} {R : mR} {n : Nat} {Q : mP} {v0 v1 v2 : Value} {x : Int32} : Ev lay d 167 159 (v0 :: v1 :: v2 :: .int x :: ls) st I F R n Q ↔ Ev lay d 167 160 (v0 :: v1 :: v2 :: .int x :: ls) (.int x :: st) I F R n Q := ev_n rfl
theorem e167_160 {lay : mL} {d : Nat} {ls st : List Value} {I : mI} {F : mF} {R : mR} {n : Nat} {Q : mP} : Ev lay d 167 160 ls st I F R n Q ↔ Ev lay d 167 161 ls (.int (2 : Int32) :: st) I F R n Q := ev_n rfl
theorem e167_161 {lay : mL} {d : Nat} {ls st : List Value} {I : mI} {F : mF} {R : mR} {n : Nat} {Q : mP} {x y : Int32} : Ev lay d 167 161 ls (.int y :: .int x :: st) I F R n Q ↔ Ev lay d 167 162 ls (.int (x + y) :: st) I F R n Q := ev_n rfl
theorem e167_162 {lay : mL} {d : Nat} {ls st : List Value} {I : mI} {F : mF} {R : mR} {n : Nat} {Q : mP} {a : Nat} {i : Int32} : Ev lay d 167 162 ls (.int i :: .ref a :: st) I F R n Q ↔ (m_in lay 0 a i ∧ Ev lay d 167 163 ls (.int (I a i.toNatClampNeg) :: st) I F R n Q) := ev_nc rfl
theorem e167_163 {lay : mL} {d : Nat} {ls st : List Value} {I : mI} {F : mF} {R : mR} {n : Nat} {Q : mP} {a : Nat} {x0 : Int32} {x1 : Int32} : Ev lay d 167 163 ls (.int x1 :: .int x0 :: .ref a :: st) I F R n Q ↔ ((lay a = (13, 0) ∧ (st.length ≤ 4 ∨ (st.map fun v => v.category).sum ≤ 8) ∧ 1 ≤ d) ∧ Ev lay (d - 1) 8 0 [.ref a, .int x0, .int x1] [] I F R n (fun v I F R n => Ev lay d 167 166 ls (m_psh v st) I F R n Q)) := ev_c rfl rfl
theorem e167_166 {lay : mL} {d : Nat} {ls st : List Value} {I : mI} {F : mF} {R : mR} {n : Nat} {Q : mP} {v0 v1 : Value} {x : Nat} : Ev lay d 167 166 (v0 :: v1 :: .ref x :: ls) st I F R n Q ↔ Ev lay d 167 167 (v0 :: v1 :: .ref x :: ls) (.ref x :: st) I F R n Q := ev_n rfl
theorem e167_166N {lay : mL} {d : Nat} {ls st : List Value} {I : mI} {F : mF} {R : mR} {n : Nat} {Q : mP} {v0 v1 : Value} : Ev lay d 167 166 (v0 :: v1 :: .null :: ls) st I F R n Q ↔ Ev lay d 167 167 (v0 :: v1 :: .null :: ls) (.null :: st) I F R n Q := ev_n rfl
theorem e167_167 {lay : mL} {d : Nat} {ls st : List Value} {I : mI} {F : mF} {R : mR} {n : Nat} {Q : mP} {x : Nat} : Ev lay d 167 167 (.ref x :: ls) st I F R n Q ↔ Ev lay d 167 168 (.ref x :: ls) (.ref x :: st) I F R n Q := ev_n rfl
theorem e167_167N {lay : mL} {d : Nat} {ls st : List Value} {I : mI} {F : mF} {R : mR} {n : Nat} {Q : mP} : Ev lay d 167 167 (.null :: ls) st I F R n Q ↔ Ev lay d 167 168 (.null :: ls) (.null :: st) I F R n Q := ev_n rfl
theorem e167_168 {lay : mL} {d : Nat} {ls st : List Value} {I : mI} {F : mF} {R : mR} {n : Nat} {Q : mP} {v0 v1 v2 : Value} {x : Int32} : Ev lay d 167 168 (v0 :: v1 :: v2 :: .int x :: ls) st I F R n Q ↔ Ev lay d 167 169 (v0 :: v1 :: v2 :: .int x :: ls) (.int x :: st) I F R n Q := ev_n rfl
theorem e167_169 {lay : mL} {d : Nat} {ls st : List Value} {I : mI} {F : mF} {R : mR} {n : Nat} {Q : mP} : Ev lay d 167 169 ls st I F R n Q ↔ Ev lay d 167 170 ls (.int (1 : Int32) :: st) I F R n Q := ev_n rfl
theorem e167_170 {lay : mL} {d : Nat} {ls st : List Value} {I : mI} {F : mF} {R : mR} {n : Nat} {Q : mP} {x y : Int32} : Ev lay d 167 170 ls (.int y :: .int x :: st) I F R n Q ↔ Ev lay d 167 171 ls (.int (x + y) :: st) I F R n Q := ev_n rfl
theorem e167_171 {lay : mL} {d : Nat} {ls st : List Value} {I : mI} {F : mF} {R : mR} {n : Nat} {Q : mP} {a : Nat} {i : Int32} : Ev lay d 167 171 ls (.int i :: .ref a :: st) I F R n Q ↔ (m_in lay 0 a i ∧ Ev lay d 167 172 ls (.int (I a i.toNatClampNeg) :: st) I F R n Q) := ev_nc rfl
theorem e167_172 {lay : mL} {d : Nat} {ls st : List Value} {I : mI} {F : mF} {R : mR} {n : Nat} {Q : mP} {x : Nat} : Ev lay d 167 172 (.ref x :: ls) st I F R n Q ↔ Ev lay d 167 173 (.ref x :: ls) (.ref x :: st) I F R n Q := ev_n rfl
theorem e167_172N {lay : mL} {d : Nat} {ls st : List Value} {I : mI} {F : mF} {R : mR} {n : Nat} {Q : mP} : Ev lay d 167 172 (.null :: ls) st I F R n Q ↔ Ev lay d 167 173 (.null :: ls) (.null :: st) I F R n Q := ev_n rfl
theorem e167_173 {lay : mL} {d : Nat} {ls st : List Value} {I : mI} {F : mF} {R : mR} {n : Nat} {Q : mP} {v0 v1 v2 : Value} {x : Int32} : Ev lay d 167 173 (v0 :: v1 :: v2 :: .int x :: ls) st I F R n Q ↔ Ev lay d 167 174 (v0 :: v1 :: v2 :: .int x :: ls) (.int x :: st) I F R n Q := ev_n rfl
theorem e167_174 {lay : mL} {d : Nat} {ls st : List Value} {I : mI} {F : mF} {R : mR} {n : Nat} {Q : mP} : Ev lay d 167 174 ls st I F R n Q ↔ Ev lay d 167 175 ls (.int (2 : Int32) :: st) I F R n Q := ev_n rfl
theorem e167_175 {lay : mL} {d : Nat} {ls st : List Value} {I : mI} {F : mF} {R : mR} {n : Nat} {Q : mP} {x y : Int32} : Ev lay d 167 175 ls (.int y :: .int x :: st) I F R n Q ↔ Ev lay d 167 176 ls (.int (x + y) :: st) I F R n Q := ev_n rfl
theorem e167_176 {lay : mL} {d : Nat} {ls st : List Value} {I : mI} {F : mF} {R : mR} {n : Nat} {Q : mP} {a : Nat} {i : Int32} : Ev lay d 167 176 ls (.int i :: .ref a :: st) I F R n Q ↔ (m_in lay 0 a i ∧ Ev lay d 167 177 ls (.int (I a i.toNatClampNeg) :: st) I F R n Q) := ev_nc rfl
theorem e167_177 {lay : mL} {d : Nat} {ls st : List Value} {I : mI} {F : mF} {R : mR} {n : Nat} {Q : mP} {a : Nat} {x0 : Int32} {x1 : Int32} : Ev lay d 167 177 ls (.int x1 :: .int x0 :: .ref a :: st) I F R n Q ↔ ((lay a = (14, 0) ∧ (st.length ≤ 4 ∨ (st.map fun v => v.category).sum ≤ 8) ∧ 1 ≤ d) ∧ Ev lay (d - 1) 97 0 [.ref a, .int x0, .int x1, m_j] [] I F R n (fun v I F R n => Ev lay d 167 180 ls (m_psh v st) I F R n Q)) := ev_c rfl rfl
theorem e167_180 {lay : mL} {d : Nat} {ls st : List Value} {I : mI} {F : mF} {R : mR} {n : Nat} {Q : mP} {x y : Int32} : Ev lay d 167 180 ls (.int y :: .int x :: st) I F R n Q ↔ (if x = y then Ev lay d 167 801 ls st I F R n Q else Ev lay d 167 183 ls st I F R n Q) := (ev_n rfl).trans (ev_if _)
theorem e167_183 {lay : mL} {d : Nat} {ls st : List Value} {I : mI} {F : mF} {R : mR} {n : Nat} {Q : mP} : Ev lay d 167 183 ls st I F R n Q ↔ Ev lay d 167 184 ls (.int (0 : Int32) :: st) I F R n Q := ev_n rfl
theorem e167_184 {lay : mL} {d : Nat} {ls : List Value} {I : mI} {F : mF} {R : mR} {n : Nat} {Q : mP} {x : Int32} : Ev lay d 167 184 ls [.int x] I F R n Q ↔ (narrow .boolean (.int x) = .int x ∧ Q (some (.int x)) I F R n) := ev_rc rfl
theorem e167_185 {lay : mL} {d : Nat} {ls st : List Value} {I : mI} {F : mF} {R : mR} {n : Nat} {Q : mP} {v0 : Value} {x : Nat} : Ev lay d 167 185 (v0 :: .ref x :: ls) st I F R n Q ↔ Ev lay d 167 186 (v0 :: .ref x :: ls) (.ref x :: st) I F R n Q := ev_n rfl
theorem e167_185N {lay : mL} {d : Nat} {ls st : List Value} {I : mI} {F : mF} {R : mR} {n : Nat} {Q : mP} {v0 : Value} : Ev lay d 167 185 (v0 :: .null :: ls) st I F R n Q ↔ Ev lay d 167 186 (v0 :: .null :: ls) (.null :: st) I F R n Q := ev_n rfl
theorem e167_186 {lay : mL} {d : Nat} {ls st : List Value} {I : mI} {F : mF} {R : mR} {n : Nat} {Q : mP} {x : Nat} : Ev lay d 167 186 (.ref x :: ls) st I F R n Q ↔ Ev lay d 167 187 (.ref x :: ls) (.ref x :: st) I F R n Q := ev_n rfl
theorem e167_186N {lay : mL} {d : Nat} {ls st : List Value} {I : mI} {F : mF} {R : mR} {n : Nat} {Q : mP} : Ev lay d 167 186 (.null :: ls) st I F R n Q ↔ Ev lay d 167 187 (.null :: ls) (.null :: st) I F R n Q := ev_n rfl
theorem e167_187 {lay : mL} {d : Nat} {ls st : List Value} {I : mI} {F : mF} {R : mR} {n : Nat} {Q : mP} {v0 v1 v2 : Value} {x : Int32} : Ev lay d 167 187 (v0 :: v1 :: v2 :: .int x :: ls) st I F R n Q ↔ Ev lay d 167 188 (v0 :: v1 :: v2 :: .int x :: ls) (.int x :: st) I F R n Q := ev_n rfl
theorem e167_188 {lay : mL} {d : Nat} {ls st : List Value} {I : mI} {F : mF} {R : mR} {n : Nat} {Q : mP} : Ev lay d 167 188 ls st I F R n Q ↔ Ev lay d 167 189 ls (.int (1 : Int32) :: st) I F R n Q := ev_n rfl
theorem e167_189 {lay : mL} {d : Nat} {ls st : List Value} {I : mI} {F : mF} {R : mR} {n : Nat} {Q : mP} {x y : Int32} : Ev lay d 167 189 ls (.int y :: .int x :: st) I F R n Q ↔ Ev lay d 167 190 ls (.int (x + y) :: st) I F R n Q := ev_n rfl
theorem e167_190 {lay : mL} {d : Nat} {ls st : List Value} {I : mI} {F : mF} {R : mR} {n : Nat} {Q : mP} {a : Nat} {i : Int32} : Ev lay d 167 190 ls (.int i :: .ref a :: st) I F R n Q ↔ (m_in lay 0 a i ∧ Ev lay d 167 191 ls (.int (I a i.toNatClampNeg) :: st) I F R n Q) := ev_nc rfl
theorem e167_191 {lay : mL} {d : Nat} {ls st : List Value} {I : mI} {F : mF} {R : mR} {n : Nat} {Q : mP} {a : Nat} {x0 : Int32} : Ev lay d 167 191 ls (.int x0 :: .ref a :: st) I F R n Q ↔ ((lay a = (13, 0) ∧ (st.length ≤ 4 ∨ (st.map fun v => v.category).sum ≤ 8) ∧ 1 ≤ d) ∧ Ev lay (d - 1) 15 0 [.ref a, .int x0] [] I F R n (fun v I F R n => Ev lay d 167 194 ls (m_psh v st) I F R n Q)) := ev_c rfl rfl
theorem e167_194 {lay : mL} {d : Nat} {ls st : List Value} {I : mI} {F : mF} {R : mR} {n : Nat} {Q : mP} {v0 v1 : Value} {x : Nat} : Ev lay d 167 194 (v0 :: v1 :: .ref x :: ls) st I F R n Q ↔ Ev lay d 167 195 (v0 :: v1 :: .ref x :: ls) (.ref x :: st) I F R n Q := ev_n rfl
theorem e167_194N {lay : mL} {d : Nat} {ls st : List Value} {I : mI} {F : mF} {R : mR} {n : Nat} {Q : mP} {v0 v1 : Value} : Ev lay d 167 194 (v0 :: v1 :: .null :: ls) st I F R n Q ↔ Ev lay d 167 195 (v0 :: v1 :: .null :: ls) (.null :: st) I F R n Q := ev_n rfl
theorem e167_195 {lay : mL} {d : Nat} {ls st : List Value} {I : mI} {F : mF} {R : mR} {n : Nat} {Q : mP} {x : Nat} : Ev lay d 167 195 (.ref x :: ls) st I F R n Q ↔ Ev lay d 167 196 (.ref x :: ls) (.ref x :: st) I F R n Q := ev_n rfl
theorem e167_195N {lay : mL} {d : Nat} {ls st : List Value} {I : mI} {F : mF} {R : mR} {n : Nat} {Q : mP} : Ev lay d 167 195 (.null :: ls) st I F R n Q ↔ Ev lay d 167 196 (.null :: ls) (.null :: st) I F R n Q := ev_n rfl
theorem e167_196 {lay : mL} {d : Nat} {ls st : List Value} {I : mI} {F : mF} {R : mR} {n : Nat} {Q : mP} {v0 v1 v2 : Value} {x : Int32} : Ev lay d 167 196 (v0 :: v1 :: v2 :: .int x :: ls) st I F R n Q ↔ Ev lay d 167 197 (v0 :: v1 :: v2 :: .int x :: ls) (.int x :: st) I F R n Q := ev_n rfl
theorem e167_197 {lay : mL} {d : Nat} {ls st : List Value} {I : mI} {F : mF} {R : mR} {n : Nat} {Q : mP} : Ev lay d 167 197 ls st I F R n Q ↔ Ev lay d 167 198 ls (.int (1 : Int32) :: st) I F R n Q := ev_n rfl
theorem e167_198 {lay : mL} {d : Nat} {ls st : List Value} {I : mI} {F : mF} {R : mR} {n : Nat} {Q : mP} {x y : Int32} : Ev lay d 167 198 ls (.int y :: .int x :: st) I F R n Q ↔ Ev lay d 167 199 ls (.int (x + y) :: st) I F R n Q := ev_n rfl
theorem e167_199 {lay : mL} {d : Nat} {ls st : List Value} {I : mI} {F : mF} {R : mR} {n : Nat} {Q : mP} {a : Nat} {i : Int32} : Ev lay d 167 199 ls (.int i :: .ref a :: st) I F R n Q ↔ (m_in lay 0 a i ∧ Ev lay d 167 200 ls (.int (I a i.toNatClampNeg) :: st) I F R n Q) := ev_nc rfl
theorem e167_200 {lay : mL} {d : Nat} {ls st : List Value} {I : mI} {F : mF} {R : mR} {n : Nat} {Q : mP} {a : Nat} {x0 : Int32} : Ev lay d 167 200 ls (.int x0 :: .ref a :: st) I F R n Q ↔ ((lay a = (14, 0) ∧ (st.length ≤ 4 ∨ (st.map fun v => v.category).sum ≤ 8) ∧ 1 ≤ d) ∧ Ev lay (d - 1) 104 0 [.ref a, .int x0] [] I F R n (fun v I F R n => Ev lay d 167 203 ls (m_psh v st) I F R n Q)) := ev_c rfl rfl
theorem e167_203 {lay : mL} {d : Nat} {ls st : List Value} {I : mI} {F : mF} {R : mR} {n : Nat} {Q : mP} {x y : Int32} : Ev lay d 167 203 ls (.int y :: .int x :: st) I F R n Q ↔ (if x = y then Ev lay d 167 801 ls st I F R n Q else Ev lay d 167 206 ls st I F R n Q) := (ev_n rfl).trans (ev_if _)
theorem e167_206 {lay : mL} {d : Nat} {ls st : List Value} {I : mI} {F : mF} {R : mR} {n : Nat} {Q : mP} : Ev lay d 167 206 ls st I F R n Q ↔ Ev lay d 167 207 ls (.int (0 : Int32) :: st) I F R n Q := ev_n rfl
theorem e167_207 {lay : mL} {d : Nat} {ls : List Value} {I : mI} {F : mF} {R : mR} {n : Nat} {Q : mP} {x : Int32} : Ev lay d 167 207 ls [.int x] I F R n Q ↔ (narrow .boolean (.int x) = .int x ∧ Q (some (.int x)) I F R n) := ev_rc rfl
theorem e167_208 {lay : mL} {d : Nat} {ls st : List Value} {I : mI} {F : mF} {R : mR} {n : Nat} {Q : mP} {v0 : Value} {x : Nat} : Ev lay d 167 208 (v0 :: .ref x :: ls) st I F R n Q ↔ Ev lay d 167 209 (v0 :: .ref x :: ls) (.ref x :: st) I F R n Q := ev_n rfl
theorem e167_208N {lay : mL} {d : Nat} {ls st : List Value} {I : mI} {F : mF} {R : mR} {n : Nat} {Q : mP} {v0 : Value} : Ev lay d 167 208 (v0 :: .null :: ls) st I F R n Q ↔ Ev lay d 167 209 (v0 :: .null :: ls) (.null :: st) I F R n Q := ev_n rfl
theorem e167_209 {lay : mL} {d : Nat} {ls st : List Value} {I : mI} {F : mF} {R : mR} {n : Nat} {Q : mP} {x : Nat} : Ev lay d 167 209 (.ref x :: ls) st I F R n Q ↔ Ev lay d 167 210 (.ref x :: ls) (.ref x :: st) I F R n Q := ev_n rfl
theorem e167_209N {lay : mL} {d : Nat} {ls st : List Value} {I : mI} {F : mF} {R : mR} {n : Nat} {Q : mP} : Ev lay d 167 209 (.null :: ls) st I F R n Q ↔ Ev lay d 167 210 (.null :: ls) (.null :: st) I F R n Q := ev_n rfl
theorem e167_210 {lay : mL} {d : Nat} {ls st : List Value} {I : mI} {F : mF} {R : mR} {n : Nat} {Q : mP} {v0 v1 v2 : Value} {x : Int32} : Ev lay d 167 210 (v0 :: v1 :: v2 :: .int x :: ls) st I F R n Q ↔ Ev lay d 167 211 (v0 :: v1 :: v2 :: .int x :: ls) (.int x :: st) I F R n Q := ev_n rfl
theorem e167_211 {lay : mL} {d : Nat} {ls st : List Value} {I : mI} {F : mF} {R : mR} {n : Nat} {Q : mP} : Ev lay d 167 211 ls st I F R n Q ↔ Ev lay d 167 212 ls (.int (1 : Int32) :: st) I F R n Q := ev_n rfl
theorem e167_212 {lay : mL} {d : Nat} {ls st : List Value} {I : mI} {F : mF} {R : mR} {n : Nat} {Q : mP} {x y : Int32} : Ev lay d 167 212 ls (.int y :: .int x :: st) I F R n Q ↔ Ev lay d 167 213 ls (.int (x + y) :: st) I F R n Q := ev_n rfl
theorem e167_213 {lay : mL} {d : Nat} {ls st : List Value} {I : mI} {F : mF} {R : mR} {n : Nat} {Q : mP} {a : Nat} {i : Int32} : Ev lay d 167 213 ls (.int i :: .ref a :: st) I F R n Q ↔ (m_in lay 0 a i ∧ Ev lay d 167 214 ls (.int (I a i.toNatClampNeg) :: st) I F R n Q) := ev_nc rfl
theorem e167_214 {lay : mL} {d : Nat} {ls st : List Value} {I : mI} {F : mF} {R : mR} {n : Nat} {Q : mP} {x : Nat} : Ev lay d 167 214 (.ref x :: ls) st I F R n Q ↔ Ev lay d 167 215 (.ref x :: ls) (.ref x :: st) I F R n Q := ev_n rfl
theorem e167_214N {lay : mL} {d : Nat} {ls st : List Value} {I : mI} {F : mF} {R : mR} {n : Nat} {Q : mP} : Ev lay d 167 214 (.null :: ls) st I F R n Q ↔ Ev lay d 167 215 (.null :: ls) (.null :: st) I F R n Q := ev_n rfl
theorem e167_215 {lay : mL} {d : Nat} {ls st : List Value} {I : mI} {F : mF} {R : mR} {n : Nat} {Q : mP} {v0 v1 v2 : Value} {x : Int32} : Ev lay d 167 215 (v0 :: v1 :: v2 :: .int x :: ls) st I F R n Q ↔ Ev lay d 167 216 (v0 :: v1 :: v2 :: .int x :: ls) (.int x :: st) I F R n Q := ev_n rfl
theorem e167_216 {lay : mL} {d : Nat} {ls st : List Value} {I : mI} {F : mF} {R : mR} {n : Nat} {Q : mP} : Ev lay d 167 216 ls st I F R n Q ↔ Ev lay d 167 217 ls (.int (2 : Int32) :: st) I F R n Q := ev_n rfl
theorem e167_217 {lay : mL} {d : Nat} {ls st : List Value} {I : mI} {F : mF} {R : mR} {n : Nat} {Q : mP} {x y : Int32} : Ev lay d 167 217 ls (.int y :: .int x :: st) I F R n Q ↔ Ev lay d 167 218 ls (.int (x + y) :: st) I F R n Q := ev_n rfl
theorem e167_218 {lay : mL} {d : Nat} {ls st : List Value} {I : mI} {F : mF} {R : mR} {n : Nat} {Q : mP} {a : Nat} {i : Int32} : Ev lay d 167 218 ls (.int i :: .ref a :: st) I F R n Q ↔ (m_in lay 0 a i ∧ Ev lay d 167 219 ls (.int (I a i.toNatClampNeg) :: st) I F R n Q) := ev_nc rfl
theorem e167_219 {lay : mL} {d : Nat} {ls st : List Value} {I : mI} {F : mF} {R : mR} {n : Nat} {Q : mP} {a : Nat} {x0 : Int32} {x1 : Int32} : Ev lay d 167 219 ls (.int x1 :: .int x0 :: .ref a :: st) I F R n Q ↔ ((lay a = (13, 0) ∧ (st.length ≤ 4 ∨ (st.map fun v => v.category).sum ≤ 8) ∧ 1 ≤ d) ∧ Ev lay (d - 1) 18 0 [.ref a, .int x0, .int x1] [] I F R n (fun v I F R n => Ev lay d 167 222 ls (m_psh v st) I F R n Q)) := ev_c rfl rfl
theorem e167_222 {lay : mL} {d : Nat} {ls st : List Value} {I : mI} {F : mF} {R : mR} {n : Nat} {Q : mP} {v0 v1 : Value} {x : Nat} : Ev lay d 167 222 (v0 :: v1 :: .ref x :: ls) st I F R n Q ↔ Ev lay d 167 223 (v0 :: v1 :: .ref x :: ls) (.ref x :: st) I F R n Q := ev_n rfl
theorem e167_222N {lay : mL} {d : Nat} {ls st : List Value} {I : mI} {F : mF} {R : mR} {n : Nat} {Q : mP} {v0 v1 : Value} : Ev lay d 167 222 (v0 :: v1 :: .null :: ls) st I F R n Q ↔ Ev lay d 167 223 (v0 :: v1 :: .null :: ls) (.null :: st) I F R n Q := ev_n rfl
theorem e167_223 {lay : mL} {d : Nat} {ls st : List Value} {I : mI} {F : mF} {R : mR} {n : Nat} {Q : mP} {x : Nat} : Ev lay d 167 223 (.ref x :: ls) st I F R n Q ↔ Ev lay d 167 224 (.ref x :: ls) (.ref x :: st) I F R n Q := ev_n rfl
theorem e167_223N {lay : mL} {d : Nat} {ls st : List Value} {I : mI} {F : mF} {R : mR} {n : Nat} {Q : mP} : Ev lay d 167 223 (.null :: ls) st I F R n Q ↔ Ev lay d 167 224 (.null :: ls) (.null :: st) I F R n Q := ev_n rfl
theorem e167_224 {lay : mL} {d : Nat} {ls st : List Value} {I : mI} {F : mF} {R : mR} {n : Nat} {Q : mP} {v0 v1 v2 : Value} {x : Int32} : Ev lay d 167 224 (v0 :: v1 :: v2 :: .int x :: ls) st I F R n Q ↔ Ev lay d 167 225 (v0 :: v1 :: v2 :: .int x :: ls) (.int x :: st) I F R n Q := ev_n rfl
theorem e167_225 {lay : mL} {d : Nat} {ls st : List Value} {I : mI} {F : mF} {R : mR} {n : Nat} {Q : mP} : Ev lay d 167 225 ls st I F R n Q ↔ Ev lay d 167 226 ls (.int (1 : Int32) :: st) I F R n Q := ev_n rfl
theorem e167_226 {lay : mL} {d : Nat} {ls st : List Value} {I : mI} {F : mF} {R : mR} {n : Nat} {Q : mP} {x y : Int32} : Ev lay d 167 226 ls (.int y :: .int x :: st) I F R n Q ↔ Ev lay d 167 227 ls (.int (x + y) :: st) I F R n Q := ev_n rfl
theorem e167_227 {lay : mL} {d : Nat} {ls st : List Value} {I : mI} {F : mF} {R : mR} {n : Nat} {Q : mP} {a : Nat} {i : Int32} : Ev lay d 167 227 ls (.int i :: .ref a :: st) I F R n Q ↔ (m_in lay 0 a i ∧ Ev lay d 167 228 ls (.int (I a i.toNatClampNeg) :: st) I F R n Q) := ev_nc rfl
theorem e167_228 {lay : mL} {d : Nat} {ls st : List Value} {I : mI} {F : mF} {R : mR} {n : Nat} {Q : mP} {x : Nat} : Ev lay d 167 228 (.ref x :: ls) st I F R n Q ↔ Ev lay d 167 229 (.ref x :: ls) (.ref x :: st) I F R n Q := ev_n rfl
theorem e167_228N {lay : mL} {d : Nat} {ls st : List Value} {I : mI} {F : mF} {R : mR} {n : Nat} {Q : mP} : Ev lay d 167 228 (.null :: ls) st I F R n Q ↔ Ev lay d 167 229 (.null :: ls) (.null :: st) I F R n Q := ev_n rfl
theorem e167_229 {lay : mL} {d : Nat} {ls st : List Value} {I : mI} {F : mF} {R : mR} {n : Nat} {Q : mP} {v0 v1 v2 : Value} {x : Int32} : Ev lay d 167 229 (v0 :: v1 :: v2 :: .int x :: ls) st I F R n Q ↔ Ev lay d 167 230 (v0 :: v1 :: v2 :: .int x :: ls) (.int x :: st) I F R n Q := ev_n rfl
theorem e167_230 {lay : mL} {d : Nat} {ls st : List Value} {I : mI} {F : mF} {R : mR} {n : Nat} {Q : mP} : Ev lay d 167 230 ls st I F R n Q ↔ Ev lay d 167 231 ls (.int (2 : Int32) :: st) I F R n Q := ev_n rfl
theorem e167_231 {lay : mL} {d : Nat} {ls st : List Value} {I : mI} {F : mF} {R : mR} {n : Nat} {Q : mP} {x y : Int32} : Ev lay d 167 231 ls (.int y :: .int x :: st) I F R n Q ↔ Ev lay d 167 232 ls (.int (x + y) :: st) I F R n Q := ev_n rfl
theorem e167_232 {lay : mL} {d : Nat} {ls st : List Value} {I : mI} {F : mF} {R : mR} {n : Nat} {Q : mP} {a : Nat} {i : Int32} : Ev lay d 167 232 ls (.int i :: .ref a :: st) I F R n Q ↔ (m_in lay 0 a i ∧ Ev lay d 167 233 ls (.int (I a i.toNatClampNeg) :: st) I F R n Q) := ev_nc rfl
theorem e167_233 {lay : mL} {d : Nat} {ls st : List Value} {I : mI} {F : mF} {R : mR} {n : Nat} {Q : mP} {a : Nat} {x0 : Int32} {x1 : Int32} : Ev lay d 167 233 ls (.int x1 :: .int x0 :: .ref a :: st) I F R n Q ↔ ((lay a = (14, 0) ∧ (st.length ≤ 4 ∨ (st.map fun v => v.category).sum ≤ 8) ∧ 1 ≤ d) ∧ Ev lay (d - 1) 110 0 [.ref a, .int x0, .int x1] [] I F R n (fun v I F R n => Ev lay d 167 236 ls (m_psh v st) I F R n Q)) := ev_c rfl rfl
theorem e167_236 {lay : mL} {d : Nat} {ls st : List Value} {I : mI} {F : mF} {R : mR} {n : Nat} {Q : mP} {x y : Int32} : Ev lay d 167 236 ls (.int y :: .int x :: st) I F R n Q ↔ (if x = y then Ev lay d 167 801 ls st I F R n Q else Ev lay d 167 239 ls st I F R n Q) := (ev_n rfl).trans (ev_if _)
theorem e167_239 {lay : mL} {d : Nat} {ls st : List Value} {I : mI} {F : mF} {R : mR} {n : Nat} {Q : mP} : Ev lay d 167 239 ls st I F R n Q ↔ Ev lay d 167 240 ls (.int (0 : Int32) :: st) I F R n Q := ev_n rfl
theorem e167_240 {lay : mL} {d : Nat} {ls : List Value} {I : mI} {F : mF} {R : mR} {n : Nat} {Q : mP} {x : Int32} : Ev lay d 167 240 ls [.int x] I F R n Q ↔ (narrow .boolean (.int x) = .int x ∧ Q (some (.int x)) I F R n) := ev_rc rfl
theorem e167_241 {lay : mL} {d : Nat} {ls st : List Value} {I : mI} {F : mF} {R : mR} {n : Nat} {Q : mP} {v0 : Value} {x : Nat} : Ev lay d 167 241 (v0 :: .ref x :: ls) st I F R n Q ↔ Ev lay d 167 242 (v0 :: .ref x :: ls) (.ref x :: st) I F R n Q := ev_n rfl
theorem e167_241N {lay : mL} {d : Nat} {ls st : List Value} {I : mI} {F : mF} {R : mR} {n : Nat} {Q : mP} {v0 : Value} : Ev lay d 167 241 (v0 :: .null :: ls) st I F R n Q ↔ Ev lay d 167 242 (v0 :: .null :: ls) (.null :: st) I F R n Q := ev_n rfl
theorem e167_242 {lay : mL} {d : Nat} {ls st : List Value} {I : mI} {F : mF} {R : mR} {n : Nat} {Q : mP} {x : Nat} : Ev lay d 167 242 (.ref x :: ls) st I F R n Q ↔ Ev lay d 167 243 (.ref x :: ls) (.ref x :: st) I F R n Q := ev_n rfl
theorem e167_242N {lay : mL} {d : Nat} {ls st : List Value} {I : mI} {F : mF} {R : mR} {n : Nat} {Q : mP} : Ev lay d 167 242 (.null :: ls) st I F R n Q ↔ Ev lay d 167 243 (.null :: ls) (.null :: st) I F R n Q := ev_n rfl
theorem e167_243 {lay : mL} {d : Nat} {ls st : List Value} {I : mI} {F : mF} {R : mR} {n : Nat} {Q : mP} {v0 v1 v2 : Value} {x : Int32} : Ev lay d 167 243 (v0 :: v1 :: v2 :: .int x :: ls) st I F R n Q ↔ Ev lay d 167 244 (v0 :: v1 :: v2 :: .int x :: ls) (.int x :: st) I F R n Q := ev_n rfl
theorem e167_244 {lay : mL} {d : Nat} {ls st : List Value} {I : mI} {F : mF} {R : mR} {n : Nat} {Q : mP} : Ev lay d 167 244 ls st I F R n Q ↔ Ev lay d 167 245 ls (.int (1 : Int32) :: st) I F R n Q := ev_n rfl
theorem e167_245 {lay : mL} {d : Nat} {ls st : List Value} {I : mI} {F : mF} {R : mR} {n : Nat} {Q : mP} {x y : Int32} : Ev lay d 167 245 ls (.int y :: .int x :: st) I F R n Q ↔ Ev lay d 167 246 ls (.int (x + y) :: st) I F R n Q := ev_n rfl
theorem e167_246 {lay : mL} {d : Nat} {ls st : List Value} {I : mI} {F : mF} {R : mR} {n : Nat} {Q : mP} {a : Nat} {i : Int32} : Ev lay d 167 246 ls (.int i :: .ref a :: st) I F R n Q ↔ (m_in lay 0 a i ∧ Ev lay d 167 247 ls (.int (I a i.toNatClampNeg) :: st) I F R n Q) := ev_nc rfl
theorem e167_247 {lay : mL} {d : Nat} {ls st : List Value} {I : mI} {F : mF} {R : mR} {n : Nat} {Q : mP} {a : Nat} {x0 : Int32} : Ev lay d 167 247 ls (.int x0 :: .ref a :: st) I F R n Q ↔ ((lay a = (13, 0) ∧ (st.length ≤ 4 ∨ (st.map fun v => v.category).sum ≤ 8) ∧ 1 ≤ d) ∧ Ev lay (d - 1) 24 0 [.ref a, .int x0] [] I F R n (fun v I F R n => Ev lay d 167 250 ls (m_psh v st) I F R n Q)) := ev_c rfl rfl
theorem e167_250 {lay : mL} {d : Nat} {ls st : List Value} {I : mI} {F : mF} {R : mR} {n : Nat} {Q : mP} {v0 v1 : Value} {x : Nat} : Ev lay d 167 250 (v0 :: v1 :: .ref x :: ls) st I F R n Q ↔ Ev lay d 167 251 (v0 :: v1 :: .ref x :: ls) (.ref x :: st) I F R n Q := ev_n rfl
theorem e167_250N {lay : mL} {d : Nat} {ls st : List Value} {I : mI} {F : mF} {R : mR} {n : Nat} {Q : mP} {v0 v1 : Value} : Ev lay d 167 250 (v0 :: v1 :: .null :: ls) st I F R n Q ↔ Ev lay d 167 251 (v0 :: v1 :: .null :: ls) (.null :: st) I F R n Q := ev_n rfl
theorem e167_251 {lay : mL} {d : Nat} {ls st : List Value} {I : mI} {F : mF} {R : mR} {n : Nat} {Q : mP} {x : Nat} : Ev lay d 167 251 (.ref x :: ls) st I F R n Q ↔ Ev lay d 167 252 (.ref x :: ls) (.ref x :: st) I F R n Q := ev_n rfl
theorem e167_251N {lay : mL} {d : Nat} {ls st : List Value} {I : mI} {F : mF} {R : mR} {n : Nat} {Q : mP} : Ev lay d 167 251 (.null :: ls) st I F R n Q ↔ Ev lay d 167 252 (.null :: ls) (.null :: st) I F R n Q := ev_n rfl
theorem e167_252 {lay : mL} {d : Nat} {ls st : List Value} {I : mI} {F : mF} {R : mR} {n : Nat} {Q : mP} {v0 v1 v2 : Value} {x : Int32} : Ev lay d 167 252 (v0 :: v1 :: v2 :: .int x :: ls) st I F R n Q ↔ Ev lay d 167 253 (v0 :: v1 :: v2 :: .int x :: ls) (.int x :: st) I F R n Q := ev_n rfl
theorem e167_253 {lay : mL} {d : Nat} {ls st : List Value} {I : mI} {F : mF} {R : mR} {n : Nat} {Q : mP} : Ev lay d 167 253 ls st I F R n Q ↔ Ev lay d 167 254 ls (.int (1 : Int32) :: st) I F R n Q := ev_n rfl
theorem e167_254 {lay : mL} {d : Nat} {ls st : List Value} {I : mI} {F : mF} {R : mR} {n : Nat} {Q : mP} {x y : Int32} : Ev lay d 167 254 ls (.int y :: .int x :: st) I F R n Q ↔ Ev lay d 167 255 ls (.int (x + y) :: st) I F R n Q := ev_n rfl
theorem e167_255 {lay : mL} {d : Nat} {ls st : List Value} {I : mI} {F : mF} {R : mR} {n : Nat} {Q : mP} {a : Nat} {i : Int32} : Ev lay d 167 255 ls (.int i :: .ref a :: st) I F R n Q ↔ (m_in lay 0 a i ∧ Ev lay d 167 256 ls (.int (I a i.toNatClampNeg) :: st) I F R n Q) := ev_nc rfl
theorem e167_256 {lay : mL} {d : Nat} {ls st : List Value} {I : mI} {F : mF} {R : mR} {n : Nat} {Q : mP} {a : Nat} {x0 : Int32} : Ev lay d 167 256 ls (.int x0 :: .ref a :: st) I F R n Q ↔ ((lay a = (14, 0) ∧ (st.length ≤ 4 ∨ (st.map fun v => v.category).sum ≤ 8) ∧ 1 ≤ d) ∧ Ev lay (d - 1) 114 0 [.ref a, .int x0] [] I F R n (fun v I F R n => Ev lay d 167 259 ls (m_psh v st) I F R n Q)) := ev_c rfl rfl
theorem e167_259 {lay : mL} {d : Nat} {ls st : List Value} {I : mI} {F : mF} {R : mR} {n : Nat} {Q : mP} {x y : Int32} : Ev lay d 167 259 ls (.int y :: .int x :: st) I F R n Q ↔ (if x = y then Ev lay d 167 801 ls st I F R n Q else Ev lay d 167 262 ls st I F R n Q) := (ev_n rfl).trans (ev_if _)
theorem e167_262 {lay : mL} {d : Nat} {ls st : List Value} {I : mI} {F : mF} {R : mR} {n : Nat} {Q : mP} : Ev lay d 167 262 ls st I F R n Q ↔ Ev lay d 167 263 ls (.int (0 : Int32) :: st) I F R n Q := ev_n rfl
theorem e167_263 {lay : mL} {d : Nat} {ls : List Value} {I : mI} {F : mF} {R : mR} {n : Nat} {Q : mP} {x : Int32} : Ev lay d 167 263 ls [.int x] I F R n Q ↔ (narrow .boolean (.int x) = .int x ∧ Q (some (.int x)) I F R n) := ev_rc rfl
theorem e167_264 {lay : mL} {d : Nat} {ls st : List Value} {I : mI} {F : mF} {R : mR} {n : Nat} {Q : mP} {v0 : Value} {x : Nat} : Ev lay d 167 264 (v0 :: .ref x :: ls) st I F R n Q ↔ Ev lay d 167 265 (v0 :: .ref x :: ls) (.ref x :: st) I F R n Q := ev_n rfl
theorem e167_264N {lay : mL} {d : Nat} {ls st : List Value} {I : mI} {F : mF} {R : mR} {n : Nat} {Q : mP} {v0 : Value} : Ev lay d 167 264 (v0 :: .null :: ls) st I F R n Q ↔ Ev lay d 167 265 (v0 :: .null :: ls) (.null :: st) I F R n Q := ev_n rfl
theorem e167_265 {lay : mL} {d : Nat} {ls st : List Value} {I : mI} {F : mF} {R : mR} {n : Nat} {Q : mP} {x : Nat} : Ev lay d 167 265 (.ref x :: ls) st I F R n Q ↔ Ev lay d 167 266 (.ref x :: ls) (.ref x :: st) I F R n Q := ev_n rfl
theorem e167_265N {lay : mL} {d : Nat} {ls st : List Value} {I : mI} {F : mF} {R : mR} {n : Nat} {Q : mP} : Ev lay d 167 265 (.null :: ls) st I F R n Q ↔ Ev lay d 167 266 (.null :: ls) (.null :: st) I F R n Q := ev_n rfl
theorem e167_266 {lay : mL} {d : Nat} {ls st : List Value} {I : mI} {F : mF} {R : mR} {n : Nat} {Q : mP} {v0 v1 v2 : Value} {x : Int32} : Ev lay d 167 266 (v0 :: v1 :: v2 :: .int x :: ls) st I F R n Q ↔ Ev lay d 167 267 (v0 :: v1 :: v2 :: .int x :: ls) (.int x :: st) I F R n Q := ev_n rfl
theorem e167_267 {lay : mL} {d : Nat} {ls st : List Value} {I : mI} {F : mF} {R : mR} {n : Nat} {Q : mP} : Ev lay d 167 267 ls st I F R n Q ↔ Ev lay d 167 268 ls (.int (1 : Int32) :: st) I F R n Q := ev_n rfl
theorem e167_268 {lay : mL} {d : Nat} {ls st : List Value} {I : mI} {F : mF} {R : mR} {n : Nat} {Q : mP} {x y : Int32} : Ev lay d 167 268 ls (.int y :: .int x :: st) I F R n Q ↔ Ev lay d 167 269 ls (.int (x + y) :: st) I F R n Q := ev_n rfl
theorem e167_269 {lay : mL} {d : Nat} {ls st : List Value} {I : mI} {F : mF} {R : mR} {n : Nat} {Q : mP} {a : Nat} {i : Int32} : Ev lay d 167 269 ls (.int i :: .ref a :: st) I F R n Q ↔ (m_in lay 0 a i ∧ Ev lay d 167 270 ls (.int (I a i.toNatClampNeg) :: st) I F R n Q) := ev_nc rfl
theorem e167_270 {lay : mL} {d : Nat} {ls st : List Value} {I : mI} {F : mF} {R : mR} {n : Nat} {Q : mP} {a : Nat} {x0 : Int32} : Ev lay d 167 270 ls (.int x0 :: .ref a :: st) I F R n Q ↔ ((lay a = (13, 0) ∧ (st.length ≤ 4 ∨ (st.map fun v => v.category).sum ≤ 8) ∧ 1 ≤ d) ∧ Ev lay (d - 1) 27 0 [.ref a, .int x0] [] I F R n (fun v I F R n => Ev lay d 167 273 ls (m_psh v st) I F R n Q)) := ev_c rfl rfl
theorem e167_273 {lay : mL} {d : Nat} {ls st : List Value} {I : mI} {F : mF} {R : mR} {n : Nat} {Q : mP} {v0 v1 : Value} {x : Nat} : Ev lay d 167 273 (v0 :: v1 :: .ref x :: ls) st I F R n Q ↔ Ev lay d 167 274 (v0 :: v1 :: .ref x :: ls) (.ref x :: st) I F R n Q := ev_n rfl
theorem e167_273N {lay : mL} {d : Nat} {ls st : List Value} {I : mI} {F : mF} {R : mR} {n : Nat} {Q : mP} {v0 v1 : Value} : Ev lay d 167 273 (v0 :: v1 :: .null :: ls) st I F R n Q ↔ Ev lay d 167 274 (v0 :: v1 :: .null :: ls) (.null :: st) I F R n Q := ev_n rfl
theorem e167_274 {lay : mL} {d : Nat} {ls st : List Value} {I : mI} {F : mF} {R : mR} {n : Nat} {Q : mP} {x : Nat} : Ev lay d 167 274 (.ref x :: ls) st I F R n Q ↔ Ev lay d 167 275 (.ref x :: ls) (.ref x :: st) I F R n Q := ev_n rfl
theorem e167_274N {lay : mL} {d : Nat} {ls st : List Value} {I : mI} {F : mF} {R : mR} {n : Nat} {Q : mP} : Ev lay d 167 274 (.null :: ls) st I F R n Q ↔ Ev lay d 167 275 (.null :: ls) (.null :: st) I F R n Q := ev_n rfl
theorem e167_275 {lay : mL} {d : Nat} {ls st : List Value} {I : mI} {F : mF} {R : mR} {n : Nat} {Q : mP} {v0 v1 v2 : Value} {x : Int32} : Ev lay d 167 275 (v0 :: v1 :: v2 :: .int x :: ls) st I F R n Q ↔ Ev lay d 167 276 (v0 :: v1 :: v2 :: .int x :: ls) (.int x :: st) I F R n Q := ev_n rfl
theorem e167_276 {lay : mL} {d : Nat} {ls st : List Value} {I : mI} {F : mF} {R : mR} {n : Nat} {Q : mP} : Ev lay d 167 276 ls st I F R n Q ↔ Ev lay d 167 277 ls (.int (1 : Int32) :: st) I F R n Q := ev_n rfl
theorem e167_277 {lay : mL} {d : Nat} {ls st : List Value} {I : mI} {F : mF} {R : mR} {n : Nat} {Q : mP} {x y : Int32} : Ev lay d 167 277 ls (.int y :: .int x :: st) I F R n Q ↔ Ev lay d 167 278 ls (.int (x + y) :: st) I F R n Q := ev_n rfl
theorem e167_278 {lay : mL} {d : Nat} {ls st : List Value} {I : mI} {F : mF} {R : mR} {n : Nat} {Q : mP} {a : Nat} {i : Int32} : Ev lay d 167 278 ls (.int i :: .ref a :: st) I F R n Q ↔ (m_in lay 0 a i ∧ Ev lay d 167 279 ls (.int (I a i.toNatClampNeg) :: st) I F R n Q) := ev_nc rfl
theorem e167_279 {lay : mL} {d : Nat} {ls st : List Value} {I : mI} {F : mF} {R : mR} {n : Nat} {Q : mP} {a : Nat} {x0 : Int32} : Ev lay d 167 279 ls (.int x0 :: .ref a :: st) I F R n Q ↔ ((lay a = (14, 0) ∧ (st.length ≤ 4 ∨ (st.map fun v => v.category).sum ≤ 8) ∧ 1 ≤ d) ∧ Ev lay (d - 1) 116 0 [.ref a, .int x0] [] I F R n (fun v I F R n => Ev lay d 167 282 ls (m_psh v st) I F R n Q)) := ev_c rfl rfl
theorem e167_282 {lay : mL} {d : Nat} {ls st : List Value} {I : mI} {F : mF} {R : mR} {n : Nat} {Q : mP} {x y : Int32} : Ev lay d 167 282 ls (.int y :: .int x :: st) I F R n Q ↔ (if x = y then Ev lay d 167 801 ls st I F R n Q else Ev lay d 167 285 ls st I F R n Q) := (ev_n rfl).trans (ev_if _)
theorem e167_285 {lay : mL} {d : Nat} {ls st : List Value} {I : mI} {F : mF} {R : mR} {n : Nat} {Q : mP} : Ev lay d 167 285 ls st I F R n Q ↔ Ev lay d 167 286 ls (.int (0 : Int32) :: st) I F R n Q := ev_n rfl
theorem e167_286 {lay : mL} {d : Nat} {ls : List Value} {I : mI} {F : mF} {R : mR} {n : Nat} {Q : mP} {x : Int32} : Ev lay d 167 286 ls [.int x] I F R n Q ↔ (narrow .boolean (.int x) = .int x ∧ Q (some (.int x)) I F R n) := ev_rc rfl
theorem e167_287 {lay : mL} {d : Nat} {ls st : List Value} {I : mI} {F : mF} {R : mR} {n : Nat} {Q : mP} {v0 : Value} {x : Nat} : Ev lay d 167 287 (v0 :: .ref x :: ls) st I F R n Q ↔ Ev lay d 167 288 (v0 :: .ref x :: ls) (.ref x :: st) I F R n Q := ev_n rfl
theorem e167_287N {lay : mL} {d : Nat} {ls st : List Value} {I : mI} {F : mF} {R : mR} {n : Nat} {Q : mP} {v0 : Value} : Ev lay d 167 287 (v0 :: .null :: ls) st I F R n Q ↔ Ev lay d 167 288 (v0 :: .null :: ls) (.null :: st) I F R n Q := ev_n rfl
theorem e167_288 {lay : mL} {d : Nat} {ls st : List Value} {I : mI} {F : mF} {R : mR} {n : Nat} {Q : mP} {a : Nat} : Ev lay d 167 288 ls (.ref a :: st) I F R n Q ↔ ((lay a = (13, 0) ∧ (st.length ≤ 4 ∨ (st.map fun v => v.category).sum ≤ 8) ∧ 1 ≤ d) ∧ Ev lay (d - 1) 41 0 [.ref a] [] I F R n (fun v I F R n => Ev lay d 167 291 ls (m_psh v st) I F R n Q)) := ev_c rfl rfl
theorem e167_291 {lay : mL} {d : Nat} {ls st : List Value} {I : mI} {F : mF} {R : mR} {n : Nat} {Q : mP} {v0 v1 : Value} {x : Nat} : Ev lay d 167 291 (v0 :: v1 :: .ref x :: ls) st I F R n Q ↔ Ev lay d 167 292 (v0 :: v1 :: .ref x :: ls) (.ref x :: st) I F R n Q := ev_n rfl
theorem e167_291N {lay : mL} {d : Nat} {ls st : List Value} {I : mI} {F : mF} {R : mR} {n : Nat} {Q : mP} {v0 v1 : Value} : Ev lay d 167 291 (v0 :: v1 :: .null :: ls) st I F R n Q ↔ Ev lay d 167 292 (v0 :: v1 :: .null :: ls) (.null :: st) I F R n Q := ev_n rfl
theorem e167_292 {lay : mL} {d : Nat} {ls st : List Value} {I : mI} {F : mF} {R : mR} {n : Nat} {Q : mP} {a : Nat} : Ev lay d 167 292 ls (.ref a :: st) I F R n Q ↔ ((lay a = (14, 0) ∧ (st.length ≤ 4 ∨ (st.map fun v => v.category).sum ≤ 8) ∧ 1 ≤ d) ∧ Ev lay (d - 1) 125 0 [.ref a] [] I F R n (fun v I F R n => Ev lay d 167 295 ls (m_psh v st) I F R n Q)) := ev_c rfl rfl
theorem e167_295 {lay : mL} {d : Nat} {ls st : List Value} {I : mI} {F : mF} {R : mR} {n : Nat} {Q : mP} {x y : Int32} : Ev lay d 167 295 ls (.int y :: .int x :: st) I F R n Q ↔ (if x = y then Ev lay d 167 801 ls st I F R n Q else Ev lay d 167 298 ls st I F R n Q) := (ev_n rfl).trans (ev_if _)
theorem e167_298 {lay : mL} {d : Nat} {ls st : List Value} {I : mI} {F : mF} {R : mR} {n : Nat} {Q : mP} : Ev lay d 167 298 ls st I F R n Q ↔ Ev lay d 167 299 ls (.int (0 : Int32) :: st) I F R n Q := ev_n rfl
theorem e167_299 {lay : mL} {d : Nat} {ls : List Value} {I : mI} {F : mF} {R : mR} {n : Nat} {Q : mP} {x : Int32} : Ev lay d 167 299 ls [.int x] I F R n Q ↔ (narrow .boolean (.int x) = .int x ∧ Q (some (.int x)) I F R n) := ev_rc rfl
theorem e167_300 {lay : mL} {d : Nat} {ls st : List Value} {I : mI} {F : mF} {R : mR} {n : Nat} {Q : mP} {v0 : Value} {x : Nat} : Ev lay d 167 300 (v0 :: .ref x :: ls) st I F R n Q ↔ Ev lay d 167 301 (v0 :: .ref x :: ls) (.ref x :: st) I F R n Q := ev_n rfl
theorem e167_300N {lay : mL} {d : Nat} {ls st : List Value} {I : mI} {F : mF} {R : mR} {n : Nat} {Q : mP} {v0 : Value} : Ev lay d 167 300 (v0 :: .null :: ls) st I F R n Q ↔ Ev lay d 167 301 (v0 :: .null :: ls) (.null :: st) I F R n Q := ev_n rfl
theorem e167_301 {lay : mL} {d : Nat} {ls st : List Value} {I : mI} {F : mF} {R : mR} {n : Nat} {Q : mP} {x : Nat} : Ev lay d 167 301 (.ref x :: ls) st I F R n Q ↔ Ev lay d 167 302 (.ref x :: ls) (.ref x :: st) I F R n Q := ev_n rfl
theorem e167_301N {lay : mL} {d : Nat} {ls st : List Value} {I : mI} {F : mF} {R : mR} {n : Nat} {Q : mP} : Ev lay d 167 301 (.null :: ls) st I F R n Q ↔ Ev lay d 167 302 (.null :: ls) (.null :: st) I F R n Q := ev_n rfl
theorem e167_302 {lay : mL} {d : Nat} {ls st : List Value} {I : mI} {F : mF} {R : mR} {n : Nat} {Q : mP} {v0 v1 v2 : Value} {x : Int32} : Ev lay d 167 302 (v0 :: v1 :: v2 :: .int x :: ls) st I F R n Q ↔ Ev lay d 167 303 (v0 :: v1 :: v2 :: .int x :: ls) (.int x :: st) I F R n Q := ev_n rfl
theorem e167_303 {lay : mL} {d : Nat} {ls st : List Value} {I : mI} {F : mF} {R : mR} {n : Nat} {Q : mP} : Ev lay d 167 303 ls st I F R n Q ↔ Ev lay d 167 304 ls (.int (1 : Int32) :: st) I F R n Q := ev_n rfl
theorem e167_304 {lay : mL} {d : Nat} {ls st : List Value} {I : mI} {F : mF} {R : mR} {n : Nat} {Q : mP} {x y : Int32} : Ev lay d 167 304 ls (.int y :: .int x :: st) I F R n Q ↔ Ev lay d 167 305 ls (.int (x + y) :: st) I F R n Q := ev_n rfl
theorem e167_305 {lay : mL} {d : Nat} {ls st : List Value} {I : mI} {F : mF} {R : mR} {n : Nat} {Q : mP} {a : Nat} {i : Int32} : Ev lay d 167 305 ls (.int i :: .ref a :: st) I F R n Q ↔ (m_in lay 0 a i ∧ Ev lay d 167 306 ls (.int (I a i.toNatClampNeg) :: st) I F R n Q) := ev_nc rfl
theorem e167_306 {lay : mL} {d : Nat} {ls st : List Value} {I : mI} {F : mF} {R : mR} {n : Nat} {Q : mP} {x : Nat} : Ev lay d 167 306 (.ref x :: ls) st I F R n Q ↔ Ev lay d 167 307 (.ref x :: ls) (.ref x :: st) I F R n Q := ev_n rfl
theorem e167_306N {lay : mL} {d : Nat} {ls st : List Value} {I : mI} {F : mF} {R : mR} {n : Nat} {Q : mP} : Ev lay d 167 306 (.null :: ls) st I F R n Q ↔ Ev lay d 167 307 (.null :: ls) (.null :: st) I F R n Q := ev_n rfl
theorem e167_307 {lay : mL} {d : Nat} {ls st : List Value} {I : mI} {F : mF} {R : mR} {n : Nat} {Q : mP} {v0 v1 v2 : Value} {x : Int32} : Ev lay d 167 307 (v0 :: v1 :: v2 :: .int x :: ls) st I F R n Q ↔ Ev lay d 167 308 (v0 :: v1 :: v2 :: .int x :: ls) (.int x :: st) I F R n Q := ev_n rfl
theorem e167_308 {lay : mL} {d : Nat} {ls st : List Value} {I : mI} {F : mF} {R : mR} {n : Nat} {Q : mP} : Ev lay d 167 308 ls st I F R n Q ↔ Ev lay d 167 309 ls (.int (2 : Int32) :: st) I F R n Q := ev_n rfl
theorem e167_309 {lay : mL} {d : Nat} {ls st : List Value} {I : mI} {F : mF} {R : mR} {n : Nat} {Q : mP} {x y : Int32} : Ev lay d 167 309 ls (.int y :: .int x :: st) I F R n Q ↔ Ev lay d 167 310 ls (.int (x + y) :: st) I F R n Q := ev_n rfl
theorem e167_310 {lay : mL} {d : Nat} {ls st : List Value} {I : mI} {F : mF} {R : mR} {n : Nat} {Q : mP} {a : Nat} {i : Int32} : Ev lay d 167 310 ls (.int i :: .ref a :: st) I F R n Q ↔ (m_in lay 0 a i ∧ Ev lay d 167 311 ls (.int (I a i.toNatClampNeg) :: st) I F R n Q) := ev_nc rfl
theorem e167_311 {lay : mL} {d : Nat} {ls st : List Value} {I : mI} {F : mF} {R : mR} {n : Nat} {Q : mP} {a : Nat} {x0 : Int32} {x1 : Int32} : Ev lay d 167 311 ls (.int x1 :: .int x0 :: .ref a :: st) I F R n Q ↔ ((lay a = (13, 0) ∧ (st.length ≤ 4 ∨ (st.map fun v => v.category).sum ≤ 8) ∧ 1 ≤ d) ∧ Ev lay (d - 1) 49 0 [.ref a, .int x0, .int x1] [] I F R n (fun v I F R n => Ev lay d 167 314 ls (m_psh v st) I F R n Q)) := ev_c rfl rfl
theorem e167_314 {lay : mL} {d : Nat} {ls st : List Value} {I : mI} {F : mF} {R : mR} {n : Nat} {Q : mP} {v0 v1 : Value} {x : Nat} : Ev lay d 167 314 (v0 :: v1 :: .ref x :: ls) st I F R n Q ↔ Ev lay d 167 315 (v0 :: v1 :: .ref x :: ls) (.ref x :: st) I F R n Q := ev_n rfl
theorem e167_314N {lay : mL} {d : Nat} {ls st : List Value} {I : mI} {F : mF} {R : mR} {n : Nat} {Q : mP} {v0 v1 : Value} : Ev lay d 167 314 (v0 :: v1 :: .null :: ls) st I F R n Q ↔ Ev lay d 167 315 (v0 :: v1 :: .null :: ls) (.null :: st) I F R n Q := ev_n rfl
theorem e167_315 {lay : mL} {d : Nat} {ls st : List Value} {I : mI} {F : mF} {R : mR} {n : Nat} {Q : mP} {x : Nat} : Ev lay d 167 315 (.ref x :: ls) st I F R n Q ↔ Ev lay d 167 316 (.ref x :: ls) (.ref x :: st) I F R n Q := ev_n rfl
theorem e167_315N {lay : mL} {d : Nat} {ls st : List Value} {I : mI} {F : mF} {R : mR} {n : Nat} {Q : mP} : Ev lay d 167 315 (.null :: ls) st I F R n Q ↔ Ev lay d 167 316 (.null :: ls) (.null :: st) I F R n Q := ev_n rfl
theorem e167_316 {lay : mL} {d : Nat} {ls st : List Value} {I : mI} {F : mF} {R : mR} {n : Nat} {Q : mP} {v0 v1 v2 : Value} {x : Int32} : Ev lay d 167 316 (v0 :: v1 :: v2 :: .int x :: ls) st I F R n Q ↔ Ev lay d 167 317 (v0 :: v1 :: v2 :: .int x :: ls) (.int x :: st) I F R n Q := ev_n rfl
theorem e167_317 {lay : mL} {d : Nat} {ls st : List Value} {I : mI} {F : mF} {R : mR} {n : Nat} {Q : mP} : Ev lay d 167 317 ls st I F R n Q ↔ Ev lay d 167 318 ls (.int (1 : Int32) :: st) I F R n Q := ev_n rfl
theorem e167_318 {lay : mL} {d : Nat} {ls st : List Value} {I : mI} {F : mF} {R : mR} {n : Nat} {Q : mP} {x y : Int32} : Ev lay d 167 318 ls (.int y :: .int x :: st) I F R n Q ↔ Ev lay d 167 319 ls (.int (x + y) :: st) I F R n Q := ev_n rfl
theorem e167_319 {lay : mL} {d : Nat} {ls st : List Value} {I : mI} {F : mF} {R : mR} {n : Nat} {Q : mP} {a : Nat} {i : Int32} : Ev lay d 167 319 ls (.int i :: .ref a :: st) I F R n Q ↔ (m_in lay 0 a i ∧ Ev lay d 167 320 ls (.int (I a i.toNatClampNeg) :: st) I F R n Q) := ev_nc rfl
theorem e167_320 {lay : mL} {d : Nat} {ls st : List Value} {I : mI} {F : mF} {R : mR} {n : Nat} {Q : mP} {x : Nat} : Ev lay d 167 320 (.ref x :: ls) st I F R n Q ↔ Ev lay d 167 321 (.ref x :: ls) (.ref x :: st) I F R n Q := ev_n rfl
theorem e167_320N {lay : mL} {d : Nat} {ls st : List Value} {I : mI} {F : mF} {R : mR} {n : Nat} {Q : mP} : Ev lay d 167 320 (.null :: ls) st I F R n Q ↔ Ev lay d 167 321 (.null :: ls) (.null :: st) I F R n Q := ev_n rfl
theorem e167_321 {lay : mL} {d : Nat} {ls st : List Value} {I : mI} {F : mF} {R : mR} {n : Nat} {Q : mP} {v0 v1 v2 : Value} {x : Int32} : Ev lay d 167 321 (v0 :: v1 :: v2 :: .int x :: ls) st I F R n Q ↔ Ev lay d 167 322 (v0 :: v1 :: v2 :: .int x :: ls) (.int x :: st) I F R n Q := ev_n rfl
theorem e167_322 {lay : mL} {d : Nat} {ls st : List Value} {I : mI} {F : mF} {R : mR} {n : Nat} {Q : mP} : Ev lay d 167 322 ls st I F R n Q ↔ Ev lay d 167 323 ls (.int (2 : Int32) :: st) I F R n Q := ev_n rfl
theorem e167_323 {lay : mL} {d : Nat} {ls st : List Value} {I : mI} {F : mF} {R : mR} {n : Nat} {Q : mP} {x y : Int32} : Ev lay d 167 323 ls (.int y :: .int x :: st) I F R n Q ↔ Ev lay d 167 324 ls (.int (x + y) :: st) I F R n Q := ev_n rfl
theorem e167_324 {lay : mL} {d : Nat} {ls st : List Value} {I : mI} {F : mF} {R : mR} {n : Nat} {Q : mP} {a : Nat} {i : Int32} : Ev lay d 167 324 ls (.int i :: .ref a :: st) I F R n Q ↔ (m_in lay 0 a i ∧ Ev lay d 167 325 ls (.int (I a i.toNatClampNeg) :: st) I F R n Q) := ev_nc rfl
theorem e167_325 {lay : mL} {d : Nat} {ls st : List Value} {I : mI} {F : mF} {R : mR} {n : Nat} {Q : mP} {a : Nat} {x0 : Int32} {x1 : Int32} : Ev lay d 167 325 ls (.int x1 :: .int x0 :: .ref a :: st) I F R n Q ↔ ((lay a = (14, 0) ∧ (st.length ≤ 4 ∨ (st.map fun v => v.category).sum ≤ 8) ∧ 1 ≤ d) ∧ Ev lay (d - 1) 132 0 [.ref a, .int x0, .int x1] [] I F R n (fun v I F R n => Ev lay d 167 328 ls (m_psh v st) I F R n Q)) := ev_c rfl rfl
theorem e167_328 {lay : mL} {d : Nat} {ls st : List Value} {I : mI} {F : mF} {R : mR} {n : Nat} {Q : mP} {x y : Int32} : Ev lay d 167 328 ls (.int y :: .int x :: st) I F R n Q ↔ (if x = y then Ev lay d 167 801 ls st I F R n Q else Ev lay d 167 331 ls st I F R n Q) := (ev_n rfl).trans (ev_if _)
theorem e167_331 {lay : mL} {d : Nat} {ls st : List Value} {I : mI} {F : mF} {R : mR} {n : Nat} {Q : mP} : Ev lay d 167 331 ls st I F R n Q ↔ Ev lay d 167 332 ls (.int (0 : Int32) :: st) I F R n Q := ev_n rfl
theorem e167_332 {lay : mL} {d : Nat} {ls : List Value} {I : mI} {F : mF} {R : mR} {n : Nat} {Q : mP} {x : Int32} : Ev lay d 167 332 ls [.int x] I F R n Q ↔ (narrow .boolean (.int x) = .int x ∧ Q (some (.int x)) I F R n) := ev_rc rfl
theorem e167_333 {lay : mL} {d : Nat} {ls st : List Value} {I : mI} {F : mF} {R : mR} {n : Nat} {Q : mP} {v0 : Value} {x : Nat} : Ev lay d 167 333 (v0 :: .ref x :: ls) st I F R n Q ↔ Ev lay d 167 334 (v0 :: .ref x :: ls) (.ref x :: st) I F R n Q := ev_n rfl
theorem e167_333N {lay : mL} {d : Nat} {ls st : List Value} {I : mI} {F : mF} {R : mR} {n : Nat} {Q : mP} {v0 : Value} : Ev lay d 167 333 (v0 :: .null :: ls) st I F R n Q ↔ Ev lay d 167 334 (v0 :: .null :: ls) (.null :: st) I F R n Q := ev_n rfl
theorem e167_334 {lay : mL} {d : Nat} {ls st : List Value} {I : mI} {F : mF} {R : mR} {n : Nat} {Q : mP} {x : Nat} : Ev lay d 167 334 (.ref x :: ls) st I F R n Q ↔ Ev lay d 167 335 (.ref x :: ls) (.ref x :: st) I F R n Q := ev_n rfl
theorem e167_334N {lay : mL} {d : Nat} {ls st : List Value} {I : mI} {F : mF} {R : mR} {n : Nat} {Q : mP} : Ev lay d 167 334 (.null :: ls) st I F R n Q ↔ Ev lay d 167 335 (.null :: ls) (.null :: st) I F R n Q := ev_n rfl
theorem e167_335 {lay : mL} {d : Nat} {ls st : List Value} {I : mI} {F : mF} {R : mR} {n : Nat} {Q : mP} {v0 v1 v2 : Value} {x : Int32} : Ev lay d 167 335 (v0 :: v1 :: v2 :: .int x :: ls) st I F R n Q ↔ Ev lay d 167 336 (v0 :: v1 :: v2 :: .int x :: ls) (.int x :: st) I F R n Q := ev_n rfl
theorem e167_336 {lay : mL} {d : Nat} {ls st : List Value} {I : mI} {F : mF} {R : mR} {n : Nat} {Q : mP} : Ev lay d 167 336 ls st I F R n Q ↔ Ev lay d 167 337 ls (.int (1 : Int32) :: st) I F R n Q := ev_n rfl
theorem e167_337 {lay : mL} {d : Nat} {ls st : List Value} {I : mI} {F : mF} {R : mR} {n : Nat} {Q : mP} {x y : Int32} : Ev lay d 167 337 ls (.int y :: .int x :: st) I F R n Q ↔ Ev lay d 167 338 ls (.int (x + y) :: st) I F R n Q := ev_n rfl
theorem e167_338 {lay : mL} {d : Nat} {ls st : List Value} {I : mI} {F : mF} {R : mR} {n : Nat} {Q : mP} {a : Nat} {i : Int32} : Ev lay d 167 338 ls (.int i :: .ref a :: st) I F R n Q ↔ (m_in lay 0 a i ∧ Ev lay d 167 339 ls (.int (I a i.toNatClampNeg) :: st) I F R n Q) := ev_nc rfl
theorem e167_339 {lay : mL} {d : Nat} {ls st : List Value} {I : mI} {F : mF} {R : mR} {n : Nat} {Q : mP} {x : Nat} : Ev lay d 167 339 (.ref x :: ls) st I F R n Q ↔ Ev lay d 167 340 (.ref x :: ls) (.ref x :: st) I F R n Q := ev_n rfl
theorem e167_339N {lay : mL} {d : Nat} {ls st : List Value} {I : mI} {F : mF} {R : mR} {n : Nat} {Q : mP} : Ev lay d 167 339 (.null :: ls) st I F R n Q ↔ Ev lay d 167 340 (.null :: ls) (.null :: st) I F R n Q := ev_n rfl
theorem e167_340 {lay : mL} {d : Nat} {ls st : List Value} {I : mI} {F : mF} {R : mR} {n : Nat} {Q : mP} {v0 v1 v2 : Value} {x : Int32} : Ev lay d 167 340 (v0 :: v1 :: v2 :: .int x :: ls) st I F R n Q ↔ Ev lay d 167 341 (v0 :: v1 :: v2 :: .int x :: ls) (.int x :: st) I F R n Q := ev_n rfl
theorem e167_341 {lay : mL} {d : Nat} {ls st : List Value} {I : mI} {F : mF} {R : mR} {n : Nat} {Q : mP} : Ev lay d 167 341 ls st I F R n Q ↔ Ev lay d 167 342 ls (.int (2 : Int32) :: st) I F R n Q := ev_n rfl
theorem e167_342 {lay : mL} {d : Nat} {ls st : List Value} {I : mI} {F : mF} {R : mR} {n : Nat} {Q : mP} {x y : Int32} : Ev lay d 167 342 ls (.int y :: .int x :: st) I F R n Q ↔ Ev lay d 167 343 ls (.int (x + y) :: st) I F R n Q := ev_n rfl
theorem e167_343 {lay : mL} {d : Nat} {ls st : List Value} {I : mI} {F : mF} {R : mR} {n : Nat} {Q : mP} {a : Nat} {i : Int32} : Ev lay d 167 343 ls (.int i :: .ref a :: st) I F R n Q ↔ (m_in lay 0 a i ∧ Ev lay d 167 344 ls (.int (I a i.toNatClampNeg) :: st) I F R n Q) := ev_nc rfl
theorem e167_344 {lay : mL} {d : Nat} {ls st : List Value} {I : mI} {F : mF} {R : mR} {n : Nat} {Q : mP} {a : Nat} {x0 : Int32} {x1 : Int32} : Ev lay d 167 344 ls (.int x1 :: .int x0 :: .ref a :: st) I F R n Q ↔ ((lay a = (13, 0) ∧ (st.length ≤ 4 ∨ (st.map fun v => v.category).sum ≤ 8) ∧ 1 ≤ d) ∧ Ev lay (d - 1) 53 0 [.ref a, .int x0, .int x1] [] I F R n (fun v I F R n => Ev lay d 167 347 ls (m_psh v st) I F R n Q)) := ev_c rfl rfl
theorem e167_347 {lay : mL} {d : Nat} {ls st : List Value} {I : mI} {F : mF} {R : mR} {n : Nat} {Q : mP} {v0 v1 : Value} {x : Nat} : Ev lay d 167 347 (v0 :: v1 :: .ref x :: ls) st I F R n Q ↔ Ev lay d 167 348 (v0 :: v1 :: .ref x :: ls) (.ref x :: st) I F R n Q := ev_n rfl
theorem e167_347N {lay : mL} {d : Nat} {ls st : List Value} {I : mI} {F : mF} {R : mR} {n : Nat} {Q : mP} {v0 v1 : Value} : Ev lay d 167 347 (v0 :: v1 :: .null :: ls) st I F R n Q ↔ Ev lay d 167 348 (v0 :: v1 :: .null :: ls) (.null :: st) I F R n Q := ev_n rfl
theorem e167_348 {lay : mL} {d : Nat} {ls st : List Value} {I : mI} {F : mF} {R : mR} {n : Nat} {Q : mP} {x : Nat} : Ev lay d 167 348 (.ref x :: ls) st I F R n Q ↔ Ev lay d 167 349 (.ref x :: ls) (.ref x :: st) I F R n Q := ev_n rfl
theorem e167_348N {lay : mL} {d : Nat} {ls st : List Value} {I : mI} {F : mF} {R : mR} {n : Nat} {Q : mP} : Ev lay d 167 348 (.null :: ls) st I F R n Q ↔ Ev lay d 167 349 (.null :: ls) (.null :: st) I F R n Q := ev_n rfl
theorem e167_349 {lay : mL} {d : Nat} {ls st : List Value} {I : mI} {F : mF} {R : mR} {n : Nat} {Q : mP} {v0 v1 v2 : Value} {x : Int32} : Ev lay d 167 349 (v0 :: v1 :: v2 :: .int x :: ls) st I F R n Q ↔ Ev lay d 167 350 (v0 :: v1 :: v2 :: .int x :: ls) (.int x :: st) I F R n Q := ev_n rfl
theorem e167_350 {lay : mL} {d : Nat} {ls st : List Value} {I : mI} {F : mF} {R : mR} {n : Nat} {Q : mP} : Ev lay d 167 350 ls st I F R n Q ↔ Ev lay d 167 351 ls (.int (1 : Int32) :: st) I F R n Q := ev_n rfl
theorem e167_351 {lay : mL} {d : Nat} {ls st : List Value} {I : mI} {F : mF} {R : mR} {n : Nat} {Q : mP} {x y : Int32} : Ev lay d 167 351 ls (.int y :: .int x :: st) I F R n Q ↔ Ev lay d 167 352 ls (.int (x + y) :: st) I F R n Q := ev_n rfl
theorem e167_352 {lay : mL} {d : Nat} {ls st : List Value} {I : mI} {F : mF} {R : mR} {n : Nat} {Q : mP} {a : Nat} {i : Int32} : Ev lay d 167 352 ls (.int i :: .ref a :: st) I F R n Q ↔ (m_in lay 0 a i ∧ Ev lay d 167 353 ls (.int (I a i.toNatClampNeg) :: st) I F R n Q) := ev_nc rfl
theorem e167_353 {lay : mL} {d : Nat} {ls st : List Value} {I : mI} {F : mF} {R : mR} {n : Nat} {Q : mP} {x : Nat} : Ev lay d 167 353 (.ref x :: ls) st I F R n Q ↔ Ev lay d 167 354 (.ref x :: ls) (.ref x :: st) I F R n Q := ev_n rfl
theorem e167_353N {lay : mL} {d : Nat} {ls st : List Value} {I : mI} {F : mF} {R : mR} {n : Nat} {Q : mP} : Ev lay d 167 353 (.null :: ls) st I F R n Q ↔ Ev lay d 167 354 (.null :: ls) (.null :: st) I F R n Q := ev_n rfl
theorem e167_354 {lay : mL} {d : Nat} {ls st : List Value} {I : mI} {F : mF} {R : mR} {n : Nat} {Q : mP} {v0 v1 v2 : Value} {x : Int32} : Ev lay d 167 354 (v0 :: v1 :: v2 :: .int x :: ls) st I F R n Q ↔ Ev lay d 167 355 (v0 :: v1 :: v2 :: .int x :: ls) (.int x :: st) I F R n Q := ev_n rfl
theorem e167_355 {lay : mL} {d : Nat} {ls st : List Value} {I : mI} {F : mF} {R : mR} {n : Nat} {Q : mP} : Ev lay d 167 355 ls st I F R n Q ↔ Ev lay d 167 356 ls (.int (2 : Int32) :: st) I F R n Q := ev_n rfl
theorem e167_356 {lay : mL} {d : Nat} {ls st : List Value} {I : mI} {F : mF} {R : mR} {n : Nat} {Q : mP} {x y : Int32} : Ev lay d 167 356 ls (.int y :: .int x :: st) I F R n Q ↔ Ev lay d 167 357 ls (.int (x + y) :: st) I F R n Q := ev_n rfl
theorem e167_357 {lay : mL} {d : Nat} {ls st : List Value} {I : mI} {F : mF} {R : mR} {n : Nat} {Q : mP} {a : Nat} {i : Int32} : Ev lay d 167 357 ls (.int i :: .ref a :: st) I F R n Q ↔ (m_in lay 0 a i ∧ Ev lay d 167 358 ls (.int (I a i.toNatClampNeg) :: st) I F R n Q) := ev_nc rfl
theorem e167_358 {lay : mL} {d : Nat} {ls st : List Value} {I : mI} {F : mF} {R : mR} {n : Nat} {Q : mP} {a : Nat} {x0 : Int32} {x1 : Int32} : Ev lay d 167 358 ls (.int x1 :: .int x0 :: .ref a :: st) I F R n Q ↔ ((lay a = (14, 0) ∧ (st.length ≤ 4 ∨ (st.map fun v => v.category).sum ≤ 8) ∧ 1 ≤ d) ∧ Ev lay (d - 1) 135 0 [.ref a, .int x0, .int x1] [] I F R n (fun v I F R n => Ev lay d 167 361 ls (m_psh v st) I F R n Q)) := ev_c rfl rfl
theorem e167_361 {lay : mL} {d : Nat} {ls st : List Value} {I : mI} {F : mF} {R : mR} {n : Nat} {Q : mP} {x y : Int32} : Ev lay d 167 361 ls (.int y :: .int x :: st) I F R n Q ↔ (if x = y then Ev lay d 167 801 ls st I F R n Q else Ev lay d 167 364 ls st I F R n Q) := (ev_n rfl).trans (ev_if _)
theorem e167_364 {lay : mL} {d : Nat} {ls st : List Value} {I : mI} {F : mF} {R : mR} {n : Nat} {Q : mP} : Ev lay d 167 364 ls st I F R n Q ↔ Ev lay d 167 365 ls (.int (0 : Int32) :: st) I F R n Q := ev_n rfl
theorem e167_365 {lay : mL} {d : Nat} {ls : List Value} {I : mI} {F : mF} {R : mR} {n : Nat} {Q : mP} {x : Int32} : Ev lay d 167 365 ls [.int x] I F R n Q ↔ (narrow .boolean (.int x) = .int x ∧ Q (some (.int x)) I F R n) := ev_rc rfl
theorem e167_366 {lay : mL} {d : Nat} {ls st : List Value} {I : mI} {F : mF} {R : mR} {n : Nat} {Q : mP} {v0 : Value} {x : Nat} : Ev lay d 167 366 (v0 :: .ref x :: ls) st I F R n Q ↔ Ev lay d 167 367 (v0 :: .ref x :: ls) (.ref x :: st) I F R n Q := ev_n rfl
theorem e167_366N {lay : mL} {d : Nat} {ls st : List Value} {I : mI} {F : mF} {R : mR} {n : Nat} {Q : mP} {v0 : Value} : Ev lay d 167 366 (v0 :: .null :: ls) st I F R n Q ↔ Ev lay d 167 367 (v0 :: .null :: ls) (.null :: st) I F R n Q := ev_n rfl
theorem e167_367 {lay : mL} {d : Nat} {ls st : List Value} {I : mI} {F : mF} {R : mR} {n : Nat} {Q : mP} {x : Nat} : Ev lay d 167 367 (.ref x :: ls) st I F R n Q ↔ Ev lay d 167 368 (.ref x :: ls) (.ref x :: st) I F R n Q := ev_n rfl
theorem e167_367N {lay : mL} {d : Nat} {ls st : List Value} {I : mI} {F : mF} {R : mR} {n : Nat} {Q : mP} : Ev lay d 167 367 (.null :: ls) st I F R n Q ↔ Ev lay d 167 368 (.null :: ls) (.null :: st) I F R n Q := ev_n rfl
theorem e167_368 {lay : mL} {d : Nat} {ls st : List Value} {I : mI} {F : mF} {R : mR} {n : Nat} {Q : mP} {v0 v1 v2 : Value} {x : Int32} : Ev lay d 167 368 (v0 :: v1 :: v2 :: .int x :: ls) st I F R n Q ↔ Ev lay d 167 369 (v0 :: v1 :: v2 :: .int x :: ls) (.int x :: st) I F R n Q := ev_n rfl
theorem e167_369 {lay : mL} {d : Nat} {ls st : List Value} {I : mI} {F : mF} {R : mR} {n : Nat} {Q : mP} : Ev lay d 167 369 ls st I F R n Q ↔ Ev lay d 167 370 ls (.int (1 : Int32) :: st) I F R n Q := ev_n rfl
theorem e167_370 {lay : mL} {d : Nat} {ls st : List Value} {I : mI} {F : mF} {R : mR} {n : Nat} {Q : mP} {x y : Int32} : Ev lay d 167 370 ls (.int y :: .int x :: st) I F R n Q ↔ Ev lay d 167 371 ls (.int (x + y) :: st) I F R n Q := ev_n rfl
theorem e167_371 {lay : mL} {d : Nat} {ls st : List Value} {I : mI} {F : mF} {R : mR} {n : Nat} {Q : mP} {a : Nat} {i : Int32} : Ev lay d 167 371 ls (.int i :: .ref a :: st) I F R n Q ↔ (m_in lay 0 a i ∧ Ev lay d 167 372 ls (.int (I a i.toNatClampNeg) :: st) I F R n Q) := ev_nc rfl
theorem e167_372 {lay : mL} {d : Nat} {ls st : List Value} {I : mI} {F : mF} {R : mR} {n : Nat} {Q : mP} {x : Nat} : Ev lay d 167 372 (.ref x :: ls) st I F R n Q ↔ Ev lay d 167 373 (.ref x :: ls) (.ref x :: st) I F R n Q := ev_n rfl
theorem e167_372N {lay : mL} {d : Nat} {ls st : List Value} {I : mI} {F : mF} {R : mR} {n : Nat} {Q : mP} : Ev lay d 167 372 (.null :: ls) st I F R n Q ↔ Ev lay d 167 373 (.null :: ls) (.null :: st) I F R n Q := ev_n rfl
theorem e167_373 {lay : mL} {d : Nat} {ls st : List Value} {I : mI} {F : mF} {R : mR} {n : Nat} {Q : mP} {v0 v1 v2 : Value} {x : Int32} : Ev lay d 167 373 (v0 :: v1 :: v2 :: .int x :: ls) st I F R n Q ↔ Ev lay d 167 374 (v0 :: v1 :: v2 :: .int x :: ls) (.int x :: st) I F R n Q := ev_n rfl
theorem e167_374 {lay : mL} {d : Nat} {ls st : List Value} {I : mI} {F : mF} {R : mR} {n : Nat} {Q : mP} : Ev lay d 167 374 ls st I F R n Q ↔ Ev lay d 167 375 ls (.int (2 : Int32) :: st) I F R n Q := ev_n rfl
theorem e167_375 {lay : mL} {d : Nat} {ls st : List Value} {I : mI} {F : mF} {R : mR} {n : Nat} {Q : mP} {x y : Int32} : Ev lay d 167 375 ls (.int y :: .int x :: st) I F R n Q ↔ Ev lay d 167 376 ls (.int (x + y) :: st) I F R n Q := ev_n rfl
theorem e167_376 {lay : mL} {d : Nat} {ls st : List Value} {I : mI} {F : mF} {R : mR} {n : Nat} {Q : mP} {a : Nat} {i : Int32} : Ev lay d 167 376 ls (.int i :: .ref a :: st) I F R n Q ↔ (m_in lay 0 a i ∧ Ev lay d 167 377 ls (.int (I a i.toNatClampNeg) :: st) I F R n Q) := ev_nc rfl
theorem e167_377 {lay : mL} {d : Nat} {ls st : List Value} {I : mI} {F : mF} {R : mR} {n : Nat} {Q : mP} {a : Nat} {x0 : Int32} {x1 : Int32} : Ev lay d 167 377 ls (.int x1 :: .int x0 :: .ref a :: st) I F R n Q ↔ ((lay a = (13, 0) ∧ (st.length ≤ 4 ∨ (st.map fun v => v.category).sum ≤ 8) ∧ 1 ≤ d) ∧ Ev lay (d - 1) 54 0 [.ref a, .int x0, .int x1] [] I F R n (fun v I F R n => Ev lay d 167 380 ls (m_psh v st) I F R n Q)) := ev_c rfl rfl
theorem e167_380 {lay : mL} {d : Nat} {ls st : List Value} {I : mI} {F : mF} {R : mR} {n : Nat} {Q : mP} {v0 v1 : Value} {x : Nat} : Ev lay d 167 380 (v0 :: v1 :: .ref x :: ls) st I F R n Q ↔ Ev lay d 167 381 (v0 :: v1 :: .ref x :: ls) (.ref x :: st) I F R n Q := ev_n rfl
theorem e167_380N {lay : mL} {d : Nat} {ls st : List Value} {I : mI} {F : mF} {R : mR} {n : Nat} {Q : mP} {v0 v1 : Value} : Ev lay d 167 380 (v0 :: v1 :: .null :: ls) st I F R n Q ↔ Ev lay d 167 381 (v0 :: v1 :: .null :: ls) (.null :: st) I F R n Q := ev_n rfl
theorem e167_381 {lay : mL} {d : Nat} {ls st : List Value} {I : mI} {F : mF} {R : mR} {n : Nat} {Q : mP} {x : Nat} : Ev lay d 167 381 (.ref x :: ls) st I F R n Q ↔ Ev lay d 167 382 (.ref x :: ls) (.ref x :: st) I F R n Q := ev_n rfl
theorem e167_381N {lay : mL} {d : Nat} {ls st : List Value} {I : mI} {F : mF} {R : mR} {n : Nat} {Q : mP} : Ev lay d 167 381 (.null :: ls) st I F R n Q ↔ Ev lay d 167 382 (.null :: ls) (.null :: st) I F R n Q := ev_n rfl
theorem e167_382 {lay : mL} {d : Nat} {ls st : List Value} {I : mI} {F : mF} {R : mR} {n : Nat} {Q : mP} {v0 v1 v2 : Value} {x : Int32} : Ev lay d 167 382 (v0 :: v1 :: v2 :: .int x :: ls) st I F R n Q ↔ Ev lay d 167 383 (v0 :: v1 :: v2 :: .int x :: ls) (.int x :: st) I F R n Q := ev_n rfl
theorem e167_383 {lay : mL} {d : Nat} {ls st : List Value} {I : mI} {F : mF} {R : mR} {n : Nat} {Q : mP} : Ev lay d 167 383 ls st I F R n Q ↔ Ev lay d 167 384 ls (.int (1 : Int32) :: st) I F R n Q := ev_n rfl
theorem e167_384 {lay : mL} {d : Nat} {ls st : List Value} {I : mI} {F : mF} {R : mR} {n : Nat} {Q : mP} {x y : Int32} : Ev lay d 167 384 ls (.int y :: .int x :: st) I F R n Q ↔ Ev lay d 167 385 ls (.int (x + y) :: st) I F R n Q := ev_n rfl
theorem e167_385 {lay : mL} {d : Nat} {ls st : List Value} {I : mI} {F : mF} {R : mR} {n : Nat} {Q : mP} {a : Nat} {i : Int32} : Ev lay d 167 385 ls (.int i :: .ref a :: st) I F R n Q ↔ (m_in lay 0 a i ∧ Ev lay d 167 386 ls (.int (I a i.toNatClampNeg) :: st) I F R n Q) := ev_nc rfl
theorem e167_386 {lay : mL} {d : Nat} {ls st : List Value} {I : mI} {F : mF} {R : mR} {n : Nat} {Q : mP} {x : Nat} : Ev lay d 167 386 (.ref x :: ls) st I F R n Q ↔ Ev lay d 167 387 (.ref x :: ls) (.ref x :: st) I F R n Q := ev_n rfl
theorem e167_386N {lay : mL} {d : Nat} {ls st : List Value} {I : mI} {F : mF} {R : mR} {n : Nat} {Q : mP} : Ev lay d 167 386 (.null :: ls) st I F R n Q ↔ Ev lay d 167 387 (.null :: ls) (.null :: st) I F R n Q := ev_n rfl
theorem e167_387 {lay : mL} {d : Nat} {ls st : List Value} {I : mI} {F : mF} {R : mR} {n : Nat} {Q : mP} {v0 v1 v2 : Value} {x : Int32} : Ev lay d 167 387 (v0 :: v1 :: v2 :: .int x :: ls) st I F R n Q ↔ Ev lay d 167 388 (v0 :: v1 :: v2 :: .int x :: ls) (.int x :: st) I F R n Q := ev_n rfl
theorem e167_388 {lay : mL} {d : Nat} {ls st : List Value} {I : mI} {F : mF} {R : mR} {n : Nat} {Q : mP} : Ev lay d 167 388 ls st I F R n Q ↔ Ev lay d 167 389 ls (.int (2 : Int32) :: st) I F R n Q := ev_n rfl
theorem e167_389 {lay : mL} {d : Nat} {ls st : List Value} {I : mI} {F : mF} {R : mR} {n : Nat} {Q : mP} {x y : Int32} : Ev lay d 167 389 ls (.int y :: .int x :: st) I F R n Q ↔ Ev lay d 167 390 ls (.int (x + y) :: st) I F R n Q := ev_n rfl
theorem e167_390 {lay : mL} {d : Nat} {ls st : List Value} {I : mI} {F : mF} {R : mR} {n : Nat} {Q : mP} {a : Nat} {i : Int32} : Ev lay d 167 390 ls (.int i :: .ref a :: st) I F R n Q ↔ (m_in lay 0 a i ∧ Ev lay d 167 391 ls (.int (I a i.toNatClampNeg) :: st) I F R n Q) := ev_nc rfl
theorem e167_391 {lay : mL} {d : Nat} {ls st : List Value} {I : mI} {F : mF} {R : mR} {n : Nat} {Q : mP} {a : Nat} {x0 : Int32} {x1 : Int32} : Ev lay d 167 391 ls (.int x1 :: .int x0 :: .ref a :: st) I F R n Q ↔ ((lay a = (14, 0) ∧ (st.length ≤ 4 ∨ (st.map fun v => v.category).sum ≤ 8) ∧ 1 ≤ d) ∧ Ev lay (d - 1) 136 0 [.ref a, .int x0, .int x1] [] I F R n (fun v I F R n => Ev lay d 167 394 ls (m_psh v st) I F R n Q)) := ev_c rfl rfl
theorem e167_394 {lay : mL} {d : Nat} {ls st : List Value} {I : mI} {F : mF} {R : mR} {n : Nat} {Q : mP} {x y : Int32} : Ev lay d 167 394 ls (.int y :: .int x :: st) I F R n Q ↔ (if x = y then Ev lay d 167 801 ls st I F R n Q else Ev lay d 167 397 ls st I F R n Q) := (ev_n rfl).trans (ev_if _)
theorem e167_397 {lay : mL} {d : Nat} {ls st : List Value} {I : mI} {F : mF} {R : mR} {n : Nat} {Q : mP} : Ev lay d 167 397 ls st I F R n Q ↔ Ev lay d 167 398 ls (.int (0 : Int32) :: st) I F R n Q := ev_n rfl
theorem e167_398 {lay : mL} {d : Nat} {ls : List Value} {I : mI} {F : mF} {R : mR} {n : Nat} {Q : mP} {x : Int32} : Ev lay d 167 398 ls [.int x] I F R n Q ↔ (narrow .boolean (.int x) = .int x ∧ Q (some (.int x)) I F R n) := ev_rc rfl
theorem e167_399 {lay : mL} {d : Nat} {ls st : List Value} {I : mI} {F : mF} {R : mR} {n : Nat} {Q : mP} {v0 : Value} {x : Nat} : Ev lay d 167 399 (v0 :: .ref x :: ls) st I F R n Q ↔ Ev lay d 167 400 (v0 :: .ref x :: ls) (.ref x :: st) I F R n Q := ev_n rfl
theorem e167_399N {lay : mL} {d : Nat} {ls st : List Value} {I : mI} {F : mF} {R : mR} {n : Nat} {Q : mP} {v0 : Value} : Ev lay d 167 399 (v0 :: .null :: ls) st I F R n Q ↔ Ev lay d 167 400 (v0 :: .null :: ls) (.null :: st) I F R n Q := ev_n rfl
theorem e167_400 {lay : mL} {d : Nat} {ls st : List Value} {I : mI} {F : mF} {R : mR} {n : Nat} {Q : mP} {x : Nat} : Ev lay d 167 400 (.ref x :: ls) st I F R n Q ↔ Ev lay d 167 401 (.ref x :: ls) (.ref x :: st) I F R n Q := ev_n rfl
theorem e167_400N {lay : mL} {d : Nat} {ls st : List Value} {I : mI} {F : mF} {R : mR} {n : Nat} {Q : mP} : Ev lay d 167 400 (.null :: ls) st I F R n Q ↔ Ev lay d 167 401 (.null :: ls) (.null :: st) I F R n Q := ev_n rfl
set_option maxRecDepth 20000 in
theorem e167_401 {lay : mL} {d : Nat} {ls st : List Value} {I : mI} {F : mF} {R : mR} {n : Nat} {Q : mP} {v0 v1 v2 : Value} {x : Int32} : Ev lay d 167 401 (v0 :: v1 :: v2 :: .int x :: ls) st I F R n Q ↔ Ev lay d 167 402 (v0 :: v1 :: v2 :: .int x :: ls) (.int x :: st) I F R n Q := ev_n rfl
set_option maxRecDepth 20000 in
theorem e167_402 {lay : mL} {d : Nat} {ls st : List Value} {I : mI} {F : mF} {R : mR} {n : Nat} {Q : mP} : Ev lay d 167 402 ls st I F R n Q ↔ Ev lay d 167 403 ls (.int (1 : Int32) :: st) I F R n Q := ev_n rfl
set_option maxRecDepth 20000 in
theorem e167_403 {lay : mL} {d : Nat} {ls st : List Value} {I : mI} {F : mF} {R : mR} {n : Nat} {Q : mP} {x y : Int32} : Ev lay d 167 403 ls (.int y :: .int x :: st) I F R n Q ↔ Ev lay d 167 404 ls (.int (x + y) :: st) I F R n Q := ev_n rfl
set_option maxRecDepth 20000 in
theorem e167_404 {lay : mL} {d : Nat} {ls st : List Value} {I : mI} {F : mF} {R : mR} {n : Nat} {Q : mP} {a : Nat} {i : Int32} : Ev lay d 167 404 ls (.int i :: .ref a :: st) I F R n Q ↔ (m_in lay 0 a i ∧ Ev lay d 167 405 ls (.int (I a i.toNatClampNeg) :: st) I F R n Q) := ev_nc rfl
set_option maxRecDepth 20000 in
theorem e167_405 {lay : mL} {d : Nat} {ls st : List Value} {I : mI} {F : mF} {R : mR} {n : Nat} {Q : mP} {x : Nat} : Ev lay d 167 405 (.ref x :: ls) st I F R n Q ↔ Ev lay d 167 406 (.ref x :: ls) (.ref x :: st) I F R n Q := ev_n rfl
set_option maxRecDepth 20000 in
theorem e167_405N {lay : mL} {d : Nat} {ls st : List Value} {I : mI} {F : mF} {R : mR} {n : Nat} {Q : mP} : Ev lay d 167 405 (.null :: ls) st I F R n Q ↔ Ev lay d 167 406 (.null :: ls) (.null :: st) I F R n Q := ev_n rfl
set_option maxRecDepth 20000 in
theorem e167_406 {lay : mL} {d : Nat} {ls st : List Value} {I : mI} {F : mF} {R : mR} {n : Nat} {Q : mP} {v0 v1 v2 : Value} {x : Int32} : Ev lay d 167 406 (v0 :: v1 :: v2 :: .int x :: ls) st I F R n Q ↔ Ev lay d 167 407 (v0 :: v1 :: v2 :: .int x :: ls) (.int x :: st) I F R n Q := ev_n rfl
set_option maxRecDepth 20000 in
theorem e167_407 {lay : mL} {d : Nat} {ls st : List Value} {I : mI} {F : mF} {R : mR} {n : Nat} {Q : mP} : Ev lay d 167 407 ls st I F R n Q ↔ Ev lay d 167 408 ls (.int (2 : Int32) :: st) I F R n Q := ev_n rfl
set_option maxRecDepth 20000 in
theorem e167_408 {lay : mL} {d : Nat} {ls st : List Value} {I : mI} {F : mF} {R : mR} {n : Nat} {Q : mP} {x y : Int32} : Ev lay d 167 408 ls (.int y :: .int x :: st) I F R n Q ↔ Ev lay d 167 409 ls (.int (x + y) :: st) I F R n Q := ev_n rfl
set_option maxRecDepth 20000 in
theorem e167_409 {lay : mL} {d : Nat} {ls st : List Value} {I : mI} {F : mF} {R : mR} {n : Nat} {Q : mP} {a : Nat} {i : Int32} : Ev lay d 167 409 ls (.int i :: .ref a :: st) I F R n Q ↔ (m_in lay 0 a i ∧ Ev lay d 167 410 ls (.int (I a i.toNatClampNeg) :: st) I F R n Q) := ev_nc rfl
set_option maxRecDepth 20000 in
theorem e167_410 {lay : mL} {d : Nat} {ls st : List Value} {I : mI} {F : mF} {R : mR} {n : Nat} {Q : mP} {x : Nat} : Ev lay d 167 410 (.ref x :: ls) st I F R n Q ↔ Ev lay d 167 411 (.ref x :: ls) (.ref x :: st) I F R n Q := ev_n rfl
set_option maxRecDepth 20000 in
theorem e167_410N {lay : mL} {d : Nat} {ls st : List Value} {I : mI} {F : mF} {R : mR} {n : Nat} {Q : mP} : Ev lay d 167 410 (.null :: ls) st I F R n Q ↔ Ev lay d 167 411 (.null :: ls) (.null :: st) I F R n Q := ev_n rfl
set_option maxRecDepth 20000 in
theorem e167_411 {lay : mL} {d : Nat} {ls st : List Value} {I : mI} {F : mF} {R : mR} {n : Nat} {Q : mP} {v0 v1 v2 : Value} {x : Int32} : Ev lay d 167 411 (v0 :: v1 :: v2 :: .int x :: ls) st I F R n Q ↔ Ev lay d 167 412 (v0 :: v1 :: v2 :: .int x :: ls) (.int x :: st) I F R n Q := ev_n rfl
set_option maxRecDepth 20000 in
theorem e167_412 {lay : mL} {d : Nat} {ls st : List Value} {I : mI} {F : mF} {R : mR} {n : Nat} {Q : mP} : Ev lay d 167 412 ls st I F R n Q ↔ Ev lay d 167 413 ls (.int (3 : Int32) :: st) I F R n Q := ev_n rfl
set_option maxRecDepth 20000 in
theorem e167_413 {lay : mL} {d : Nat} {ls st : List Value} {I : mI} {F : mF} {R : mR} {n : Nat} {Q : mP} {x y : Int32} : Ev lay d 167 413 ls (.int y :: .int x :: st) I F R n Q ↔ Ev lay d 167 414 ls (.int (x + y) :: st) I F R n Q := ev_n rfl
set_option maxRecDepth 20000 in
theorem e167_414 {lay : mL} {d : Nat} {ls st : List Value} {I : mI} {F : mF} {R : mR} {n : Nat} {Q : mP} {a : Nat} {i : Int32} : Ev lay d 167 414 ls (.int i :: .ref a :: st) I F R n Q ↔ (m_in lay 0 a i ∧ Ev lay d 167 415 ls (.int (I a i.toNatClampNeg) :: st) I F R n Q) := ev_nc rfl
set_option maxRecDepth 20000 in
theorem e167_415 {lay : mL} {d : Nat} {ls st : List Value} {I : mI} {F : mF} {R : mR} {n : Nat} {Q : mP} {a : Nat} {x0 : Int32} {x1 : Int32} {x2 : Int32} : Ev lay d 167 415 ls (.int x2 :: .int x1 :: .int x0 :: .ref a :: st) I F R n Q ↔ ((lay a = (13, 0) ∧ (st.length ≤ 4 ∨ (st.map fun v => v.category).sum ≤ 8) ∧ 1 ≤ d) ∧ Ev lay (d - 1) 55 0 [.ref a, .int x0, .int x1, .int x2, m_j] [] I F R n (fun v I F R n => Ev lay d 167 418 ls (m_psh v st) I F R n Q)) := ev_c rfl rfl
set_option maxRecDepth 20000 in
theorem e167_418 {lay : mL} {d : Nat} {ls st : List Value} {I : mI} {F : mF} {R : mR} {n : Nat} {Q : mP} {v0 v1 : Value} {x : Nat} : Ev lay d 167 418 (v0 :: v1 :: .ref x :: ls) st I F R n Q ↔ Ev lay d 167 419 (v0 :: v1 :: .ref x :: ls) (.ref x :: st) I F R n Q := ev_n rfl
set_option maxRecDepth 20000 in
theorem e167_418N {lay : mL} {d : Nat} {ls st : List Value} {I : mI} {F : mF} {R : mR} {n : Nat} {Q : mP} {v0 v1 : Value} : Ev lay d 167 418 (v0 :: v1 :: .null :: ls) st I F R n Q ↔ Ev lay d 167 419 (v0 :: v1 :: .null :: ls) (.null :: st) I F R n Q := ev_n rfl
set_option maxRecDepth 20000 in
theorem e167_419 {lay : mL} {d : Nat} {ls st : List Value} {I : mI} {F : mF} {R : mR} {n : Nat} {Q : mP} {x : Nat} : Ev lay d 167 419 (.ref x :: ls) st I F R n Q ↔ Ev lay d 167 420 (.ref x :: ls) (.ref x :: st) I F R n Q := ev_n rfl
set_option maxRecDepth 20000 in
theorem e167_419N {lay : mL} {d : Nat} {ls st : List Value} {I : mI} {F : mF} {R : mR} {n : Nat} {Q : mP} : Ev lay d 167 419 (.null :: ls) st I F R n Q ↔ Ev lay d 167 420 (.null :: ls) (.null :: st) I F R n Q := ev_n rfl
set_option maxRecDepth 20000 in
theorem e167_420 {lay : mL} {d : Nat} {ls st : List Value} {I : mI} {F : mF} {R : mR} {n : Nat} {Q : mP} {v0 v1 v2 : Value} {x : Int32} : Ev lay d 167 420 (v0 :: v1 :: v2 :: .int x :: ls) st I F R n Q ↔ Ev lay d 167 421 (v0 :: v1 :: v2 :: .int x :: ls) (.int x :: st) I F R n Q := ev_n rfl
set_option maxRecDepth 20000 in
theorem e167_421 {lay : mL} {d : Nat} {ls st : List Value} {I : mI} {F : mF} {R : mR} {n : Nat} {Q : mP} : Ev lay d 167 421 ls st I F R n Q ↔ Ev lay d 167 422 ls (.int (1 : Int32) :: st) I F R n Q := ev_n rfl
set_option maxRecDepth 20000 in
theorem e167_422 {lay : mL} {d : Nat} {ls st : List Value} {I : mI} {F : mF} {R : mR} {n : Nat} {Q : mP} {x y : Int32} : Ev lay d 167 422 ls (.int y :: .int x :: st) I F R n Q ↔ Ev lay d 167 423 ls (.int (x + y) :: st) I F R n Q := ev_n rfl
set_option maxRecDepth 20000 in
theorem e167_423 {lay : mL} {d : Nat} {ls st : List Value} {I : mI} {F : mF} {R : mR} {n : Nat} {Q : mP} {a : Nat} {i : Int32} : Ev lay d 167 423 ls (.int i :: .ref a :: st) I F R n Q ↔ (m_in lay 0 a i ∧ Ev lay d 167 424 ls (.int (I a i.toNatClampNeg) :: st) I F R n Q) := ev_nc rfl
set_option maxRecDepth 20000 in
theorem e167_424 {lay : mL} {d : Nat} {ls st : List Value} {I : mI} {F : mF} {R : mR} {n : Nat} {Q : mP} {x : Nat} : Ev lay d 167 424 (.ref x :: ls) st I F R n Q ↔ Ev lay d 167 425 (.ref x :: ls) (.ref x :: st) I F R n Q := ev_n rfl
set_option maxRecDepth 20000 in
theorem e167_424N {lay : mL} {d : Nat} {ls st : List Value} {I : mI} {F : mF} {R : mR} {n : Nat} {Q : mP} : Ev lay d 167 424 (.null :: ls) st I F R n Q ↔ Ev lay d 167 425 (.null :: ls) (.null :: st) I F R n Q := ev_n rfl
set_option maxRecDepth 20000 in
theorem e167_425 {lay : mL} {d : Nat} {ls st : List Value} {I : mI} {F : mF} {R : mR} {n : Nat} {Q : mP} {v0 v1 v2 : Value} {x : Int32} : Ev lay d 167 425 (v0 :: v1 :: v2 :: .int x :: ls) st I F R n Q ↔ Ev lay d 167 426 (v0 :: v1 :: v2 :: .int x :: ls) (.int x :: st) I F R n Q := ev_n rfl
set_option maxRecDepth 20000 in
theorem e167_426 {lay : mL} {d : Nat} {ls st : List Value} {I : mI} {F : mF} {R : mR} {n : Nat} {Q : mP} : Ev lay d 167 426 ls st I F R n Q ↔ Ev lay d 167 427 ls (.int (2 : Int32) :: st) I F R n Q := ev_n rfl
set_option maxRecDepth 20000 in
theorem e167_427 {lay : mL} {d : Nat} {ls st : List Value} {I : mI} {F : mF} {R : mR} {n : Nat} {Q : mP} {x y : Int32} : Ev lay d 167 427 ls (.int y :: .int x :: st) I F R n Q ↔ Ev lay d 167 428 ls (.int (x + y) :: st) I F R n Q := ev_n rfl
set_option maxRecDepth 20000 in
theorem e167_428 {lay : mL} {d : Nat} {ls st : List Value} {I : mI} {F : mF} {R : mR} {n : Nat} {Q : mP} {a : Nat} {i : Int32} : Ev lay d 167 428 ls (.int i :: .ref a :: st) I F R n Q ↔ (m_in lay 0 a i ∧ Ev lay d 167 429 ls (.int (I a i.toNatClampNeg) :: st) I F R n Q) := ev_nc rfl
set_option maxRecDepth 20000 in
theorem e167_429 {lay : mL} {d : Nat} {ls st : List Value} {I : mI} {F : mF} {R : mR} {n : Nat} {Q : mP} {x : Nat} : Ev lay d 167 429 (.ref x :: ls) st I F R n Q ↔ Ev lay d 167 430 (.ref x :: ls) (.ref x :: st) I F R n Q := ev_n rfl
set_option maxRecDepth 20000 in
theorem e167_429N {lay : mL} {d : Nat} {ls st : List Value} {I : mI} {F : mF} {R : mR} {n : Nat} {Q : mP} : Ev lay d 167 429 (.null :: ls) st I F R n Q ↔ Ev lay d 167 430 (.null :: ls) (.null :: st) I F R n Q := ev_n rfl
set_option maxRecDepth 20000 in
theorem e167_430 {lay : mL} {d : Nat} {ls st : List Value} {I : mI} {F : mF} {R : mR} {n : Nat} {Q : mP} {v0 v1 v2 : Value} {x : Int32} : Ev lay d 167 430 (v0 :: v1 :: v2 :: .int x :: ls) st I F R n Q ↔ Ev lay d 167 431 (v0 :: v1 :: v2 :: .int x :: ls) (.int x :: st) I F R n Q := ev_n rfl
set_option maxRecDepth 20000 in
theorem e167_431 {lay : mL} {d : Nat} {ls st : List Value} {I : mI} {F : mF} {R : mR} {n : Nat} {Q : mP} : Ev lay d 167 431 ls st I F R n Q ↔ Ev lay d 167 432 ls (.int (3 : Int32) :: st) I F R n Q := ev_n rfl
set_option maxRecDepth 20000 in
theorem e167_432 {lay : mL} {d : Nat} {ls st : List Value} {I : mI} {F : mF} {R : mR} {n : Nat} {Q : mP} {x y : Int32} : Ev lay d 167 432 ls (.int y :: .int x :: st) I F R n Q ↔ Ev lay d 167 433 ls (.int (x + y) :: st) I F R n Q := ev_n rfl
set_option maxRecDepth 20000 in
theorem e167_433 {lay : mL} {d : Nat} {ls st : List Value} {I : mI} {F : mF} {R : mR} {n : Nat} {Q : mP} {a : Nat} {i : Int32} : Ev lay d 167 433 ls (.int i :: .ref a :: st) I F R n Q ↔ (m_in lay 0 a i ∧ Ev lay d 167 434 ls (.int (I a i.toNatClampNeg) :: st) I F R n Q) := ev_nc rfl
set_option maxRecDepth 20000 in
theorem e167_434 {lay : mL} {d : Nat} {ls st : List Value} {I : mI} {F : mF} {R : mR} {n : Nat} {Q : mP} {a : Nat} {x0 : Int32} {x1 : Int32} {x2 : Int32} : Ev lay d 167 434 ls (.int x2 :: .int x1 :: .int x0 :: .ref a :: st) I F R n Q ↔ ((lay a = (14, 0) ∧ (st.length ≤ 4 ∨ (st.map fun v => v.category).sum ≤ 8) ∧ 1 ≤ d) ∧ Ev lay (d - 1) 137 0 [.ref a, .int x0, .int x1, .int x2, m_j] [] I F R n (fun v I F R n => Ev lay d 167 437 ls (m_psh v st) I F R n Q)) := ev_c rfl rfl
set_option maxRecDepth 20000 in
theorem e167_437 {lay : mL} {d : Nat} {ls st : List Value} {I : mI} {F : mF} {R : mR} {n : Nat} {Q : mP} {x y : Int32} : Ev lay d 167 437 ls (.int y :: .int x :: st) I F R n Q ↔ (if x = y then Ev lay d 167 801 ls st I F R n Q else Ev lay d 167 440 ls st I F R n Q) := (ev_n rfl).trans (ev_if _)
set_option maxRecDepth 20000 in
theorem e167_440 {lay : mL} {d : Nat} {ls st : List Value} {I : mI} {F : mF} {R : mR} {n : Nat} {Q : mP} : Ev lay d 167 440 ls st I F R n Q ↔ Ev lay d 167 441 ls (.int (0 : Int32) :: st) I F R n Q := ev_n rfl
set_option maxRecDepth 20000 in
theorem e167_441 {lay : mL} {d : Nat} {ls : List Value} {I : mI} {F : mF} {R : mR} {n : Nat} {Q : mP} {x : Int32} : Ev lay d 167 441 ls [.int x] I F R n Q ↔ (narrow .boolean (.int x) = .int x ∧ Q (some (.int x)) I F R n) := ev_rc rfl
set_option maxRecDepth 20000 in
theorem e167_442 {lay : mL} {d : Nat} {ls st : List Value} {I : mI} {F : mF} {R : mR} {n : Nat} {Q : mP} {v0 : Value} {x : Nat} : Ev lay d 167 442 (v0 :: .ref x :: ls) st I F R n Q ↔ Ev lay d 167 443 (v0 :: .ref x :: ls) (.ref x :: st) I F R n Q := ev_n rfl
set_option maxRecDepth 20000 in
theorem e167_442N {lay : mL} {d : Nat} {ls st : List Value} {I : mI} {F : mF} {R : mR} {n : Nat} {Q : mP} {v0 : Value} : Ev lay d 167 442 (v0 :: .null :: ls) st I F R n Q ↔ Ev lay d 167 443 (v0 :: .null :: ls) (.null :: st) I F R n Q := ev_n rfl
set_option maxRecDepth 20000 in
theorem e167_443 {lay : mL} {d : Nat} {ls st : List Value} {I : mI} {F : mF} {R : mR} {n : Nat} {Q : mP} {x : Nat} : Ev lay d 167 443 (.ref x :: ls) st I F R n Q ↔ Ev lay d 167 444 (.ref x :: ls) (.ref x :: st) I F R n Q := ev_n rfl
set_option maxRecDepth 20000 in
theorem e167_443N {lay : mL} {d : Nat} {ls st : List Value} {I : mI} {F : mF} {R : mR} {n : Nat} {Q : mP} : Ev lay d 167 443 (.null :: ls) st I F R n Q ↔ Ev lay d 167 444 (.null :: ls) (.null :: st) I F R n Q := ev_n rfl
set_option maxRecDepth 20000 in
theorem e167_444 {lay : mL} {d : Nat} {ls st : List Value} {I : mI} {F : mF} {R : mR} {n : Nat} {Q : mP} {v0 v1 v2 : Value} {x : Int32} : Ev lay d 167 444 (v0 :: v1 :: v2 :: .int x :: ls) st I F R n Q ↔ Ev lay d 167 445 (v0 :: v1 :: v2 :: .int x :: ls) (.int x :: st) I F R n Q := ev_n rfl
set_option maxRecDepth 20000 in
theorem e167_445 {lay : mL} {d : Nat} {ls st : List Value} {I : mI} {F : mF} {R : mR} {n : Nat} {Q : mP} : Ev lay d 167 445 ls st I F R n Q ↔ Ev lay d 167 446 ls (.int (1 : Int32) :: st) I F R n Q := ev_n rfl
set_option maxRecDepth 20000 in
theorem e167_446 {lay : mL} {d : Nat} {ls st : List Value} {I : mI} {F : mF} {R : mR} {n : Nat} {Q : mP} {x y : Int32} : Ev lay d 167 446 ls (.int y :: .int x :: st) I F R n Q ↔ Ev lay d 167 447 ls (.int (x + y) :: st) I F R n Q := ev_n rfl
set_option maxRecDepth 20000 in
theorem e167_447 {lay : mL} {d : Nat} {ls st : List Value} {I : mI} {F : mF} {R : mR} {n : Nat} {Q : mP} {a : Nat} {i : Int32} : Ev lay d 167 447 ls (.int i :: .ref a :: st) I F R n Q ↔ (m_in lay 0 a i ∧ Ev lay d 167 448 ls (.int (I a i.toNatClampNeg) :: st) I F R n Q) := ev_nc rfl
set_option maxRecDepth 20000 in
theorem e167_448 {lay : mL} {d : Nat} {ls st : List Value} {I : mI} {F : mF} {R : mR} {n : Nat} {Q : mP} {a : Nat} {x0 : Int32} : Ev lay d 167 448 ls (.int x0 :: .ref a :: st) I F R n Q ↔ ((lay a = (13, 0) ∧ (st.length ≤ 4 ∨ (st.map fun v => v.category).sum ≤ 8) ∧ 1 ≤ d) ∧ Ev lay (d - 1) 56 0 [.ref a, .int x0, m_j] [] I F R n (fun v I F R n => Ev lay d 167 451 ls (m_psh v st) I F R n Q)) := ev_c rfl rfl
set_option maxRecDepth 20000 in
theorem e167_451 {lay : mL} {d : Nat} {ls st : List Value} {I : mI} {F : mF} {R : mR} {n : Nat} {Q : mP} {v0 v1 : Value} {x : Nat} : Ev lay d 167 451 (v0 :: v1 :: .ref x :: ls) st I F R n Q ↔ Ev lay d 167 452 (v0 :: v1 :: .ref x :: ls) (.ref x :: st) I F R n Q := ev_n rfl
set_option maxRecDepth 20000 in
theorem e167_451N {lay : mL} {d : Nat} {ls st : List Value} {I : mI} {F : mF} {R : mR} {n : Nat} {Q : mP} {v0 v1 : Value} : Ev lay d 167 451 (v0 :: v1 :: .null :: ls) st I F R n Q ↔ Ev lay d 167 452 (v0 :: v1 :: .null :: ls) (.null :: st) I F R n Q := ev_n rfl
set_option maxRecDepth 20000 in
theorem e167_452 {lay : mL} {d : Nat} {ls st : List Value} {I : mI} {F : mF} {R : mR} {n : Nat} {Q : mP} {x : Nat} : Ev lay d 167 452 (.ref x :: ls) st I F R n Q ↔ Ev lay d 167 453 (.ref x :: ls) (.ref x :: st) I F R n Q := ev_n rfl
set_option maxRecDepth 20000 in
theorem e167_452N {lay : mL} {d : Nat} {ls st : List Value} {I : mI} {F : mF} {R : mR} {n : Nat} {Q : mP} : Ev lay d 167 452 (.null :: ls) st I F R n Q ↔ Ev lay d 167 453 (.null :: ls) (.null :: st) I F R n Q := ev_n rfl
set_option maxRecDepth 20000 in
theorem e167_453 {lay : mL} {d : Nat} {ls st : List Value} {I : mI} {F : mF} {R : mR} {n : Nat} {Q : mP} {v0 v1 v2 : Value} {x : Int32} : Ev lay d 167 453 (v0 :: v1 :: v2 :: .int x :: ls) st I F R n Q ↔ Ev lay d 167 454 (v0 :: v1 :: v2 :: .int x :: ls) (.int x :: st) I F R n Q := ev_n rfl
set_option maxRecDepth 20000 in
theorem e167_454 {lay : mL} {d : Nat} {ls st : List Value} {I : mI} {F : mF} {R : mR} {n : Nat} {Q : mP} : Ev lay d 167 454 ls st I F R n Q ↔ Ev lay d 167 455 ls (.int (1 : Int32) :: st) I F R n Q := ev_n rfl
set_option maxRecDepth 20000 in
theorem e167_455 {lay : mL} {d : Nat} {ls st : List Value} {I : mI} {F : mF} {R : mR} {n : Nat} {Q : mP} {x y : Int32} : Ev lay d 167 455 ls (.int y :: .int x :: st) I F R n Q ↔ Ev lay d 167 456 ls (.int (x + y) :: st) I F R n Q := ev_n rfl
set_option maxRecDepth 20000 in
theorem e167_456 {lay : mL} {d : Nat} {ls st : List Value} {I : mI} {F : mF} {R : mR} {n : Nat} {Q : mP} {a : Nat} {i : Int32} : Ev lay d 167 456 ls (.int i :: .ref a :: st) I F R n Q ↔ (m_in lay 0 a i ∧ Ev lay d 167 457 ls (.int (I a i.toNatClampNeg) :: st) I F R n Q) := ev_nc rfl
set_option maxRecDepth 20000 in
theorem e167_457 {lay : mL} {d : Nat} {ls st : List Value} {I : mI} {F : mF} {R : mR} {n : Nat} {Q : mP} {a : Nat} {x0 : Int32} : Ev lay d 167 457 ls (.int x0 :: .ref a :: st) I F R n Q ↔ ((lay a = (14, 0) ∧ (st.length ≤ 4 ∨ (st.map fun v => v.category).sum ≤ 8) ∧ 1 ≤ d) ∧ Ev lay (d - 1) 138 0 [.ref a, .int x0, m_j] [] I F R n (fun v I F R n => Ev lay d 167 460 ls (m_psh v st) I F R n Q)) := ev_c rfl rfl
set_option maxRecDepth 20000 in
theorem e167_460 {lay : mL} {d : Nat} {ls st : List Value} {I : mI} {F : mF} {R : mR} {n : Nat} {Q : mP} {x y : Int32} : Ev lay d 167 460 ls (.int y :: .int x :: st) I F R n Q ↔ (if x = y then Ev lay d 167 801 ls st I F R n Q else Ev lay d 167 463 ls st I F R n Q) := (ev_n rfl).trans (ev_if _)
set_option maxRecDepth 20000 in
theorem e167_463 {lay : mL} {d : Nat} {ls st : List Value} {I : mI} {F : mF} {R : mR} {n : Nat} {Q : mP} : Ev lay d 167 463 ls st I F R n Q ↔ Ev lay d 167 464 ls (.int (0 : Int32) :: st) I F R n Q := ev_n rfl
set_option maxRecDepth 20000 in
theorem e167_464 {lay : mL} {d : Nat} {ls : List Value} {I : mI} {F : mF} {R : mR} {n : Nat} {Q : mP} {x : Int32} : Ev lay d 167 464 ls [.int x] I F R n Q ↔ (narrow .boolean (.int x) = .int x ∧ Q (some (.int x)) I F R n) := ev_rc rfl
set_option maxRecDepth 20000 in
theorem e167_465 {lay : mL} {d : Nat} {ls st : List Value} {I : mI} {F : mF} {R : mR} {n : Nat} {Q : mP} {v0 : Value} {x : Nat} : Ev lay d 167 465 (v0 :: .ref x :: ls) st I F R n Q ↔ Ev lay d 167 466 (v0 :: .ref x :: ls) (.ref x :: st) I F R n Q := ev_n rfl
set_option maxRecDepth 20000 in
theorem e167_465N {lay : mL} {d : Nat} {ls st : List Value} {I : mI} {F : mF} {R : mR} {n : Nat} {Q : mP} {v0 : Value} : Ev lay d 167 465 (v0 :: .null :: ls) st I F R n Q ↔ Ev lay d 167 466 (v0 :: .null :: ls) (.null :: st) I F R n Q := ev_n rfl
set_option maxRecDepth 20000 in
theorem e167_466 {lay : mL} {d : Nat} {ls st : List Value} {I : mI} {F : mF} {R : mR} {n : Nat} {Q : mP} {x : Nat} : Ev lay d 167 466 (.ref x :: ls) st I F R n Q ↔ Ev lay d 167 467 (.ref x :: ls) (.ref x :: st) I F R n Q := ev_n rfl
set_option maxRecDepth 20000 in
theorem e167_466N {lay : mL} {d : Nat} {ls st : List Value} {I : mI} {F : mF} {R : mR} {n : Nat} {Q : mP} : Ev lay d 167 466 (.null :: ls) st I F R n Q ↔ Ev lay d 167 467 (.null :: ls) (.null :: st) I F R n Q := ev_n rfl
set_option maxRecDepth 20000 in
theorem e167_467 {lay : mL} {d : Nat} {ls st : List Value} {I : mI} {F : mF} {R : mR} {n : Nat} {Q : mP} {v0 v1 v2 : Value} {x : Int32} : Ev lay d 167 467 (v0 :: v1 :: v2 :: .int x :: ls) st I F R n Q ↔ Ev lay d 167 468 (v0 :: v1 :: v2 :: .int x :: ls) (.int x :: st) I F R n Q := ev_n rfl
set_option maxRecDepth 20000 in
theorem e167_468 {lay : mL} {d : Nat} {ls st : List Value} {I : mI} {F : mF} {R : mR} {n : Nat} {Q : mP} : Ev lay d 167 468 ls st I F R n Q ↔ Ev lay d 167 469 ls (.int (1 : Int32) :: st) I F R n Q := ev_n rfl
set_option maxRecDepth 20000 in
theorem e167_469 {lay : mL} {d : Nat} {ls st : List Value} {I : mI} {F : mF} {R : mR} {n : Nat} {Q : mP} {x y : Int32} : Ev lay d 167 469 ls (.int y :: .int x :: st) I F R n Q ↔ Ev lay d 167 470 ls (.int (x + y) :: st) I F R n Q := ev_n rfl
set_option maxRecDepth 20000 in
theorem e167_470 {lay : mL} {d : Nat} {ls st : List Value} {I : mI} {F : mF} {R : mR} {n : Nat} {Q : mP} {a : Nat} {i : Int32} : Ev lay d 167 470 ls (.int i :: .ref a :: st) I F R n Q ↔ (m_in lay 0 a i ∧ Ev lay d 167 471 ls (.int (I a i.toNatClampNeg) :: st) I F R n Q) := ev_nc rfl
set_option maxRecDepth 20000 in
theorem e167_471 {lay : mL} {d : Nat} {ls st : List Value} {I : mI} {F : mF} {R : mR} {n : Nat} {Q : mP} {a : Nat} {x0 : Int32} : Ev lay d 167 471 ls (.int x0 :: .ref a :: st) I F R n Q ↔ ((lay a = (13, 0) ∧ (st.length ≤ 4 ∨ (st.map fun v => v.category).sum ≤ 8) ∧ 1 ≤ d) ∧ Ev lay (d - 1) 57 0 [.ref a, .int x0] [] I F R n (fun v I F R n => Ev lay d 167 474 ls (m_psh v st) I F R n Q)) := ev_c rfl rfl
set_option maxRecDepth 20000 in
theorem e167_474 {lay : mL} {d : Nat} {ls st : List Value} {I : mI} {F : mF} {R : mR} {n : Nat} {Q : mP} {v0 v1 : Value} {x : Nat} : Ev lay d 167 474 (v0 :: v1 :: .ref x :: ls) st I F R n Q ↔ Ev lay d 167 475 (v0 :: v1 :: .ref x :: ls) (.ref x :: st) I F R n Q := ev_n rfl
set_option maxRecDepth 20000 in
theorem e167_474N {lay : mL} {d : Nat} {ls st : List Value} {I : mI} {F : mF} {R : mR} {n : Nat} {Q : mP} {v0 v1 : Value} : Ev lay d 167 474 (v0 :: v1 :: .null :: ls) st I F R n Q ↔ Ev lay d 167 475 (v0 :: v1 :: .null :: ls) (.null :: st) I F R n Q := ev_n rfl
set_option maxRecDepth 20000 in
theorem e167_475 {lay : mL} {d : Nat} {ls st : List Value} {I : mI} {F : mF} {R : mR} {n : Nat} {Q : mP} {x : Nat} : Ev lay d 167 475 (.ref x :: ls) st I F R n Q ↔ Ev lay d 167 476 (.ref x :: ls) (.ref x :: st) I F R n Q := ev_n rfl
set_option maxRecDepth 20000 in
theorem e167_475N {lay : mL} {d : Nat} {ls st : List Value} {I : mI} {F : mF} {R : mR} {n : Nat} {Q : mP} : Ev lay d 167 475 (.null :: ls) st I F R n Q ↔ Ev lay d 167 476 (.null :: ls) (.null :: st) I F R n Q := ev_n rfl
set_option maxRecDepth 20000 in
theorem e167_476 {lay : mL} {d : Nat} {ls st : List Value} {I : mI} {F : mF} {R : mR} {n : Nat} {Q : mP} {v0 v1 v2 : Value} {x : Int32} : Ev lay d 167 476 (v0 :: v1 :: v2 :: .int x :: ls) st I F R n Q ↔ Ev lay d 167 477 (v0 :: v1 :: v2 :: .int x :: ls) (.int x :: st) I F R n Q := ev_n rfl
set_option maxRecDepth 20000 in
theorem e167_477 {lay : mL} {d : Nat} {ls st : List Value} {I : mI} {F : mF} {R : mR} {n : Nat} {Q : mP} : Ev lay d 167 477 ls st I F R n Q ↔ Ev lay d 167 478 ls (.int (1 : Int32) :: st) I F R n Q := ev_n rfl
set_option maxRecDepth 20000 in
theorem e167_478 {lay : mL} {d : Nat} {ls st : List Value} {I : mI} {F : mF} {R : mR} {n : Nat} {Q : mP} {x y : Int32} : Ev lay d 167 478 ls (.int y :: .int x :: st) I F R n Q ↔ Ev lay d 167 479 ls (.int (x + y) :: st) I F R n Q := ev_n rfl
set_option maxRecDepth 20000 in
theorem e167_479 {lay : mL} {d : Nat} {ls st : List Value} {I : mI} {F : mF} {R : mR} {n : Nat} {Q : mP} {a : Nat} {i : Int32} : Ev lay d 167 479 ls (.int i :: .ref a :: st) I F R n Q ↔ (m_in lay 0 a i ∧ Ev lay d 167 480 ls (.int (I a i.toNatClampNeg) :: st) I F R n Q) := ev_nc rfl
set_option maxRecDepth 20000 in
theorem e167_480 {lay : mL} {d : Nat} {ls st : List Value} {I : mI} {F : mF} {R : mR} {n : Nat} {Q : mP} {a : Nat} {x0 : Int32} : Ev lay d 167 480 ls (.int x0 :: .ref a :: st) I F R n Q ↔ ((lay a = (14, 0) ∧ (st.length ≤ 4 ∨ (st.map fun v => v.category).sum ≤ 8) ∧ 1 ≤ d) ∧ Ev lay (d - 1) 139 0 [.ref a, .int x0] [] I F R n (fun v I F R n => Ev lay d 167 483 ls (m_psh v st) I F R n Q)) := ev_c rfl rfl
set_option maxRecDepth 20000 in
theorem e167_483 {lay : mL} {d : Nat} {ls st : List Value} {I : mI} {F : mF} {R : mR} {n : Nat} {Q : mP} {x y : Int32} : Ev lay d 167 483 ls (.int y :: .int x :: st) I F R n Q ↔ (if x = y then Ev lay d 167 801 ls st I F R n Q else Ev lay d 167 486 ls st I F R n Q) := (ev_n rfl).trans (ev_if _)
set_option maxRecDepth 20000 in
theorem e167_486 {lay : mL} {d : Nat} {ls st : List Value} {I : mI} {F : mF} {R : mR} {n : Nat} {Q : mP} : Ev lay d 167 486 ls st I F R n Q ↔ Ev lay d 167 487 ls (.int (0 : Int32) :: st) I F R n Q := ev_n rfl
set_option maxRecDepth 20000 in
theorem e167_487 {lay : mL} {d : Nat} {ls : List Value} {I : mI} {F : mF} {R : mR} {n : Nat} {Q : mP} {x : Int32} : Ev lay d 167 487 ls [.int x] I F R n Q ↔ (narrow .boolean (.int x) = .int x ∧ Q (some (.int x)) I F R n) := ev_rc rfl
set_option maxRecDepth 20000 in
theorem e167_488 {lay : mL} {d : Nat} {ls st : List Value} {I : mI} {F : mF} {R : mR} {n : Nat} {Q : mP} {v0 : Value} {x : Nat} : Ev lay d 167 488 (v0 :: .ref x :: ls) st I F R n Q ↔ Ev lay d 167 489 (v0 :: .ref x :: ls) (.ref x :: st) I F R n Q := ev_n rfl
set_option maxRecDepth 20000 in
theorem e167_488N {lay : mL} {d : Nat} {ls st : List Value} {I : mI} {F : mF} {R : mR} {n : Nat} {Q : mP} {v0 : Value} : Ev lay d 167 488 (v0 :: .null :: ls) st I F R n Q ↔ Ev lay d 167 489 (v0 :: .null :: ls) (.null :: st) I F R n Q := ev_n rfl
set_option maxRecDepth 20000 in
theorem e167_489 {lay : mL} {d : Nat} {ls st : List Value} {I : mI} {F : mF} {R : mR} {n : Nat} {Q : mP} {a : Nat} : Ev lay d 167 489 ls (.ref a :: st) I F R n Q ↔ ((lay a = (13, 0) ∧ (st.length ≤ 4 ∨ (st.map fun v => v.category).sum ≤ 8) ∧ 1 ≤ d) ∧ Ev lay (d - 1) 60 0 [.ref a] [] I F R n (fun v I F R n => Ev lay d 167 492 ls (m_psh v st) I F R n Q)) := ev_c rfl rfl
set_option maxRecDepth 20000 in
theorem e167_492 {lay : mL} {d : Nat} {ls st : List Value} {I : mI} {F : mF} {R : mR} {n : Nat} {Q : mP} {v0 v1 : Value} {x : Nat} : Ev lay d 167 492 (v0 :: v1 :: .ref x :: ls) st I F R n Q ↔ Ev lay d 167 493 (v0 :: v1 :: .ref x :: ls) (.ref x :: st) I F R n Q := ev_n rfl
set_option maxRecDepth 20000 in
theorem e167_492N {lay : mL} {d : Nat} {ls st : List Value} {I : mI} {F : mF} {R : mR} {n : Nat} {Q : mP} {v0 v1 : Value} : Ev lay d 167 492 (v0 :: v1 :: .null :: ls) st I F R n Q ↔ Ev lay d 167 493 (v0 :: v1 :: .null :: ls) (.null :: st) I F R n Q := ev_n rfl
set_option maxRecDepth 20000 in
theorem e167_493 {lay : mL} {d : Nat} {ls st : List Value} {I : mI} {F : mF} {R : mR} {n : Nat} {Q : mP} {a : Nat} : Ev lay d 167 493 ls (.ref a :: st) I F R n Q ↔ ((lay a = (14, 0) ∧ (st.length ≤ 4 ∨ (st.map fun v => v.category).sum ≤ 8) ∧ 1 ≤ d) ∧ Ev lay (d - 1) 142 0 [.ref a, m_j, m_j, m_j] [] I F R n (fun v I F R n => Ev lay d 167 496 ls (m_psh v st) I F R n Q)) := ev_c rfl rfl
set_option maxRecDepth 20000 in
theorem e167_496 {lay : mL} {d : Nat} {ls st : List Value} {I : mI} {F : mF} {R : mR} {n : Nat} {Q : mP} {x y : Int64} : Ev lay d 167 496 ls (.long y :: .long x :: st) I F R n Q ↔ Ev lay d 167 497 ls (.int (lg_cmp x y) :: st) I F R n Q := ev_n rfl
set_option maxRecDepth 20000 in
theorem e167_497 {lay : mL} {d : Nat} {ls st : List Value} {I : mI} {F : mF} {R : mR} {n : Nat} {Q : mP} {x : Int32} : Ev lay d 167 497 ls (.int x :: st) I F R n Q ↔ (if x = 0 then Ev lay d 167 801 ls st I F R n Q else Ev lay d 167 500 ls st I F R n Q) := (ev_n rfl).trans (ev_if _)
set_option maxRecDepth 20000 in
theorem e167_500 {lay : mL} {d : Nat} {ls st : List Value} {I : mI} {F : mF} {R : mR} {n : Nat} {Q : mP} : Ev lay d 167 500 ls st I F R n Q ↔ Ev lay d 167 501 ls (.int (0 : Int32) :: st) I F R n Q := ev_n rfl
set_option maxRecDepth 20000 in
theorem e167_501 {lay : mL} {d : Nat} {ls : List Value} {I : mI} {F : mF} {R : mR} {n : Nat} {Q : mP} {x : Int32} : Ev lay d 167 501 ls [.int x] I F R n Q ↔ (narrow .boolean (.int x) = .int x ∧ Q (some (.int x)) I F R n) := ev_rc rfl
set_option maxRecDepth 20000 in
theorem e167_502 {lay : mL} {d : Nat} {ls st : List Value} {I : mI} {F : mF} {R : mR} {n : Nat} {Q : mP} {v0 : Value} {x : Nat} : Ev lay d 167 502 (v0 :: .ref x :: ls) st I F R n Q ↔ Ev lay d 167 503 (v0 :: .ref x :: ls) (.ref x :: st) I F R n Q := ev_n rfl
set_option maxRecDepth 20000 in
theorem e167_502N {lay : mL} {d : Nat} {ls st : List Value} {I : mI} {F : mF} {R : mR} {n : Nat} {Q : mP} {v0 : Value} : Ev lay d 167 502 (v0 :: .null :: ls) st I F R n Q ↔ Ev lay d 167 503 (v0 :: .null :: ls) (.null :: st) I F R n Q := ev_n rfl
set_option maxRecDepth 20000 in
theorem e167_503 {lay : mL} {d : Nat} {ls st : List Value} {I : mI} {F : mF} {R : mR} {n : Nat} {Q : mP} {x : Nat} : Ev lay d 167 503 (.ref x :: ls) st I F R n Q ↔ Ev lay d 167 504 (.ref x :: ls) (.ref x :: st) I F R n Q := ev_n rfl
set_option maxRecDepth 20000 in
theorem e167_503N {lay : mL} {d : Nat} {ls st : List Value} {I : mI} {F : mF} {R : mR} {n : Nat} {Q : mP} : Ev lay d 167 503 (.null :: ls) st I F R n Q ↔ Ev lay d 167 504 (.null :: ls) (.null :: st) I F R n Q := ev_n rfl
set_option maxRecDepth 20000 in
theorem e167_504 {lay : mL} {d : Nat} {ls st : List Value} {I : mI} {F : mF} {R : mR} {n : Nat} {Q : mP} {v0 v1 v2 : Value} {x : Int32} : Ev lay d 167 504 (v0 :: v1 :: v2 :: .int x :: ls) st I F R n Q ↔ Ev lay d 167 505 (v0 :: v1 :: v2 :: .int x :: ls) (.int x :: st) I F R n Q := ev_n rfl
set_option maxRecDepth 20000 in
theorem e167_505 {lay : mL} {d : Nat} {ls st : List Value} {I : mI} {F : mF} {R : mR} {n : Nat} {Q : mP} : Ev lay d 167 505 ls st I F R n Q ↔ Ev lay d 167 506 ls (.int (1 : Int32) :: st) I F R n Q := ev_n rfl
set_option maxRecDepth 20000 in
theorem e167_506 {lay : mL} {d : Nat} {ls st : List Value} {I : mI} {F : mF} {R : mR} {n : Nat} {Q : mP} {x y : Int32} : Ev lay d 167 506 ls (.int y :: .int x :: st) I F R n Q ↔ Ev lay d 167 507 ls (.int (x + y) :: st) I F R n Q := ev_n rfl
set_option maxRecDepth 20000 in
theorem e167_507 {lay : mL} {d : Nat} {ls st : List Value} {I : mI} {F : mF} {R : mR} {n : Nat} {Q : mP} {a : Nat} {i : Int32} : Ev lay d 167 507 ls (.int i :: .ref a :: st) I F R n Q ↔ (m_in lay 0 a i ∧ Ev lay d 167 508 ls (.int (I a i.toNatClampNeg) :: st) I F R n Q) := ev_nc rfl
set_option maxRecDepth 20000 in
theorem e167_508 {lay : mL} {d : Nat} {ls st : List Value} {I : mI} {F : mF} {R : mR} {n : Nat} {Q : mP} {a : Nat} {x0 : Int32} : Ev lay d 167 508 ls (.int x0 :: .ref a :: st) I F R n Q ↔ ((lay a = (13, 0) ∧ (st.length ≤ 4 ∨ (st.map fun v => v.category).sum ≤ 8) ∧ 1 ≤ d) ∧ Ev lay (d - 1) 63 0 [.ref a, .int x0, m_j] [] I F R n (fun v I F R n => Ev lay d 167 511 ls (m_psh v st) I F R n Q)) := ev_c rfl rfl
set_option maxRecDepth 20000 in
theorem e167_511 {lay : mL} {d : Nat} {ls st : List Value} {I : mI} {F : mF} {R : mR} {n : Nat} {Q : mP} {v0 v1 : Value} {x : Nat} : Ev lay d 167 511 (v0 :: v1 :: .ref x :: ls) st I F R n Q ↔ Ev lay d 167 512 (v0 :: v1 :: .ref x :: ls) (.ref x :: st) I F R n Q := ev_n rfl
set_option maxRecDepth 20000 in
theorem e167_511N {lay : mL} {d : Nat} {ls st : List Value} {I : mI} {F : mF} {R : mR} {n : Nat} {Q : mP} {v0 v1 : Value} : Ev lay d 167 511 (v0 :: v1 :: .null :: ls) st I F R n Q ↔ Ev lay d 167 512 (v0 :: v1 :: .null :: ls) (.null :: st) I F R n Q := ev_n rfl
set_option maxRecDepth 20000 in
theorem e167_512 {lay : mL} {d : Nat} {ls st : List Value} {I : mI} {F : mF} {R : mR} {n : Nat} {Q : mP} {x : Nat} : Ev lay d 167 512 (.ref x :: ls) st I F R n Q ↔ Ev lay d 167 513 (.ref x :: ls) (.ref x :: st) I F R n Q := ev_n rfl
set_option maxRecDepth 20000 in
theorem e167_512N {lay : mL} {d : Nat} {ls st : List Value} {I : mI} {F : mF} {R : mR} {n : Nat} {Q : mP} : Ev lay d 167 512 (.null :: ls) st I F R n Q ↔ Ev lay d 167 513 (.null :: ls) (.null :: st) I F R n Q := ev_n rfl
set_option maxRecDepth 20000 in
theorem e167_513 {lay : mL} {d : Nat} {ls st : List Value} {I : mI} {F : mF} {R : mR} {n : Nat} {Q : mP} {v0 v1 v2 : Value} {x : Int32} : Ev lay d 167 513 (v0 :: v1 :: v2 :: .int x :: ls) st I F R n Q ↔ Ev lay d 167 514 (v0 :: v1 :: v2 :: .int x :: ls) (.int x :: st) I F R n Q := ev_n rfl
set_option maxRecDepth 20000 in
theorem e167_514 {lay : mL} {d : Nat} {ls st : List Value} {I : mI} {F : mF} {R : mR} {n : Nat} {Q : mP} : Ev lay d 167 514 ls st I F R n Q ↔ Ev lay d 167 515 ls (.int (1 : Int32) :: st) I F R n Q := ev_n rfl
set_option maxRecDepth 20000 in
theorem e167_515 {lay : mL} {d : Nat} {ls st : List Value} {I : mI} {F : mF} {R : mR} {n : Nat} {Q : mP} {x y : Int32} : Ev lay d 167 515 ls (.int y :: .int x :: st) I F R n Q ↔ Ev lay d 167 516 ls (.int (x + y) :: st) I F R n Q := ev_n rfl
set_option maxRecDepth 20000 in
theorem e167_516 {lay : mL} {d : Nat} {ls st : List Value} {I : mI} {F : mF} {R : mR} {n : Nat} {Q : mP} {a : Nat} {i : Int32} : Ev lay d 167 516 ls (.int i :: .ref a :: st) I F R n Q ↔ (m_in lay 0 a i ∧ Ev lay d 167 517 ls (.int (I a i.toNatClampNeg) :: st) I F R n Q) := ev_nc rfl
set_option maxRecDepth 20000 in
theorem e167_517 {lay : mL} {d : Nat} {ls st : List Value} {I : mI} {F : mF} {R : mR} {n : Nat} {Q : mP} {a : Nat} {x0 : Int32} : Ev lay d 167 517 ls (.int x0 :: .ref a :: st) I F R n Q ↔ ((lay a = (14, 0) ∧ (st.length ≤ 4 ∨ (st.map fun v => v.category).sum ≤ 8) ∧ 1 ≤ d) ∧ Ev lay (d - 1) 144 0 [.ref a, .int x0, m_j] [] I F R n (fun v I F R n => Ev lay d 167 520 ls (m_psh v st) I F R n Q)) := ev_c rfl rfl
set_option maxRecDepth 20000 in
theorem e167_520 {lay : mL} {d : Nat} {ls st : List Value} {I : mI} {F : mF} {R : mR} {n : Nat} {Q : mP} {x y : Int32} : Ev lay d 167 520 ls (.int y :: .int x :: st) I F R n Q ↔ (if x = y then Ev lay d 167 801 ls st I F R n Q else Ev lay d 167 523 ls st I F R n Q) := (ev_n rfl).trans (ev_if _)
set_option maxRecDepth 20000 in
theorem e167_523 {lay : mL} {d : Nat} {ls st : List Value} {I : mI} {F : mF} {R : mR} {n : Nat} {Q : mP} : Ev lay d 167 523 ls st I F R n Q ↔ Ev lay d 167 524 ls (.int (0 : Int32) :: st) I F R n Q := ev_n rfl
set_option maxRecDepth 20000 in
theorem e167_524 {lay : mL} {d : Nat} {ls : List Value} {I : mI} {F : mF} {R : mR} {n : Nat} {Q : mP} {x : Int32} : Ev lay d 167 524 ls [.int x] I F R n Q ↔ (narrow .boolean (.int x) = .int x ∧ Q (some (.int x)) I F R n) := ev_rc rfl
set_option maxRecDepth 20000 in
theorem e167_525 {lay : mL} {d : Nat} {ls st : List Value} {I : mI} {F : mF} {R : mR} {n : Nat} {Q : mP} {v0 : Value} {x : Nat} : Ev lay d 167 525 (v0 :: .ref x :: ls) st I F R n Q ↔ Ev lay d 167 526 (v0 :: .ref x :: ls) (.ref x :: st) I F R n Q := ev_n rfl
set_option maxRecDepth 20000 in
theorem e167_525N {lay : mL} {d : Nat} {ls st : List Value} {I : mI} {F : mF} {R : mR} {n : Nat} {Q : mP} {v0 : Value} : Ev lay d 167 525 (v0 :: .null :: ls) st I F R n Q ↔ Ev lay d 167 526 (v0 :: .null :: ls) (.null :: st) I F R n Q := ev_n rfl
set_option maxRecDepth 20000 in
theorem e167_526 {lay : mL} {d : Nat} {ls st : List Value} {I : mI} {F : mF} {R : mR} {n : Nat} {Q : mP} {x : Nat} : Ev lay d 167 526 (.ref x :: ls) st I F R n Q ↔ Ev lay d 167 527 (.ref x :: ls) (.ref x :: st) I F R n Q := ev_n rfl
set_option maxRecDepth 20000 in
theorem e167_526N {lay : mL} {d : Nat} {ls st : List Value} {I : mI} {F : mF} {R : mR} {n : Nat} {Q : mP} : Ev lay d 167 526 (.null :: ls) st I F R n Q ↔ Ev lay d 167 527 (.null :: ls) (.null :: st) I F R n Q := ev_n rfl
set_option maxRecDepth 20000 in
theorem e167_527 {lay : mL} {d : Nat} {ls st : List Value} {I : mI} {F : mF} {R : mR} {n : Nat} {Q : mP} {v0 v1 v2 : Value} {x : Int32} : Ev lay d 167 527 (v0 :: v1 :: v2 :: .int x :: ls) st I F R n Q ↔ Ev lay d 167 528 (v0 :: v1 :: v2 :: .int x :: ls) (.int x :: st) I F R n Q := ev_n rfl
set_option maxRecDepth 20000 in
theorem e167_528 {lay : mL} {d : Nat} {ls st : List Value} {I : mI} {F : mF} {R : mR} {n : Nat} {Q : mP} : Ev lay d 167 528 ls st I F R n Q ↔ Ev lay d 167 529 ls (.int (1 : Int32) :: st) I F R n Q := ev_n rfl
set_option maxRecDepth 20000 in
theorem e167_529 {lay : mL} {d : Nat} {ls st : List Value} {I : mI} {F : mF} {R : mR} {n : Nat} {Q : mP} {x y : Int32} : Ev lay d 167 529 ls (.int y :: .int x :: st) I F R n Q ↔ Ev lay d 167 530 ls (.int (x + y) :: st) I F R n Q := ev_n rfl
set_option maxRecDepth 20000 in
theorem e167_530 {lay : mL} {d : Nat} {ls st : List Value} {I : mI} {F : mF} {R : mR} {n : Nat} {Q : mP} {a : Nat} {i : Int32} : Ev lay d 167 530 ls (.int i :: .ref a :: st) I F R n Q ↔ (m_in lay 0 a i ∧ Ev lay d 167 531 ls (.int (I a i.toNatClampNeg) :: st) I F R n Q) := ev_nc rfl
set_option maxRecDepth 20000 in
theorem e167_531 {lay : mL} {d : Nat} {ls st : List Value} {I : mI} {F : mF} {R : mR} {n : Nat} {Q : mP} {x : Nat} : Ev lay d 167 531 (.ref x :: ls) st I F R n Q ↔ Ev lay d 167 532 (.ref x :: ls) (.ref x :: st) I F R n Q := ev_n rfl
set_option maxRecDepth 20000 in
theorem e167_531N {lay : mL} {d : Nat} {ls st : List Value} {I : mI} {F : mF} {R : mR} {n : Nat} {Q : mP} : Ev lay d 167 531 (.null :: ls) st I F R n Q ↔ Ev lay d 167 532 (.null :: ls) (.null :: st) I F R n Q := ev_n rfl
set_option maxRecDepth 20000 in
theorem e167_532 {lay : mL} {d : Nat} {ls st : List Value} {I : mI} {F : mF} {R : mR} {n : Nat} {Q : mP} {v0 v1 v2 : Value} {x : Int32} : Ev lay d 167 532 (v0 :: v1 :: v2 :: .int x :: ls) st I F R n Q ↔ Ev lay d 167 533 (v0 :: v1 :: v2 :: .int x :: ls) (.int x :: st) I F R n Q := ev_n rfl
set_option maxRecDepth 20000 in
theorem e167_533 {lay : mL} {d : Nat} {ls st : List Value} {I : mI} {F : mF} {R : mR} {n : Nat} {Q : mP} : Ev lay d 167 533 ls st I F R n Q ↔ Ev lay d 167 534 ls (.int (2 : Int32) :: st) I F R n Q := ev_n rfl
set_option maxRecDepth 20000 in
theorem e167_534 {lay : mL} {d : Nat} {ls st : List Value} {I : mI} {F : mF} {R : mR} {n : Nat} {Q : mP} {x y : Int32} : Ev lay d 167 534 ls (.int y :: .int x :: st) I F R n Q ↔ Ev lay d 167 535 ls (.int (x + y) :: st) I F R n Q := ev_n rfl
set_option maxRecDepth 20000 in
theorem e167_535 {lay : mL} {d : Nat} {ls st : List Value} {I : mI} {F : mF} {R : mR} {n : Nat} {Q : mP} {a : Nat} {i : Int32} : Ev lay d 167 535 ls (.int i :: .ref a :: st) I F R n Q ↔ (m_in lay 0 a i ∧ Ev lay d 167 536 ls (.int (I a i.toNatClampNeg) :: st) I F R n Q) := ev_nc rfl
set_option maxRecDepth 20000 in
theorem e167_536 {lay : mL} {d : Nat} {ls st : List Value} {I : mI} {F : mF} {R : mR} {n : Nat} {Q : mP} {a : Nat} {x0 : Int32} {x1 : Int32} : Ev lay d 167 536 ls (.int x1 :: .int x0 :: .ref a :: st) I F R n Q ↔ ((lay a = (13, 0) ∧ (st.length ≤ 4 ∨ (st.map fun v => v.category).sum ≤ 8) ∧ 1 ≤ d) ∧ Ev lay (d - 1) 64 0 [.ref a, .int x0, .int x1, m_j] [] I F R n (fun v I F R n => Ev lay d 167 539 ls (m_psh v st) I F R n Q)) := ev_c rfl rfl
set_option maxRecDepth 20000 in
theorem e167_539 {lay : mL} {d : Nat} {ls st : List Value} {I : mI} {F : mF} {R : mR} {n : Nat} {Q : mP} {v0 v1 : Value} {x : Nat} : Ev lay d 167 539 (v0 :: v1 :: .ref x :: ls) st I F R n Q ↔ Ev lay d 167 540 (v0 :: v1 :: .ref x :: ls) (.ref x :: st) I F R n Q := ev_n rfl
set_option maxRecDepth 20000 in
theorem e167_539N {lay : mL} {d : Nat} {ls st : List Value} {I : mI} {F : mF} {R : mR} {n : Nat} {Q : mP} {v0 v1 : Value} : Ev lay d 167 539 (v0 :: v1 :: .null :: ls) st I F R n Q ↔ Ev lay d 167 540 (v0 :: v1 :: .null :: ls) (.null :: st) I F R n Q := ev_n rfl
set_option maxRecDepth 20000 in
theorem e167_540 {lay : mL} {d : Nat} {ls st : List Value} {I : mI} {F : mF} {R : mR} {n : Nat} {Q : mP} {x : Nat} : Ev lay d 167 540 (.ref x :: ls) st I F R n Q ↔ Ev lay d 167 541 (.ref x :: ls) (.ref x :: st) I F R n Q := ev_n rfl
set_option maxRecDepth 20000 in
theorem e167_540N {lay : mL} {d : Nat} {ls st : List Value} {I : mI} {F : mF} {R : mR} {n : Nat} {Q : mP} : Ev lay d 167 540 (.null :: ls) st I F R n Q ↔ Ev lay d 167 541 (.null :: ls) (.null :: st) I F R n Q := ev_n rfl
set_option maxRecDepth 20000 in
theorem e167_541 {lay : mL} {d : Nat} {ls st : List Value} {I : mI} {F : mF} {R : mR} {n : Nat} {Q : mP} {v0 v1 v2 : Value} {x : Int32} : Ev lay d 167 541 (v0 :: v1 :: v2 :: .int x :: ls) st I F R n Q ↔ Ev lay d 167 542 (v0 :: v1 :: v2 :: .int x :: ls) (.int x :: st) I F R n Q := ev_n rfl
set_option maxRecDepth 20000 in
theorem e167_542 {lay : mL} {d : Nat} {ls st : List Value} {I : mI} {F : mF} {R : mR} {n : Nat} {Q : mP} : Ev lay d 167 542 ls st I F R n Q ↔ Ev lay d 167 543 ls (.int (1 : Int32) :: st) I F R n Q := ev_n rfl
set_option maxRecDepth 20000 in
theorem e167_543 {lay : mL} {d : Nat} {ls st : List Value} {I : mI} {F : mF} {R : mR} {n : Nat} {Q : mP} {x y : Int32} : Ev lay d 167 543 ls (.int y :: .int x :: st) I F R n Q ↔ Ev lay d 167 544 ls (.int (x + y) :: st) I F R n Q := ev_n rfl
set_option maxRecDepth 20000 in
theorem e167_544 {lay : mL} {d : Nat} {ls st : List Value} {I : mI} {F : mF} {R : mR} {n : Nat} {Q : mP} {a : Nat} {i : Int32} : Ev lay d 167 544 ls (.int i :: .ref a :: st) I F R n Q ↔ (m_in lay 0 a i ∧ Ev lay d 167 545 ls (.int (I a i.toNatClampNeg) :: st) I F R n Q) := ev_nc rfl
set_option maxRecDepth 20000 in
theorem e167_545 {lay : mL} {d : Nat} {ls st : List Value} {I : mI} {F : mF} {R : mR} {n : Nat} {Q : mP} {x : Nat} : Ev lay d 167 545 (.ref x :: ls) st I F R n Q ↔ Ev lay d 167 546 (.ref x :: ls) (.ref x :: st) I F R n Q := ev_n rfl
set_option maxRecDepth 20000 in
theorem e167_545N {lay : mL} {d : Nat} {ls st : List Value} {I : mI} {F : mF} {R : mR} {n : Nat} {Q : mP} : Ev lay d 167 545 (.null :: ls) st I F R n Q ↔ Ev lay d 167 546 (.null :: ls) (.null :: st) I F R n Q := ev_n rfl
set_option maxRecDepth 20000 in
theorem e167_546 {lay : mL} {d : Nat} {ls st : List Value} {I : mI} {F : mF} {R : mR} {n : Nat} {Q : mP} {v0 v1 v2 : Value} {x : Int32} : Ev lay d 167 546 (v0 :: v1 :: v2 :: .int x :: ls) st I F R n Q ↔ Ev lay d 167 547 (v0 :: v1 :: v2 :: .int x :: ls) (.int x :: st) I F R n Q := ev_n rfl
set_option maxRecDepth 20000 in
theorem e167_547 {lay : mL} {d : Nat} {ls st : List Value} {I : mI} {F : mF} {R : mR} {n : Nat} {Q : mP} : Ev lay d 167 547 ls st I F R n Q ↔ Ev lay d 167 548 ls (.int (2 : Int32) :: st) I F R n Q := ev_n rfl
set_option maxRecDepth 20000 in
theorem e167_548 {lay : mL} {d : Nat} {ls st : List Value} {I : mI} {F : mF} {R : mR} {n : Nat} {Q : mP} {x y : Int32} : Ev lay d 167 548 ls (.int y :: .int x :: st) I F R n Q ↔ Ev lay d 167 549 ls (.int (x + y) :: st) I F R n Q := ev_n rfl
set_option maxRecDepth 20000 in
theorem e167_549 {lay : mL} {d : Nat} {ls st : List Value} {I : mI} {F : mF} {R : mR} {n : Nat} {Q : mP} {a : Nat} {i : Int32} : Ev lay d 167 549 ls (.int i :: .ref a :: st) I F R n Q ↔ (m_in lay 0 a i ∧ Ev lay d 167 550 ls (.int (I a i.toNatClampNeg) :: st) I F R n Q) := ev_nc rfl
set_option maxRecDepth 20000 in
theorem e167_550 {lay : mL} {d : Nat} {ls st : List Value} {I : mI} {F : mF} {R : mR} {n : Nat} {Q : mP} {a : Nat} {x0 : Int32} {x1 : Int32} : Ev lay d 167 550 ls (.int x1 :: .int x0 :: .ref a :: st) I F R n Q ↔ ((lay a = (14, 0) ∧ (st.length ≤ 4 ∨ (st.map fun v => v.category).sum ≤ 8) ∧ 1 ≤ d) ∧ Ev lay (d - 1) 145 0 [.ref a, .int x0, .int x1, m_j, m_j, m_j, m_j] [] I F R n (fun v I F R n => Ev lay d 167 553 ls (m_psh v st) I F R n Q)) := ev_c rfl rfl
set_option maxRecDepth 20000 in
theorem e167_553 {lay : mL} {d : Nat} {ls st : List Value} {I : mI} {F : mF} {R : mR} {n : Nat} {Q : mP} {x y : Int32} : Ev lay d 167 553 ls (.int y :: .int x :: st) I F R n Q ↔ (if x = y then Ev lay d 167 801 ls st I F R n Q else Ev lay d 167 556 ls st I F R n Q) := (ev_n rfl).trans (ev_if _)
set_option maxRecDepth 20000 in
theorem e167_556 {lay : mL} {d : Nat} {ls st : List Value} {I : mI} {F : mF} {R : mR} {n : Nat} {Q : mP} : Ev lay d 167 556 ls st I F R n Q ↔ Ev lay d 167 557 ls (.int (0 : Int32) :: st) I F R n Q := ev_n rfl
set_option maxRecDepth 20000 in
theorem e167_557 {lay : mL} {d : Nat} {ls : List Value} {I : mI} {F : mF} {R : mR} {n : Nat} {Q : mP} {x : Int32} : Ev lay d 167 557 ls [.int x] I F R n Q ↔ (narrow .boolean (.int x) = .int x ∧ Q (some (.int x)) I F R n) := ev_rc rfl
set_option maxRecDepth 20000 in
theorem e167_558 {lay : mL} {d : Nat} {ls st : List Value} {I : mI} {F : mF} {R : mR} {n : Nat} {Q : mP} {v0 : Value} {x : Nat} : Ev lay d 167 558 (v0 :: .ref x :: ls) st I F R n Q ↔ Ev lay d 167 559 (v0 :: .ref x :: ls) (.ref x :: st) I F R n Q := ev_n rfl
set_option maxRecDepth 20000 in
theorem e167_558N {lay : mL} {d : Nat} {ls st : List Value} {I : mI} {F : mF} {R : mR} {n : Nat} {Q : mP} {v0 : Value} : Ev lay d 167 558 (v0 :: .null :: ls) st I F R n Q ↔ Ev lay d 167 559 (v0 :: .null :: ls) (.null :: st) I F R n Q := ev_n rfl
set_option maxRecDepth 20000 in
theorem e167_559 {lay : mL} {d : Nat} {ls st : List Value} {I : mI} {F : mF} {R : mR} {n : Nat} {Q : mP} {x : Nat} : Ev lay d 167 559 (.ref x :: ls) st I F R n Q ↔ Ev lay d 167 560 (.ref x :: ls) (.ref x :: st) I F R n Q := ev_n rfl
set_option maxRecDepth 20000 in
theorem e167_559N {lay : mL} {d : Nat} {ls st : List Value} {I : mI} {F : mF} {R : mR} {n : Nat} {Q : mP} : Ev lay d 167 559 (.null :: ls) st I F R n Q ↔ Ev lay d 167 560 (.null :: ls) (.null :: st) I F R n Q := ev_n rfl
set_option maxRecDepth 20000 in
theorem e167_560 {lay : mL} {d : Nat} {ls st : List Value} {I : mI} {F : mF} {R : mR} {n : Nat} {Q : mP} {v0 v1 v2 : Value} {x : Int32} : Ev lay d 167 560 (v0 :: v1 :: v2 :: .int x :: ls) st I F R n Q ↔ Ev lay d 167 561 (v0 :: v1 :: v2 :: .int x :: ls) (.int x :: st) I F R n Q := ev_n rfl
set_option maxRecDepth 20000 in
theorem e167_561 {lay : mL} {d : Nat} {ls st : List Value} {I : mI} {F : mF} {R : mR} {n : Nat} {Q : mP} : Ev lay d 167 561 ls st I F R n Q ↔ Ev lay d 167 562 ls (.int (1 : Int32) :: st) I F R n Q := ev_n rfl
set_option maxRecDepth 20000 in
theorem e167_562 {lay : mL} {d : Nat} {ls st : List Value} {I : mI} {F : mF} {R : mR} {n : Nat} {Q : mP} {x y : Int32} : Ev lay d 167 562 ls (.int y :: .int x :: st) I F R n Q ↔ Ev lay d 167 563 ls (.int (x + y) :: st) I F R n Q := ev_n rfl
set_option maxRecDepth 20000 in
theorem e167_563 {lay : mL} {d : Nat} {ls st : List Value} {I : mI} {F : mF} {R : mR} {n : Nat} {Q : mP} {a : Nat} {i : Int32} : Ev lay d 167 563 ls (.int i :: .ref a :: st) I F R n Q ↔ (m_in lay 0 a i ∧ Ev lay d 167 564 ls (.int (I a i.toNatClampNeg) :: st) I F R n Q) := ev_nc rfl
set_option maxRecDepth 20000 in
theorem e167_564 {lay : mL} {d : Nat} {ls st : List Value} {I : mI} {F : mF} {R : mR} {n : Nat} {Q : mP} {a : Nat} {x0 : Int32} : Ev lay d 167 564 ls (.int x0 :: .ref a :: st) I F R n Q ↔ ((lay a = (13, 0) ∧ (st.length ≤ 4 ∨ (st.map fun v => v.category).sum ≤ 8) ∧ 1 ≤ d) ∧ Ev lay (d - 1) 66 0 [.ref a, .int x0, m_j] [] I F R n (fun v I F R n => Ev lay d 167 567 ls (m_psh v st) I F R n Q)) := ev_c rfl rfl
set_option maxRecDepth 20000 in
theorem e167_567 {lay : mL} {d : Nat} {ls st : List Value} {I : mI} {F : mF} {R : mR} {n : Nat} {Q : mP} {v0 v1 : Value} {x : Nat} : Ev lay d 167 567 (v0 :: v1 :: .ref x :: ls) st I F R n Q ↔ Ev lay d 167 568 (v0 :: v1 :: .ref x :: ls) (.ref x :: st) I F R n Q := ev_n rfl
set_option maxRecDepth 20000 in
theorem e167_567N {lay : mL} {d : Nat} {ls st : List Value} {I : mI} {F : mF} {R : mR} {n : Nat} {Q : mP} {v0 v1 : Value} : Ev lay d 167 567 (v0 :: v1 :: .null :: ls) st I F R n Q ↔ Ev lay d 167 568 (v0 :: v1 :: .null :: ls) (.null :: st) I F R n Q := ev_n rfl
set_option maxRecDepth 20000 in
theorem e167_568 {lay : mL} {d : Nat} {ls st : List Value} {I : mI} {F : mF} {R : mR} {n : Nat} {Q : mP} {x : Nat} : Ev lay d 167 568 (.ref x :: ls) st I F R n Q ↔ Ev lay d 167 569 (.ref x :: ls) (.ref x :: st) I F R n Q := ev_n rfl
set_option maxRecDepth 20000 in
theorem e167_568N {lay : mL} {d : Nat} {ls st : List Value} {I : mI} {F : mF} {R : mR} {n : Nat} {Q : mP} : Ev lay d 167 568 (.null :: ls) st I F R n Q ↔ Ev lay d 167 569 (.null :: ls) (.null :: st) I F R n Q := ev_n rfl
set_option maxRecDepth 20000 in
theorem e167_569 {lay : mL} {d : Nat} {ls st : List Value} {I : mI} {F : mF} {R : mR} {n : Nat} {Q : mP} {v0 v1 v2 : Value} {x : Int32} : Ev lay d 167 569 (v0 :: v1 :: v2 :: .int x :: ls) st I F R n Q ↔ Ev lay d 167 570 (v0 :: v1 :: v2 :: .int x :: ls) (.int x :: st) I F R n Q := ev_n rfl
set_option maxRecDepth 20000 in
theorem e167_570 {lay : mL} {d : Nat} {ls st : List Value} {I : mI} {F : mF} {R : mR} {n : Nat} {Q : mP} : Ev lay d 167 570 ls st I F R n Q ↔ Ev lay d 167 571 ls (.int (1 : Int32) :: st) I F R n Q := ev_n rfl
set_option maxRecDepth 20000 in
theorem e167_571 {lay : mL} {d : Nat} {ls st : List Value} {I : mI} {F : mF} {R : mR} {n : Nat} {Q : mP} {x y : Int32} : Ev lay d 167 571 ls (.int y :: .int x :: st) I F R n Q ↔ Ev lay d 167 572 ls (.int (x + y) :: st) I F R n Q := ev_n rfl
set_option maxRecDepth 20000 in
theorem e167_572 {lay : mL} {d : Nat} {ls st : List Value} {I : mI} {F : mF} {R : mR} {n : Nat} {Q : mP} {a : Nat} {i : Int32} : Ev lay d 167 572 ls (.int i :: .ref a :: st) I F R n Q ↔ (m_in lay 0 a i ∧ Ev lay d 167 573 ls (.int (I a i.toNatClampNeg) :: st) I F R n Q) := ev_nc rfl
set_option maxRecDepth 20000 in
theorem e167_573 {lay : mL} {d : Nat} {ls st : List Value} {I : mI} {F : mF} {R : mR} {n : Nat} {Q : mP} {a : Nat} {x0 : Int32} : Ev lay d 167 573 ls (.int x0 :: .ref a :: st) I F R n Q ↔ ((lay a = (14, 0) ∧ (st.length ≤ 4 ∨ (st.map fun v => v.category).sum ≤ 8) ∧ 1 ≤ d) ∧ Ev lay (d - 1) 146 0 [.ref a, .int x0, m_j] [] I F R n (fun v I F R n => Ev lay d 167 576 ls (m_psh v st) I F R n Q)) := ev_c rfl rfl
set_option maxRecDepth 20000 in
theorem e167_576 {lay : mL} {d : Nat} {ls st : List Value} {I : mI} {F : mF} {R : mR} {n : Nat} {Q : mP} {x y : Int32} : Ev lay d 167 576 ls (.int y :: .int x :: st) I F R n Q ↔ (if x = y then Ev lay d 167 801 ls st I F R n Q else Ev lay d 167 579 ls st I F R n Q) := (ev_n rfl).trans (ev_if _)
set_option maxRecDepth 20000 in
theorem e167_579 {lay : mL} {d : Nat} {ls st : List Value} {I : mI} {F : mF} {R : mR} {n : Nat} {Q : mP} : Ev lay d 167 579 ls st I F R n Q ↔ Ev lay d 167 580 ls (.int (0 : Int32) :: st) I F R n Q := ev_n rfl
set_option maxRecDepth 20000 in
theorem e167_580 {lay : mL} {d : Nat} {ls : List Value} {I : mI} {F : mF} {R : mR} {n : Nat} {Q : mP} {x : Int32} : Ev lay d 167 580 ls [.int x] I F R n Q ↔ (narrow .boolean (.int x) = .int x ∧ Q (some (.int x)) I F R n) := ev_rc rfl
set_option maxRecDepth 20000 in
theorem e167_581 {lay : mL} {d : Nat} {ls st : List Value} {I : mI} {F : mF} {R : mR} {n : Nat} {Q : mP} {v0 : Value} {x : Nat} : Ev lay d 167 581 (v0 :: .ref x :: ls) st I F R n Q ↔ Ev lay d 167 582 (v0 :: .ref x :: ls) (.ref x :: st) I F R n Q := ev_n rfl
set_option maxRecDepth 20000 in
theorem e167_581N {lay : mL} {d : Nat} {ls st : List Value} {I : mI} {F : mF} {R : mR} {n : Nat} {Q : mP} {v0 : Value} : Ev lay d 167 581 (v0 :: .null :: ls) st I F R n Q ↔ Ev lay d 167 582 (v0 :: .null :: ls) (.null :: st) I F R n Q := ev_n rfl
set_option maxRecDepth 20000 in
theorem e167_582 {lay : mL} {d : Nat} {ls st : List Value} {I : mI} {F : mF} {R : mR} {n : Nat} {Q : mP} {x : Nat} : Ev lay d 167 582 (.ref x :: ls) st I F R n Q ↔ Ev lay d 167 583 (.ref x :: ls) (.ref x :: st) I F R n Q := ev_n rfl
set_option maxRecDepth 20000 in
theorem e167_582N {lay : mL} {d : Nat} {ls st : List Value} {I : mI} {F : mF} {R : mR} {n : Nat} {Q : mP} : Ev lay d 167 582 (.null :: ls) st I F R n Q ↔ Ev lay d 167 583 (.null :: ls) (.null :: st) I F R n Q := ev_n rfl
set_option maxRecDepth 20000 in
theorem e167_583 {lay : mL} {d : Nat} {ls st : List Value} {I : mI} {F : mF} {R : mR} {n : Nat} {Q : mP} {v0 v1 v2 : Value} {x : Int32} : Ev lay d 167 583 (v0 :: v1 :: v2 :: .int x :: ls) st I F R n Q ↔ Ev lay d 167 584 (v0 :: v1 :: v2 :: .int x :: ls) (.int x :: st) I F R n Q := ev_n rfl
set_option maxRecDepth 20000 in
theorem e167_584 {lay : mL} {d : Nat} {ls st : List Value} {I : mI} {F : mF} {R : mR} {n : Nat} {Q : mP} : Ev lay d 167 584 ls st I F R n Q ↔ Ev lay d 167 585 ls (.int (1 : Int32) :: st) I F R n Q := ev_n rfl
set_option maxRecDepth 20000 in
theorem e167_585 {lay : mL} {d : Nat} {ls st : List Value} {I : mI} {F : mF} {R : mR} {n : Nat} {Q : mP} {x y : Int32} : Ev lay d 167 585 ls (.int y :: .int x :: st) I F R n Q ↔ Ev lay d 167 586 ls (.int (x + y) :: st) I F R n Q := ev_n rfl
set_option maxRecDepth 20000 in
theorem e167_586 {lay : mL} {d : Nat} {ls st : List Value} {I : mI} {F : mF} {R : mR} {n : Nat} {Q : mP} {a : Nat} {i : Int32} : Ev lay d 167 586 ls (.int i :: .ref a :: st) I F R n Q ↔ (m_in lay 0 a i ∧ Ev lay d 167 587 ls (.int (I a i.toNatClampNeg) :: st) I F R n Q) := ev_nc rfl
set_option maxRecDepth 20000 in
theorem e167_587 {lay : mL} {d : Nat} {ls st : List Value} {I : mI} {F : mF} {R : mR} {n : Nat} {Q : mP} {a : Nat} {x0 : Int32} : Ev lay d 167 587 ls (.int x0 :: .ref a :: st) I F R n Q ↔ ((lay a = (13, 0) ∧ (st.length ≤ 4 ∨ (st.map fun v => v.category).sum ≤ 8) ∧ 1 ≤ d) ∧ Ev lay (d - 1) 69 0 [.ref a, .int x0] [] I F R n (fun v I F R n => Ev lay d 167 590 ls (m_psh v st) I F R n Q)) := ev_c rfl rfl
set_option maxRecDepth 20000 in
theorem e167_590 {lay : mL} {d : Nat} {ls st : List Value} {I : mI} {F : mF} {R : mR} {n : Nat} {Q : mP} {v0 v1 : Value} {x : Nat} : Ev lay d 167 590 (v0 :: v1 :: .ref x :: ls) st I F R n Q ↔ Ev lay d 167 591 (v0 :: v1 :: .ref x :: ls) (.ref x :: st) I F R n Q := ev_n rfl
set_option maxRecDepth 20000 in
theorem e167_590N {lay : mL} {d : Nat} {ls st : List Value} {I : mI} {F : mF} {R : mR} {n : Nat} {Q : mP} {v0 v1 : Value} : Ev lay d 167 590 (v0 :: v1 :: .null :: ls) st I F R n Q ↔ Ev lay d 167 591 (v0 :: v1 :: .null :: ls) (.null :: st) I F R n Q := ev_n rfl
set_option maxRecDepth 20000 in
theorem e167_591 {lay : mL} {d : Nat} {ls st : List Value} {I : mI} {F : mF} {R : mR} {n : Nat} {Q : mP} {x : Nat} : Ev lay d 167 591 (.ref x :: ls) st I F R n Q ↔ Ev lay d 167 592 (.ref x :: ls) (.ref x :: st) I F R n Q := ev_n rfl
set_option maxRecDepth 20000 in
theorem e167_591N {lay : mL} {d : Nat} {ls st : List Value} {I : mI} {F : mF} {R : mR} {n : Nat} {Q : mP} : Ev lay d 167 591 (.null :: ls) st I F R n Q ↔ Ev lay d 167 592 (.null :: ls) (.null :: st) I F R n Q := ev_n rfl
set_option maxRecDepth 20000 in
theorem e167_592 {lay : mL} {d : Nat} {ls st : List Value} {I : mI} {F : mF} {R : mR} {n : Nat} {Q : mP} {v0 v1 v2 : Value} {x : Int32} : Ev lay d 167 592 (v0 :: v1 :: v2 :: .int x :: ls) st I F R n Q ↔ Ev lay d 167 593 (v0 :: v1 :: v2 :: .int x :: ls) (.int x :: st) I F R n Q := ev_n rfl
set_option maxRecDepth 20000 in
theorem e167_593 {lay : mL} {d : Nat} {ls st : List Value} {I : mI} {F : mF} {R : mR} {n : Nat} {Q : mP} : Ev lay d 167 593 ls st I F R n Q ↔ Ev lay d 167 594 ls (.int (1 : Int32) :: st) I F R n Q := ev_n rfl
set_option maxRecDepth 20000 in
theorem e167_594 {lay : mL} {d : Nat} {ls st : List Value} {I : mI} {F : mF} {R : mR} {n : Nat} {Q : mP} {x y : Int32} : Ev lay d 167 594 ls (.int y :: .int x :: st) I F R n Q ↔ Ev lay d 167 595 ls (.int (x + y) :: st) I F R n Q := ev_n rfl
set_option maxRecDepth 20000 in
theorem e167_595 {lay : mL} {d : Nat} {ls st : List Value} {I : mI} {F : mF} {R : mR} {n : Nat} {Q : mP} {a : Nat} {i : Int32} : Ev lay d 167 595 ls (.int i :: .ref a :: st) I F R n Q ↔ (m_in lay 0 a i ∧ Ev lay d 167 596 ls (.int (I a i.toNatClampNeg) :: st) I F R n Q) := ev_nc rfl
set_option maxRecDepth 20000 in
theorem e167_596 {lay : mL} {d : Nat} {ls st : List Value} {I : mI} {F : mF} {R : mR} {n : Nat} {Q : mP} {a : Nat} {x0 : Int32} : Ev lay d 167 596 ls (.int x0 :: .ref a :: st) I F R n Q ↔ ((lay a = (14, 0) ∧ (st.length ≤ 4 ∨ (st.map fun v => v.category).sum ≤ 8) ∧ 1 ≤ d) ∧ Ev lay (d - 1) 149 0 [.ref a, .int x0, m_j] [] I F R n (fun v I F R n => Ev lay d 167 599 ls (m_psh v st) I F R n Q)) := ev_c rfl rfl
set_option maxRecDepth 20000 in
theorem e167_599 {lay : mL} {d : Nat} {ls st : List Value} {I : mI} {F : mF} {R : mR} {n : Nat} {Q : mP} {x y : Int32} : Ev lay d 167 599 ls (.int y :: .int x :: st) I F R n Q ↔ (if x = y then Ev lay d 167 801 ls st I F R n Q else Ev lay d 167 602 ls st I F R n Q) := (ev_n rfl).trans (ev_if _)
set_option maxRecDepth 20000 in
theorem e167_602 {lay : mL} {d : Nat} {ls st : List Value} {I : mI} {F : mF} {R : mR} {n : Nat} {Q : mP} : Ev lay d 167 602 ls st I F R n Q ↔ Ev lay d 167 603 ls (.int (0 : Int32) :: st) I F R n Q := ev_n rfl
set_option maxRecDepth 20000 in
theorem e167_603 {lay : mL} {d : Nat} {ls : List Value} {I : mI} {F : mF} {R : mR} {n : Nat} {Q : mP} {x : Int32} : Ev lay d 167 603 ls [.int x] I F R n Q ↔ (narrow .boolean (.int x) = .int x ∧ Q (some (.int x)) I F R n) := ev_rc rfl
set_option maxRecDepth 20000 in
theorem e167_604 {lay : mL} {d : Nat} {ls st : List Value} {I : mI} {F : mF} {R : mR} {n : Nat} {Q : mP} {v0 : Value} {x : Nat} : Ev lay d 167 604 (v0 :: .ref x :: ls) st I F R n Q ↔ Ev lay d 167 605 (v0 :: .ref x :: ls) (.ref x :: st) I F R n Q := ev_n rfl
set_option maxRecDepth 20000 in
theorem e167_604N {lay : mL} {d : Nat} {ls st : List Value} {I : mI} {F : mF} {R : mR} {n : Nat} {Q : mP} {v0 : Value} : Ev lay d 167 604 (v0 :: .null :: ls) st I F R n Q ↔ Ev lay d 167 605 (v0 :: .null :: ls) (.null :: st) I F R n Q := ev_n rfl
set_option maxRecDepth 20000 in
theorem e167_605 {lay : mL} {d : Nat} {ls st : List Value} {I : mI} {F : mF} {R : mR} {n : Nat} {Q : mP} {x : Nat} : Ev lay d 167 605 (.ref x :: ls) st I F R n Q ↔ Ev lay d 167 606 (.ref x :: ls) (.ref x :: st) I F R n Q := ev_n rfl
set_option maxRecDepth 20000 in
theorem e167_605N {lay : mL} {d : Nat} {ls st : List Value} {I : mI} {F : mF} {R : mR} {n : Nat} {Q : mP} : Ev lay d 167 605 (.null :: ls) st I F R n Q ↔ Ev lay d 167 606 (.null :: ls) (.null :: st) I F R n Q := ev_n rfl
set_option maxRecDepth 20000 in
theorem e167_606 {lay : mL} {d : Nat} {ls st : List Value} {I : mI} {F : mF} {R : mR} {n : Nat} {Q : mP} {v0 v1 v2 : Value} {x : Int32} : Ev lay d 167 606 (v0 :: v1 :: v2 :: .int x :: ls) st I F R n Q ↔ Ev lay d 167 607 (v0 :: v1 :: v2 :: .int x :: ls) (.int x :: st) I F R n Q := ev_n rfl
set_option maxRecDepth 20000 in
theorem e167_607 {lay : mL} {d : Nat} {ls st : List Value} {I : mI} {F : mF} {R : mR} {n : Nat} {Q : mP} : Ev lay d 167 607 ls st I F R n Q ↔ Ev lay d 167 608 ls (.int (1 : Int32) :: st) I F R n Q := ev_n rfl
set_option maxRecDepth 20000 in
theorem e167_608 {lay : mL} {d : Nat} {ls st : List Value} {I : mI} {F : mF} {R : mR} {n : Nat} {Q : mP} {x y : Int32} : Ev lay d 167 608 ls (.int y :: .int x :: st) I F R n Q ↔ Ev lay d 167 609 ls (.int (x + y) :: st) I F R n Q := ev_n rfl
set_option maxRecDepth 20000 in
theorem e167_609 {lay : mL} {d : Nat} {ls st : List Value} {I : mI} {F : mF} {R : mR} {n : Nat} {Q : mP} {a : Nat} {i : Int32} : Ev lay d 167 609 ls (.int i :: .ref a :: st) I F R n Q ↔ (m_in lay 0 a i ∧ Ev lay d 167 610 ls (.int (I a i.toNatClampNeg) :: st) I F R n Q) := ev_nc rfl
set_option maxRecDepth 20000 in
theorem e167_610 {lay : mL} {d : Nat} {ls st : List Value} {I : mI} {F : mF} {R : mR} {n : Nat} {Q : mP} {x : Nat} : Ev lay d 167 610 (.ref x :: ls) st I F R n Q ↔ Ev lay d 167 611 (.ref x :: ls) (.ref x :: st) I F R n Q := ev_n rfl
set_option maxRecDepth 20000 in
theorem e167_610N {lay : mL} {d : Nat} {ls st : List Value} {I : mI} {F : mF} {R : mR} {n : Nat} {Q : mP} : Ev lay d 167 610 (.null :: ls) st I F R n Q ↔ Ev lay d 167 611 (.null :: ls) (.null :: st) I F R n Q := ev_n rfl
set_option maxRecDepth 20000 in
theorem e167_611 {lay : mL} {d : Nat} {ls st : List Value} {I : mI} {F : mF} {R : mR} {n : Nat} {Q : mP} {v0 v1 v2 : Value} {x : Int32} : Ev lay d 167 611 (v0 :: v1 :: v2 :: .int x :: ls) st I F R n Q ↔ Ev lay d 167 612 (v0 :: v1 :: v2 :: .int x :: ls) (.int x :: st) I F R n Q := ev_n rfl
set_option maxRecDepth 20000 in
theorem e167_612 {lay : mL} {d : Nat} {ls st : List Value} {I : mI} {F : mF} {R : mR} {n : Nat} {Q : mP} : Ev lay d 167 612 ls st I F R n Q ↔ Ev lay d 167 613 ls (.int (2 : Int32) :: st) I F R n Q := ev_n rfl
set_option maxRecDepth 20000 in
theorem e167_613 {lay : mL} {d : Nat} {ls st : List Value} {I : mI} {F : mF} {R : mR} {n : Nat} {Q : mP} {x y : Int32} : Ev lay d 167 613 ls (.int y :: .int x :: st) I F R n Q ↔ Ev lay d 167 614 ls (.int (x + y) :: st) I F R n Q := ev_n rfl
set_option maxRecDepth 20000 in
theorem e167_614 {lay : mL} {d : Nat} {ls st : List Value} {I : mI} {F : mF} {R : mR} {n : Nat} {Q : mP} {a : Nat} {i : Int32} : Ev lay d 167 614 ls (.int i :: .ref a :: st) I F R n Q ↔ (m_in lay 0 a i ∧ Ev lay d 167 615 ls (.int (I a i.toNatClampNeg) :: st) I F R n Q) := ev_nc rfl
set_option maxRecDepth 20000 in
theorem e167_615 {lay : mL} {d : Nat} {ls st : List Value} {I : mI} {F : mF} {R : mR} {n : Nat} {Q : mP} {a : Nat} {x0 : Int32} {x1 : Int32} : Ev lay d 167 615 ls (.int x1 :: .int x0 :: .ref a :: st) I F R n Q ↔ ((lay a = (13, 0) ∧ (st.length ≤ 4 ∨ (st.map fun v => v.category).sum ≤ 8) ∧ 1 ≤ d) ∧ Ev lay (d - 1) 70 0 [.ref a, .int x0, .int x1] [] I F R n (fun v I F R n => Ev lay d 167 618 ls (m_psh v st) I F R n Q)) := ev_c rfl rfl
set_option maxRecDepth 20000 in
theorem e167_618 {lay : mL} {d : Nat} {ls st : List Value} {I : mI} {F : mF} {R : mR} {n : Nat} {Q : mP} {v0 v1 : Value} {x : Nat} : Ev lay d 167 618 (v0 :: v1 :: .ref x :: ls) st I F R n Q ↔ Ev lay d 167 619 (v0 :: v1 :: .ref x :: ls) (.ref x :: st) I F R n Q := ev_n rfl
set_option maxRecDepth 20000 in
theorem e167_618N {lay : mL} {d : Nat} {ls st : List Value} {I : mI} {F : mF} {R : mR} {n : Nat} {Q : mP} {v0 v1 : Value} : Ev lay d 167 618 (v0 :: v1 :: .null :: ls) st I F R n Q ↔ Ev lay d 167 619 (v0 :: v1 :: .null :: ls) (.null :: st) I F R n Q := ev_n rfl
set_option maxRecDepth 20000 in
theorem e167_619 {lay : mL} {d : Nat} {ls st : List Value} {I : mI} {F : mF} {R : mR} {n : Nat} {Q : mP} {x : Nat} : Ev lay d 167 619 (.ref x :: ls) st I F R n Q ↔ Ev lay d 167 620 (.ref x :: ls) (.ref x :: st) I F R n Q := ev_n rfl
set_option maxRecDepth 20000 in
theorem e167_619N {lay : mL} {d : Nat} {ls st : List Value} {I : mI} {F : mF} {R : mR} {n : Nat} {Q : mP} : Ev lay d 167 619 (.null :: ls) st I F R n Q ↔ Ev lay d 167 620 (.null :: ls) (.null :: st) I F R n Q := ev_n rfl
set_option maxRecDepth 20000 in
theorem e167_620 {lay : mL} {d : Nat} {ls st : List Value} {I : mI} {F : mF} {R : mR} {n : Nat} {Q : mP} {v0 v1 v2 : Value} {x : Int32} : Ev lay d 167 620 (v0 :: v1 :: v2 :: .int x :: ls) st I F R n Q ↔ Ev lay d 167 621 (v0 :: v1 :: v2 :: .int x :: ls) (.int x :: st) I F R n Q := ev_n rfl
set_option maxRecDepth 20000 in
theorem e167_621 {lay : mL} {d : Nat} {ls st : List Value} {I : mI} {F : mF} {R : mR} {n : Nat} {Q : mP} : Ev lay d 167 621 ls st I F R n Q ↔ Ev lay d 167 622 ls (.int (1 : Int32) :: st) I F R n Q := ev_n rfl
set_option maxRecDepth 20000 in
theorem e167_622 {lay : mL} {d : Nat} {ls st : List Value} {I : mI} {F : mF} {R : mR} {n : Nat} {Q : mP} {x y : Int32} : Ev lay d 167 622 ls (.int y :: .int x :: st) I F R n Q ↔ Ev lay d 167 623 ls (.int (x + y) :: st) I F R n Q := ev_n rfl
set_option maxRecDepth 20000 in
theorem e167_623 {lay : mL} {d : Nat} {ls st : List Value} {I : mI} {F : mF} {R : mR} {n : Nat} {Q : mP} {a : Nat} {i : Int32} : Ev lay d 167 623 ls (.int i :: .ref a :: st) I F R n Q ↔ (m_in lay 0 a i ∧ Ev lay d 167 624 ls (.int (I a i.toNatClampNeg) :: st) I F R n Q) := ev_nc rfl
set_option maxRecDepth 20000 in
theorem e167_624 {lay : mL} {d : Nat} {ls st : List Value} {I : mI} {F : mF} {R : mR} {n : Nat} {Q : mP} {x : Nat} : Ev lay d 167 624 (.ref x :: ls) st I F R n Q ↔ Ev lay d 167 625 (.ref x :: ls) (.ref x :: st) I F R n Q := ev_n rfl
set_option maxRecDepth 20000 in
theorem e167_624N {lay : mL} {d : Nat} {ls st : List Value} {I : mI} {F : mF} {R : mR} {n : Nat} {Q : mP} : Ev lay d 167 624 (.null :: ls) st I F R n Q ↔ Ev lay d 167 625 (.null :: ls) (.null :: st) I F R n Q := ev_n rfl
set_option maxRecDepth 20000 in
theorem e167_625 {lay : mL} {d : Nat} {ls st : List Value} {I : mI} {F : mF} {R : mR} {n : Nat} {Q : mP} {v0 v1 v2 : Value} {x : Int32} : Ev lay d 167 625 (v0 :: v1 :: v2 :: .int x :: ls) st I F R n Q ↔ Ev lay d 167 626 (v0 :: v1 :: v2 :: .int x :: ls) (.int x :: st) I F R n Q := ev_n rfl
set_option maxRecDepth 20000 in
theorem e167_626 {lay : mL} {d : Nat} {ls st : List Value} {I : mI} {F : mF} {R : mR} {n : Nat} {Q : mP} : Ev lay d 167 626 ls st I F R n Q ↔ Ev lay d 167 627 ls (.int (2 : Int32) :: st) I F R n Q := ev_n rfl
set_option maxRecDepth 20000 in
theorem e167_627 {lay : mL} {d : Nat} {ls st : List Value} {I : mI} {F : mF} {R : mR} {n : Nat} {Q : mP} {x y : Int32} : Ev lay d 167 627 ls (.int y :: .int x :: st) I F R n Q ↔ Ev lay d 167 628 ls (.int (x + y) :: st) I F R n Q := ev_n rfl
set_option maxRecDepth 20000 in
theorem e167_628 {lay : mL} {d : Nat} {ls st : List Value} {I : mI} {F : mF} {R : mR} {n : Nat} {Q : mP} {a : Nat} {i : Int32} : Ev lay d 167 628 ls (.int i :: .ref a :: st) I F R n Q ↔ (m_in lay 0 a i ∧ Ev lay d 167 629 ls (.int (I a i.toNatClampNeg) :: st) I F R n Q) := ev_nc rfl
set_option maxRecDepth 20000 in
theorem e167_629 {lay : mL} {d : Nat} {ls st : List Value} {I : mI} {F : mF} {R : mR} {n : Nat} {Q : mP} {a : Nat} {x0 : Int32} {x1 : Int32} : Ev lay d 167 629 ls (.int x1 :: .int x0 :: .ref a :: st) I F R n Q ↔ ((lay a = (14, 0) ∧ (st.length ≤ 4 ∨ (st.map fun v => v.category).sum ≤ 8) ∧ 1 ≤ d) ∧ Ev lay (d - 1) 151 0 [.ref a, .int x0, .int x1, m_j, m_j] [] I F R n (fun v I F R n => Ev lay d 167 632 ls (m_psh v st) I F R n Q)) := ev_c rfl rfl
set_option maxRecDepth 20000 in
theorem e167_632 {lay : mL} {d : Nat} {ls st : List Value} {I : mI} {F : mF} {R : mR} {n : Nat} {Q : mP} {x y : Int32} : Ev lay d 167 632 ls (.int y :: .int x :: st) I F R n Q ↔ (if x = y then Ev lay d 167 801 ls st I F R n Q else Ev lay d 167 635 ls st I F R n Q) := (ev_n rfl).trans (ev_if _)
set_option maxRecDepth 20000 in
theorem e167_635 {lay : mL} {d : Nat} {ls st : List Value} {I : mI} {F : mF} {R : mR} {n : Nat} {Q : mP} : Ev lay d 167 635 ls st I F R n Q ↔ Ev lay d 167 636 ls (.int (0 : Int32) :: st) I F R n Q := ev_n rfl
set_option maxRecDepth 20000 in
theorem e167_636 {lay : mL} {d : Nat} {ls : List Value} {I : mI} {F : mF} {R : mR} {n : Nat} {Q : mP} {x : Int32} : Ev lay d 167 636 ls [.int x] I F R n Q ↔ (narrow .boolean (.int x) = .int x ∧ Q (some (.int x)) I F R n) := ev_rc rfl
set_option maxRecDepth 20000 in
theorem e167_637 {lay : mL} {d : Nat} {ls st : List Value} {I : mI} {F : mF} {R : mR} {n : Nat} {Q : mP} {v0 : Value} {x : Nat} : Ev lay d 167 637 (v0 :: .ref x :: ls) st I F R n Q ↔ Ev lay d 167 638 (v0 :: .ref x :: ls) (.ref x :: st) I F R n Q := ev_n rfl
set_option maxRecDepth 20000 in
theorem e167_637N {lay : mL} {d : Nat} {ls st : List Value} {I : mI} {F : mF} {R : mR} {n : Nat} {Q : mP} {v0 : Value} : Ev lay d 167 637 (v0 :: .null :: ls) st I F R n Q ↔ Ev lay d 167 638 (v0 :: .null :: ls) (.null :: st) I F R n Q := ev_n rfl
set_option maxRecDepth 20000 in
theorem e167_638 {lay : mL} {d : Nat} {ls st : List Value} {I : mI} {F : mF} {R : mR} {n : Nat} {Q : mP} {a : Nat} : Ev lay d 167 638 ls (.ref a :: st) I F R n Q ↔ ((lay a = (13, 0) ∧ (st.length ≤ 4 ∨ (st.map fun v => v.category).sum ≤ 8) ∧ 1 ≤ d) ∧ Ev lay (d - 1) 71 0 [.ref a, m_j, m_j] [] I F R n (fun v I F R n => Ev lay d 167 641 ls (m_psh v st) I F R n Q)) := ev_c rfl rfl
set_option maxRecDepth 20000 in
theorem e167_641 {lay : mL} {d : Nat} {ls st : List Value} {I : mI} {F : mF} {R : mR} {n : Nat} {Q : mP} {v0 v1 : Value} {x : Nat} : Ev lay d 167 641 (v0 :: v1 :: .ref x :: ls) st I F R n Q ↔ Ev lay d 167 642 (v0 :: v1 :: .ref x :: ls) (.ref x :: st) I F R n Q := ev_n rfl
set_option maxRecDepth 20000 in
theorem e167_641N {lay : mL} {d : Nat} {ls st : List Value} {I : mI} {F : mF} {R : mR} {n : Nat} {Q : mP} {v0 v1 : Value} : Ev lay d 167 641 (v0 :: v1 :: .null :: ls) st I F R n Q ↔ Ev lay d 167 642 (v0 :: v1 :: .null :: ls) (.null :: st) I F R n Q := ev_n rfl
set_option maxRecDepth 20000 in
theorem e167_642 {lay : mL} {d : Nat} {ls st : List Value} {I : mI} {F : mF} {R : mR} {n : Nat} {Q : mP} {a : Nat} : Ev lay d 167 642 ls (.ref a :: st) I F R n Q ↔ ((lay a = (14, 0) ∧ (st.length ≤ 4 ∨ (st.map fun v => v.category).sum ≤ 8) ∧ 1 ≤ d) ∧ Ev lay (d - 1) 152 0 [.ref a, m_j, m_j, m_j, m_j] [] I F R n (fun v I F R n => Ev lay d 167 645 ls (m_psh v st) I F R n Q)) := ev_c rfl rfl
set_option maxRecDepth 20000 in
theorem e167_645 {lay : mL} {d : Nat} {ls st : List Value} {I : mI} {F : mF} {R : mR} {n : Nat} {Q : mP} {x y : Int32} : Ev lay d 167 645 ls (.int y :: .int x :: st) I F R n Q ↔ (if x = y then Ev lay d 167 801 ls st I F R n Q else Ev lay d 167 648 ls st I F R n Q) := (ev_n rfl).trans (ev_if _)
set_option maxRecDepth 20000 in
theorem e167_648 {lay : mL} {d : Nat} {ls st : List Value} {I : mI} {F : mF} {R : mR} {n : Nat} {Q : mP} : Ev lay d 167 648 ls st I F R n Q ↔ Ev lay d 167 649 ls (.int (0 : Int32) :: st) I F R n Q := ev_n rfl
set_option maxRecDepth 20000 in
theorem e167_649 {lay : mL} {d : Nat} {ls : List Value} {I : mI} {F : mF} {R : mR} {n : Nat} {Q : mP} {x : Int32} : Ev lay d 167 649 ls [.int x] I F R n Q ↔ (narrow .boolean (.int x) = .int x ∧ Q (some (.int x)) I F R n) := ev_rc rfl
set_option maxRecDepth 20000 in
theorem e167_650 {lay : mL} {d : Nat} {ls st : List Value} {I : mI} {F : mF} {R : mR} {n : Nat} {Q : mP} {v0 : Value} {x : Nat} : Ev lay d 167 650 (v0 :: .ref x :: ls) st I F R n Q ↔ Ev lay d 167 651 (v0 :: .ref x :: ls) (.ref x :: st) I F R n Q := ev_n rfl
set_option maxRecDepth 20000 in
theorem e167_650N {lay : mL} {d : Nat} {ls st : List Value} {I : mI} {F : mF} {R : mR} {n : Nat} {Q : mP} {v0 : Value} : Ev lay d 167 650 (v0 :: .null :: ls) st I F R n Q ↔ Ev lay d 167 651 (v0 :: .null :: ls) (.null :: st) I F R n Q := ev_n rfl
set_option maxRecDepth 20000 in
theorem e167_651 {lay : mL} {d : Nat} {ls st : List Value} {I : mI} {F : mF} {R : mR} {n : Nat} {Q : mP} {x : Nat} : Ev lay d 167 651 (.ref x :: ls) st I F R n Q ↔ Ev lay d 167 652 (.ref x :: ls) (.ref x :: st) I F R n Q := ev_n rfl
set_option maxRecDepth 20000 in
theorem e167_651N {lay : mL} {d : Nat} {ls st : List Value} {I : mI} {F : mF} {R : mR} {n : Nat} {Q : mP} : Ev lay d 167 651 (.null :: ls) st I F R n Q ↔ Ev lay d 167 652 (.null :: ls) (.null :: st) I F R n Q := ev_n rfl
set_option maxRecDepth 20000 in
theorem e167_652 {lay : mL} {d : Nat} {ls st : List Value} {I : mI} {F : mF} {R : mR} {n : Nat} {Q : mP} {v0 v1 v2 : Value} {x : Int32} : Ev lay d 167 652 (v0 :: v1 :: v2 :: .int x :: ls) st I F R n Q ↔ Ev lay d 167 653 (v0 :: v1 :: v2 :: .int x :: ls) (.int x :: st) I F R n Q := ev_n rfl
set_option maxRecDepth 20000 in
theorem e167_653 {lay : mL} {d : Nat} {ls st : List Value} {I : mI} {F : mF} {R : mR} {n : Nat} {Q : mP} : Ev lay d 167 653 ls st I F R n Q ↔ Ev lay d 167 654 ls (.int (1 : Int32) :: st) I F R n Q := ev_n rfl
set_option maxRecDepth 20000 in
theorem e167_654 {lay : mL} {d : Nat} {ls st : List Value} {I : mI} {F : mF} {R : mR} {n : Nat} {Q : mP} {x y : Int32} : Ev lay d 167 654 ls (.int y :: .int x :: st) I F R n Q ↔ Ev lay d 167 655 ls (.int (x + y) :: st) I F R n Q := ev_n rfl
set_option maxRecDepth 20000 in
theorem e167_655 {lay : mL} {d : Nat} {ls st : List Value} {I : mI} {F : mF} {R : mR} {n : Nat} {Q : mP} {a : Nat} {i : Int32} : Ev lay d 167 655 ls (.int i :: .ref a :: st) I F R n Q ↔ (m_in lay 0 a i ∧ Ev lay d 167 656 ls (.int (I a i.toNatClampNeg) :: st) I F R n Q) := ev_nc rfl
set_option maxRecDepth 20000 in
theorem e167_656 {lay : mL} {d : Nat} {ls st : List Value} {I : mI} {F : mF} {R : mR} {n : Nat} {Q : mP} {x : Int32} : Ev lay d 167 656 ls (.int x :: st) I F R n Q ↔ Ev lay d 167 657 ls (.long x.toInt64 :: st) I F R n Q := ev_n rfl
set_option maxRecDepth 20000 in
theorem e167_657 {lay : mL} {d : Nat} {ls st : List Value} {I : mI} {F : mF} {R : mR} {n : Nat} {Q : mP} : Ev lay d 167 657 ls st I F R n Q ↔ Ev lay d 167 659 ls (.int (32 : Int32) :: st) I F R n Q := ev_n rfl
set_option maxRecDepth 20000 in
theorem e167_659 {lay : mL} {d : Nat} {ls st : List Value} {I : mI} {F : mF} {R : mR} {n : Nat} {Q : mP} {x : Int64} {y : Int32} : Ev lay d 167 659 ls (.int y :: .long x :: st) I F R n Q ↔ Ev lay d 167 660 ls (.long (x <<< (y.toInt64 &&& 63)) :: st) I F R n Q := ev_n rfl
set_option maxRecDepth 20000 in
theorem e167_660 {lay : mL} {d : Nat} {ls st : List Value} {I : mI} {F : mF} {R : mR} {n : Nat} {Q : mP} {x : Nat} : Ev lay d 167 660 (.ref x :: ls) st I F R n Q ↔ Ev lay d 167 661 (.ref x :: ls) (.ref x :: st) I F R n Q := ev_n rfl
set_option maxRecDepth 20000 in
theorem e167_660N {lay : mL} {d : Nat} {ls st : List Value} {I : mI} {F : mF} {R : mR} {n : Nat} {Q : mP} : Ev lay d 167 660 (.null :: ls) st I F R n Q ↔ Ev lay d 167 661 (.null :: ls) (.null :: st) I F R n Q := ev_n rfl
set_option maxRecDepth 20000 in
theorem e167_661 {lay : mL} {d : Nat} {ls st : List Value} {I : mI} {F : mF} {R : mR} {n : Nat} {Q : mP} {v0 v1 v2 : Value} {x : Int32} : Ev lay d 167 661 (v0 :: v1 :: v2 :: .int x :: ls) st I F R n Q ↔ Ev lay d 167 662 (v0 :: v1 :: v2 :: .int x :: ls) (.int x :: st) I F R n Q := ev_n rfl
set_option maxRecDepth 20000 in
theorem e167_662 {lay : mL} {d : Nat} {ls st : List Value} {I : mI} {F : mF} {R : mR} {n : Nat} {Q : mP} : Ev lay d 167 662 ls st I F R n Q ↔ Ev lay d 167 663 ls (.int (2 : Int32) :: st) I F R n Q := ev_n rfl
set_option maxRecDepth 20000 in
theorem e167_663 {lay : mL} {d : Nat} {ls st : List Value} {I : mI} {F : mF} {R : mR} {n : Nat} {Q : mP} {x y : Int32} : Ev lay d 167 663 ls (.int y :: .int x :: st) I F R n Q ↔ Ev lay d 167 664 ls (.int (x + y) :: st) I F R n Q := ev_n rfl
set_option maxRecDepth 20000 in
theorem e167_664 {lay : mL} {d : Nat} {ls st : List Value} {I : mI} {F : mF} {R : mR} {n : Nat} {Q : mP} {a : Nat} {i : Int32} : Ev lay d 167 664 ls (.int i :: .ref a :: st) I F R n Q ↔ (m_in lay 0 a i ∧ Ev lay d 167 665 ls (.int (I a i.toNatClampNeg) :: st) I F R n Q) := ev_nc rfl
set_option maxRecDepth 20000 in
theorem e167_665 {lay : mL} {d : Nat} {ls st : List Value} {I : mI} {F : mF} {R : mR} {n : Nat} {Q : mP} {x : Int32} : Ev lay d 167 665 ls (.int x :: st) I F R n Q ↔ Ev lay d 167 666 ls (.long x.toInt64 :: st) I F R n Q := ev_n rfl
set_option maxRecDepth 20000 in
theorem e167_666 {lay : mL} {d : Nat} {ls st : List Value} {I : mI} {F : mF} {R : mR} {n : Nat} {Q : mP} : Ev lay d 167 666 ls st I F R n Q ↔ Ev lay d 167 669 ls (.long 4294967295 :: st) I F R n Q := ev_n rfl
set_option maxRecDepth 20000 in
theorem e167_669 {lay : mL} {d : Nat} {ls st : List Value} {I : mI} {F : mF} {R : mR} {n : Nat} {Q : mP} {x y : Int64} : Ev lay d 167 669 ls (.long y :: .long x :: st) I F R n Q ↔ Ev lay d 167 670 ls (.long (x &&& y) :: st) I F R n Q := ev_n rfl
set_option maxRecDepth 20000 in
theorem e167_670 {lay : mL} {d : Nat} {ls st : List Value} {I : mI} {F : mF} {R : mR} {n : Nat} {Q : mP} {x y : Int64} : Ev lay d 167 670 ls (.long y :: .long x :: st) I F R n Q ↔ Ev lay d 167 671 ls (.long (x ||| y) :: st) I F R n Q := ev_n rfl
set_option maxRecDepth 20000 in
theorem e167_671 {lay : mL} {d : Nat} {ls st : List Value} {I : mI} {F : mF} {R : mR} {n : Nat} {Q : mP} {a : Nat} {x0 : Int64} : Ev lay d 167 671 ls (.long x0 :: .ref a :: st) I F R n Q ↔ ((lay a = (13, 0) ∧ (st.length ≤ 4 ∨ (st.map fun v => v.category).sum ≤ 8) ∧ 1 ≤ d) ∧ Ev lay (d - 1) 73 0 [.ref a, .long x0, m_j] [] I F R n (fun v I F R n => Ev lay d 167 674 ls (m_psh v st) I F R n Q)) := ev_c rfl rfl
set_option maxRecDepth 20000 in
theorem e167_674 {lay : mL} {d : Nat} {ls st : List Value} {I : mI} {F : mF} {R : mR} {n : Nat} {Q : mP} {v0 v1 : Value} {x : Nat} : Ev lay d 167 674 (v0 :: v1 :: .ref x :: ls) st I F R n Q ↔ Ev lay d 167 675 (v0 :: v1 :: .ref x :: ls) (.ref x :: st) I F R n Q := ev_n rfl
set_option maxRecDepth 20000 in
theorem e167_674N {lay : mL} {d : Nat} {ls st : List Value} {I : mI} {F : mF} {R : mR} {n : Nat} {Q : mP} {v0 v1 : Value} : Ev lay d 167 674 (v0 :: v1 :: .null :: ls) st I F R n Q ↔ Ev lay d 167 675 (v0 :: v1 :: .null :: ls) (.null :: st) I F R n Q := ev_n rfl
set_option maxRecDepth 20000 in
theorem e167_675 {lay : mL} {d : Nat} {ls st : List Value} {I : mI} {F : mF} {R : mR} {n : Nat} {Q : mP} {x : Nat} : Ev lay d 167 675 (.ref x :: ls) st I F R n Q ↔ Ev lay d 167 676 (.ref x :: ls) (.ref x :: st) I F R n Q := ev_n rfl
set_option maxRecDepth 20000 in
theorem e167_675N {lay : mL} {d : Nat} {ls st : List Value} {I : mI} {F : mF} {R : mR} {n : Nat} {Q : mP} : Ev lay d 167 675 (.null :: ls) st I F R n Q ↔ Ev lay d 167 676 (.null :: ls) (.null :: st) I F R n Q := ev_n rfl
set_option maxRecDepth 20000 in
theorem e167_676 {lay : mL} {d : Nat} {ls st : List Value} {I : mI} {F : mF} {R : mR} {n : Nat} {Q : mP} {v0 v1 v2 : Value} {x : Int32} : Ev lay d 167 676 (v0 :: v1 :: v2 :: .int x :: ls) st I F R n Q ↔ Ev lay d 167 677 (v0 :: v1 :: v2 :: .int x :: ls) (.int x :: st) I F R n Q := ev_n rfl
set_option maxRecDepth 20000 in
theorem e167_677 {lay : mL} {d : Nat} {ls st : List Value} {I : mI} {F : mF} {R : mR} {n : Nat} {Q : mP} : Ev lay d 167 677 ls st I F R n Q ↔ Ev lay d 167 678 ls (.int (1 : Int32) :: st) I F R n Q := ev_n rfl
set_option maxRecDepth 20000 in
theorem e167_678 {lay : mL} {d : Nat} {ls st : List Value} {I : mI} {F : mF} {R : mR} {n : Nat} {Q : mP} {x y : Int32} : Ev lay d 167 678 ls (.int y :: .int x :: st) I F R n Q ↔ Ev lay d 167 679 ls (.int (x + y) :: st) I F R n Q := ev_n rfl
set_option maxRecDepth 20000 in
theorem e167_679 {lay : mL} {d : Nat} {ls st : List Value} {I : mI} {F : mF} {R : mR} {n : Nat} {Q : mP} {a : Nat} {i : Int32} : Ev lay d 167 679 ls (.int i :: .ref a :: st) I F R n Q ↔ (m_in lay 0 a i ∧ Ev lay d 167 680 ls (.int (I a i.toNatClampNeg) :: st) I F R n Q) := ev_nc rfl
set_option maxRecDepth 20000 in
theorem e167_680 {lay : mL} {d : Nat} {ls st : List Value} {I : mI} {F : mF} {R : mR} {n : Nat} {Q : mP} {x : Int32} : Ev lay d 167 680 ls (.int x :: st) I F R n Q ↔ Ev lay d 167 681 ls (.long x.toInt64 :: st) I F R n Q := ev_n rfl
set_option maxRecDepth 20000 in
theorem e167_681 {lay : mL} {d : Nat} {ls st : List Value} {I : mI} {F : mF} {R : mR} {n : Nat} {Q : mP} : Ev lay d 167 681 ls st I F R n Q ↔ Ev lay d 167 683 ls (.int (32 : Int32) :: st) I F R n Q := ev_n rfl
set_option maxRecDepth 20000 in
theorem e167_683 {lay : mL} {d : Nat} {ls st : List Value} {I : mI} {F : mF} {R : mR} {n : Nat} {Q : mP} {x : Int64} {y : Int32} : Ev lay d 167 683 ls (.int y :: .long x :: st) I F R n Q ↔ Ev lay d 167 684 ls (.long (x <<< (y.toInt64 &&& 63)) :: st) I F R n Q := ev_n rfl
set_option maxRecDepth 20000 in
theorem e167_684 {lay : mL} {d : Nat} {ls st : List Value} {I : mI} {F : mF} {R : mR} {n : Nat} {Q : mP} {x : Nat} : Ev lay d 167 684 (.ref x :: ls) st I F R n Q ↔ Ev lay d 167 685 (.ref x :: ls) (.ref x :: st) I F R n Q := ev_n rfl
set_option maxRecDepth 20000 in
theorem e167_684N {lay : mL} {d : Nat} {ls st : List Value} {I : mI} {F : mF} {R : mR} {n : Nat} {Q : mP} : Ev lay d 167 684 (.null :: ls) st I F R n Q ↔ Ev lay d 167 685 (.null :: ls) (.null :: st) I F R n Q := ev_n rfl
set_option maxRecDepth 20000 in
theorem e167_685 {lay : mL} {d : Nat} {ls st : List Value} {I : mI} {F : mF} {R : mR} {n : Nat} {Q : mP} {v0 v1 v2 : Value} {x : Int32} : Ev lay d 167 685 (v0 :: v1 :: v2 :: .int x :: ls) st I F R n Q ↔ Ev lay d 167 686 (v0 :: v1 :: v2 :: .int x :: ls) (.int x :: st) I F R n Q := ev_n rfl
set_option maxRecDepth 20000 in
theorem e167_686 {lay : mL} {d : Nat} {ls st : List Value} {I : mI} {F : mF} {R : mR} {n : Nat} {Q : mP} : Ev lay d 167 686 ls st I F R n Q ↔ Ev lay d 167 687 ls (.int (2 : Int32) :: st) I F R n Q := ev_n rfl
set_option maxRecDepth 20000 in
theorem e167_687 {lay : mL} {d : Nat} {ls st : List Value} {I : mI} {F : mF} {R : mR} {n : Nat} {Q : mP} {x y : Int32} : Ev lay d 167 687 ls (.int y :: .int x :: st) I F R n Q ↔ Ev lay d 167 688 ls (.int (x + y) :: st) I F R n Q := ev_n rfl
set_option maxRecDepth 20000 in
theorem e167_688 {lay : mL} {d : Nat} {ls st : List Value} {I : mI} {F : mF} {R : mR} {n : Nat} {Q : mP} {a : Nat} {i : Int32} : Ev lay d 167 688 ls (.int i :: .ref a :: st) I F R n Q ↔ (m_in lay 0 a i ∧ Ev lay d 167 689 ls (.int (I a i.toNatClampNeg) :: st) I F R n Q) := ev_nc rfl
set_option maxRecDepth 20000 in
theorem e167_689 {lay : mL} {d : Nat} {ls st : List Value} {I : mI} {F : mF} {R : mR} {n : Nat} {Q : mP} {x : Int32} : Ev lay d 167 689 ls (.int x :: st) I F R n Q ↔ Ev lay d 167 690 ls (.long x.toInt64 :: st) I F R n Q := ev_n rfl
set_option maxRecDepth 20000 in
theorem e167_690 {lay : mL} {d : Nat} {ls st : List Value} {I : mI} {F : mF} {R : mR} {n : Nat} {Q : mP} : Ev lay d 167 690 ls st I F R n Q ↔ Ev lay d 167 693 ls (.long 4294967295 :: st) I F R n Q := ev_n rfl
set_option maxRecDepth 20000 in
theorem e167_693 {lay : mL} {d : Nat} {ls st : List Value} {I : mI} {F : mF} {R : mR} {n : Nat} {Q : mP} {x y : Int64} : Ev lay d 167 693 ls (.long y :: .long x :: st) I F R n Q ↔ Ev lay d 167 694 ls (.long (x &&& y) :: st) I F R n Q := ev_n rfl
set_option maxRecDepth 20000 in
theorem e167_694 {lay : mL} {d : Nat} {ls st : List Value} {I : mI} {F : mF} {R : mR} {n : Nat} {Q : mP} {x y : Int64} : Ev lay d 167 694 ls (.long y :: .long x :: st) I F R n Q ↔ Ev lay d 167 695 ls (.long (x ||| y) :: st) I F R n Q := ev_n rfl
set_option maxRecDepth 20000 in
theorem e167_695 {lay : mL} {d : Nat} {ls st : List Value} {I : mI} {F : mF} {R : mR} {n : Nat} {Q : mP} {a : Nat} {x0 : Int64} : Ev lay d 167 695 ls (.long x0 :: .ref a :: st) I F R n Q ↔ ((lay a = (14, 0) ∧ (st.length ≤ 4 ∨ (st.map fun v => v.category).sum ≤ 8) ∧ 1 ≤ d) ∧ Ev lay (d - 1) 153 0 [.ref a, .long x0, m_j, m_j, m_j, m_j, m_j, m_j] [] I F R n (fun v I F R n => Ev lay d 167 698 ls (m_psh v st) I F R n Q)) := ev_c rfl rfl
set_option maxRecDepth 20000 in
theorem e167_698 {lay : mL} {d : Nat} {ls st : List Value} {I : mI} {F : mF} {R : mR} {n : Nat} {Q : mP} {x y : Int32} : Ev lay d 167 698 ls (.int y :: .int x :: st) I F R n Q ↔ (if x = y then Ev lay d 167 801 ls st I F R n Q else Ev lay d 167 701 ls st I F R n Q) := (ev_n rfl).trans (ev_if _)
set_option maxRecDepth 20000 in
theorem e167_701 {lay : mL} {d : Nat} {ls st : List Value} {I : mI} {F : mF} {R : mR} {n : Nat} {Q : mP} : Ev lay d 167 701 ls st I F R n Q ↔ Ev lay d 167 702 ls (.int (0 : Int32) :: st) I F R n Q := ev_n rfl
set_option maxRecDepth 20000 in
theorem e167_702 {lay : mL} {d : Nat} {ls : List Value} {I : mI} {F : mF} {R : mR} {n : Nat} {Q : mP} {x : Int32} : Ev lay d 167 702 ls [.int x] I F R n Q ↔ (narrow .boolean (.int x) = .int x ∧ Q (some (.int x)) I F R n) := ev_rc rfl
set_option maxRecDepth 20000 in
theorem e167_703 {lay : mL} {d : Nat} {ls st : List Value} {I : mI} {F : mF} {R : mR} {n : Nat} {Q : mP} {v0 : Value} {x : Nat} : Ev lay d 167 703 (v0 :: .ref x :: ls) st I F R n Q ↔ Ev lay d 167 704 (v0 :: .ref x :: ls) (.ref x :: st) I F R n Q := ev_n rfl
set_option maxRecDepth 20000 in
theorem e167_703N {lay : mL} {d : Nat} {ls st : List Value} {I : mI} {F : mF} {R : mR} {n : Nat} {Q : mP} {v0 : Value} : Ev lay d 167 703 (v0 :: .null :: ls) st I F R n Q ↔ Ev lay d 167 704 (v0 :: .null :: ls) (.null :: st) I F R n Q := ev_n rfl
set_option maxRecDepth 20000 in
theorem e167_704 {lay : mL} {d : Nat} {ls st : List Value} {I : mI} {F : mF} {R : mR} {n : Nat} {Q : mP} {a : Nat} : Ev lay d 167 704 ls (.ref a :: st) I F R n Q ↔ ((lay a = (13, 0) ∧ (st.length ≤ 4 ∨ (st.map fun v => v.category).sum ≤ 8) ∧ 1 ≤ d) ∧ Ev lay (d - 1) 75 0 [.ref a] [] I F R n (fun v I F R n => Ev lay d 167 707 ls (m_psh v st) I F R n Q)) := ev_c rfl rfl
set_option maxRecDepth 20000 in
theorem e167_707 {lay : mL} {d : Nat} {ls st : List Value} {I : mI} {F : mF} {R : mR} {n : Nat} {Q : mP} {v0 v1 : Value} {x : Nat} : Ev lay d 167 707 (v0 :: v1 :: .ref x :: ls) st I F R n Q ↔ Ev lay d 167 708 (v0 :: v1 :: .ref x :: ls) (.ref x :: st) I F R n Q := ev_n rfl
set_option maxRecDepth 20000 in
theorem e167_707N {lay : mL} {d : Nat} {ls st : List Value} {I : mI} {F : mF} {R : mR} {n : Nat} {Q : mP} {v0 v1 : Value} : Ev lay d 167 707 (v0 :: v1 :: .null :: ls) st I F R n Q ↔ Ev lay d 167 708 (v0 :: v1 :: .null :: ls) (.null :: st) I F R n Q := ev_n rfl
set_option maxRecDepth 20000 in
theorem e167_708 {lay : mL} {d : Nat} {ls st : List Value} {I : mI} {F : mF} {R : mR} {n : Nat} {Q : mP} {a : Nat} : Ev lay d 167 708 ls (.ref a :: st) I F R n Q ↔ ((lay a = (14, 0) ∧ (st.length ≤ 4 ∨ (st.map fun v => v.category).sum ≤ 8) ∧ 1 ≤ d) ∧ Ev lay (d - 1) 154 0 [.ref a, m_j] [] I F R n (fun v I F R n => Ev lay d 167 711 ls (m_psh v st) I F R n Q)) := ev_c rfl rfl
set_option maxRecDepth 20000 in
theorem e167_711 {lay : mL} {d : Nat} {ls st : List Value} {I : mI} {F : mF} {R : mR} {n : Nat} {Q : mP} {x y : Int32} : Ev lay d 167 711 ls (.int y :: .int x :: st) I F R n Q ↔ (if x = y then Ev lay d 167 801 ls st I F R n Q else Ev lay d 167 714 ls st I F R n Q) := (ev_n rfl).trans (ev_if _)
set_option maxRecDepth 20000 in
theorem e167_714 {lay : mL} {d : Nat} {ls st : List Value} {I : mI} {F : mF} {R : mR} {n : Nat} {Q : mP} : Ev lay d 167 714 ls st I F R n Q ↔ Ev lay d 167 715 ls (.int (0 : Int32) :: st) I F R n Q := ev_n rfl
set_option maxRecDepth 20000 in
theorem e167_715 {lay : mL} {d : Nat} {ls : List Value} {I : mI} {F : mF} {R : mR} {n : Nat} {Q : mP} {x : Int32} : Ev lay d 167 715 ls [.int x] I F R n Q ↔ (narrow .boolean (.int x) = .int x ∧ Q (some (.int x)) I F R n) := ev_rc rfl
set_option maxRecDepth 20000 in
theorem e167_716 {lay : mL} {d : Nat} {ls st : List Value} {I : mI} {F : mF} {R : mR} {n : Nat} {Q : mP} {v0 : Value} {x : Nat} : Ev lay d 167 716 (v0 :: .ref x :: ls) st I F R n Q ↔ Ev lay d 167 717 (v0 :: .ref x :: ls) (.ref x :: st) I F R n Q := ev_n rfl
set_option maxRecDepth 20000 in
theorem e167_716N {lay : mL} {d : Nat} {ls st : List Value} {I : mI} {F : mF} {R : mR} {n : Nat} {Q : mP} {v0 : Value} : Ev lay d 167 716 (v0 :: .null :: ls) st I F R n Q ↔ Ev lay d 167 717 (v0 :: .null :: ls) (.null :: st) I F R n Q := ev_n rfl
set_option maxRecDepth 20000 in
theorem e167_717 {lay : mL} {d : Nat} {ls st : List Value} {I : mI} {F : mF} {R : mR} {n : Nat} {Q : mP} {a : Nat} : Ev lay d 167 717 ls (.ref a :: st) I F R n Q ↔ ((lay a = (13, 0) ∧ (st.length ≤ 4 ∨ (st.map fun v => v.category).sum ≤ 8) ∧ 1 ≤ d) ∧ Ev lay (d - 1) 77 0 [.ref a] [] I F R n (fun v I F R n => Ev lay d 167 720 ls (m_psh v st) I F R n Q)) := ev_c rfl rfl
set_option maxRecDepth 20000 in
theorem e167_720 {lay : mL} {d : Nat} {ls st : List Value} {I : mI} {F : mF} {R : mR} {n : Nat} {Q : mP} {v0 v1 : Value} {x : Nat} : Ev lay d 167 720 (v0 :: v1 :: .ref x :: ls) st I F R n Q ↔ Ev lay d 167 721 (v0 :: v1 :: .ref x :: ls) (.ref x :: st) I F R n Q := ev_n rfl
set_option maxRecDepth 20000 in
theorem e167_720N {lay : mL} {d : Nat} {ls st : List Value} {I : mI} {F : mF} {R : mR} {n : Nat} {Q : mP} {v0 v1 : Value} : Ev lay d 167 720 (v0 :: v1 :: .null :: ls) st I F R n Q ↔ Ev lay d 167 721 (v0 :: v1 :: .null :: ls) (.null :: st) I F R n Q := ev_n rfl
set_option maxRecDepth 20000 in
theorem e167_721 {lay : mL} {d : Nat} {ls st : List Value} {I : mI} {F : mF} {R : mR} {n : Nat} {Q : mP} {a : Nat} : Ev lay d 167 721 ls (.ref a :: st) I F R n Q ↔ ((lay a = (14, 0) ∧ (st.length ≤ 4 ∨ (st.map fun v => v.category).sum ≤ 8) ∧ 1 ≤ d) ∧ Ev lay (d - 1) 155 0 [.ref a, m_j] [] I F R n (fun v I F R n => Ev lay d 167 724 ls (m_psh v st) I F R n Q)) := ev_c rfl rfl
set_option maxRecDepth 20000 in
theorem e167_724 {lay : mL} {d : Nat} {ls st : List Value} {I : mI} {F : mF} {R : mR} {n : Nat} {Q : mP} {x y : Int32} : Ev lay d 167 724 ls (.int y :: .int x :: st) I F R n Q ↔ (if x = y then Ev lay d 167 801 ls st I F R n Q else Ev lay d 167 727 ls st I F R n Q) := (ev_n rfl).trans (ev_if _)
set_option maxRecDepth 20000 in
theorem e167_727 {lay : mL} {d : Nat} {ls st : List Value} {I : mI} {F : mF} {R : mR} {n : Nat} {Q : mP} : Ev lay d 167 727 ls st I F R n Q ↔ Ev lay d 167 728 ls (.int (0 : Int32) :: st) I F R n Q := ev_n rfl
set_option maxRecDepth 20000 in
theorem e167_728 {lay : mL} {d : Nat} {ls : List Value} {I : mI} {F : mF} {R : mR} {n : Nat} {Q : mP} {x : Int32} : Ev lay d 167 728 ls [.int x] I F R n Q ↔ (narrow .boolean (.int x) = .int x ∧ Q (some (.int x)) I F R n) := ev_rc rfl
set_option maxRecDepth 20000 in
theorem e167_729 {lay : mL} {d : Nat} {ls st : List Value} {I : mI} {F : mF} {R : mR} {n : Nat} {Q : mP} {v0 : Value} {x : Nat} : Ev lay d 167 729 (v0 :: .ref x :: ls) st I F R n Q ↔ Ev lay d 167 730 (v0 :: .ref x :: ls) (.ref x :: st) I F R n Q := ev_n rfl
set_option maxRecDepth 20000 in
theorem e167_729N {lay : mL} {d : Nat} {ls st : List Value} {I : mI} {F : mF} {R : mR} {n : Nat} {Q : mP} {v0 : Value} : Ev lay d 167 729 (v0 :: .null :: ls) st I F R n Q ↔ Ev lay d 167 730 (v0 :: .null :: ls) (.null :: st) I F R n Q := ev_n rfl
set_option maxRecDepth 20000 in
theorem e167_730 {lay : mL} {d : Nat} {ls st : List Value} {I : mI} {F : mF} {R : mR} {n : Nat} {Q : mP} {a : Nat} : Ev lay d 167 730 ls (.ref a :: st) I F R n Q ↔ ((lay a = (13, 0) ∧ (st.length ≤ 4 ∨ (st.map fun v => v.category).sum ≤ 8) ∧ 1 ≤ d) ∧ Ev lay (d - 1) 85 0 [.ref a, m_j, m_j] [] I F R n (fun v I F R n => Ev lay d 167 733 ls (m_psh v st) I F R n Q)) := ev_c rfl rfl
set_option maxRecDepth 20000 in
theorem e167_733 {lay : mL} {d : Nat} {ls st : List Value} {I : mI} {F : mF} {R : mR} {n : Nat} {Q : mP} {v0 v1 : Value} {x : Nat} : Ev lay d 167 733 (v0 :: v1 :: .ref x :: ls) st I F R n Q ↔ Ev lay d 167 734 (v0 :: v1 :: .ref x :: ls) (.ref x :: st) I F R n Q := ev_n rfl
set_option maxRecDepth 20000 in
theorem e167_733N {lay : mL} {d : Nat} {ls st : List Value} {I : mI} {F : mF} {R : mR} {n : Nat} {Q : mP} {v0 v1 : Value} : Ev lay d 167 733 (v0 :: v1 :: .null :: ls) st I F R n Q ↔ Ev lay d 167 734 (v0 :: v1 :: .null :: ls) (.null :: st) I F R n Q := ev_n rfl
set_option maxRecDepth 20000 in
theorem e167_734 {lay : mL} {d : Nat} {ls st : List Value} {I : mI} {F : mF} {R : mR} {n : Nat} {Q : mP} {a : Nat} : Ev lay d 167 734 ls (.ref a :: st) I F R n Q ↔ ((lay a = (14, 0) ∧ (st.length ≤ 4 ∨ (st.map fun v => v.category).sum ≤ 8) ∧ 1 ≤ d) ∧ Ev lay (d - 1) 163 0 [.ref a, m_j] [] I F R n (fun v I F R n => Ev lay d 167 737 ls (m_psh v st) I F R n Q)) := ev_c rfl rfl
set_option maxRecDepth 20000 in
theorem e167_737 {lay : mL} {d : Nat} {ls st : List Value} {I : mI} {F : mF} {R : mR} {n : Nat} {Q : mP} {x y : Int32} : Ev lay d 167 737 ls (.int y :: .int x :: st) I F R n Q ↔ (if x = y then Ev lay d 167 801 ls st I F R n Q else Ev lay d 167 740 ls st I F R n Q) := (ev_n rfl).trans (ev_if _)
set_option maxRecDepth 20000 in
theorem e167_740 {lay : mL} {d : Nat} {ls st : List Value} {I : mI} {F : mF} {R : mR} {n : Nat} {Q : mP} : Ev lay d 167 740 ls st I F R n Q ↔ Ev lay d 167 741 ls (.int (0 : Int32) :: st) I F R n Q := ev_n rfl
set_option maxRecDepth 20000 in
theorem e167_741 {lay : mL} {d : Nat} {ls : List Value} {I : mI} {F : mF} {R : mR} {n : Nat} {Q : mP} {x : Int32} : Ev lay d 167 741 ls [.int x] I F R n Q ↔ (narrow .boolean (.int x) = .int x ∧ Q (some (.int x)) I F R n) := ev_rc rfl
set_option maxRecDepth 20000 in
theorem e167_742 {lay : mL} {d : Nat} {ls st : List Value} {I : mI} {F : mF} {R : mR} {n : Nat} {Q : mP} {v0 : Value} {x : Nat} : Ev lay d 167 742 (v0 :: .ref x :: ls) st I F R n Q ↔ Ev lay d 167 743 (v0 :: .ref x :: ls) (.ref x :: st) I F R n Q := ev_n rfl
set_option maxRecDepth 20000 in
theorem e167_742N {lay : mL} {d : Nat} {ls st : List Value} {I : mI} {F : mF} {R : mR} {n : Nat} {Q : mP} {v0 : Value} : Ev lay d 167 742 (v0 :: .null :: ls) st I F R n Q ↔ Ev lay d 167 743 (v0 :: .null :: ls) (.null :: st) I F R n Q := ev_n rfl
set_option maxRecDepth 20000 in
theorem e167_743 {lay : mL} {d : Nat} {ls st : List Value} {I : mI} {F : mF} {R : mR} {n : Nat} {Q : mP} {a : Nat} : Ev lay d 167 743 ls (.ref a :: st) I F R n Q ↔ ((lay a = (13, 0) ∧ (st.length ≤ 4 ∨ (st.map fun v => v.category).sum ≤ 8) ∧ 1 ≤ d) ∧ Ev lay (d - 1) 92 0 [.ref a] [] I F R n (fun v I F R n => Ev lay d 167 746 ls (m_psh v st) I F R n Q)) := ev_c rfl rfl
set_option maxRecDepth 20000 in
theorem e167_746 {lay : mL} {d : Nat} {ls st : List Value} {I : mI} {F : mF} {R : mR} {n : Nat} {Q : mP} {v0 v1 : Value} {x : Nat} : Ev lay d 167 746 (v0 :: v1 :: .ref x :: ls) st I F R n Q ↔ Ev lay d 167 747 (v0 :: v1 :: .ref x :: ls) (.ref x :: st) I F R n Q := ev_n rfl
set_option maxRecDepth 20000 in
theorem e167_746N {lay : mL} {d : Nat} {ls st : List Value} {I : mI} {F : mF} {R : mR} {n : Nat} {Q : mP} {v0 v1 : Value} : Ev lay d 167 746 (v0 :: v1 :: .null :: ls) st I F R n Q ↔ Ev lay d 167 747 (v0 :: v1 :: .null :: ls) (.null :: st) I F R n Q := ev_n rfl
set_option maxRecDepth 20000 in
theorem e167_747 {lay : mL} {d : Nat} {ls st : List Value} {I : mI} {F : mF} {R : mR} {n : Nat} {Q : mP} {a : Nat} : Ev lay d 167 747 ls (.ref a :: st) I F R n Q ↔ ((lay a = (14, 0) ∧ (st.length ≤ 4 ∨ (st.map fun v => v.category).sum ≤ 8) ∧ 1 ≤ d) ∧ Ev lay (d - 1) 164 0 [.ref a, m_j] [] I F R n (fun v I F R n => Ev lay d 167 750 ls (m_psh v st) I F R n Q)) := ev_c rfl rfl
set_option maxRecDepth 20000 in
theorem e167_750 {lay : mL} {d : Nat} {ls st : List Value} {I : mI} {F : mF} {R : mR} {n : Nat} {Q : mP} {x y : Int32} : Ev lay d 167 750 ls (.int y :: .int x :: st) I F R n Q ↔ (if x = y then Ev lay d 167 801 ls st I F R n Q else Ev lay d 167 753 ls st I F R n Q) := (ev_n rfl).trans (ev_if _)
set_option maxRecDepth 20000 in
theorem e167_753 {lay : mL} {d : Nat} {ls st : List Value} {I : mI} {F : mF} {R : mR} {n : Nat} {Q : mP} : Ev lay d 167 753 ls st I F R n Q ↔ Ev lay d 167 754 ls (.int (0 : Int32) :: st) I F R n Q := ev_n rfl
set_option maxRecDepth 20000 in
theorem e167_754 {lay : mL} {d : Nat} {ls : List Value} {I : mI} {F : mF} {R : mR} {n : Nat} {Q : mP} {x : Int32} : Ev lay d 167 754 ls [.int x] I F R n Q ↔ (narrow .boolean (.int x) = .int x ∧ Q (some (.int x)) I F R n) := ev_rc rfl
set_option maxRecDepth 20000 in
theorem e167_755 {lay : mL} {d : Nat} {ls st : List Value} {I : mI} {F : mF} {R : mR} {n : Nat} {Q : mP} {v0 : Value} {x : Nat} : Ev lay d 167 755 (v0 :: .ref x :: ls) st I F R n Q ↔ Ev lay d 167 756 (v0 :: .ref x :: ls) (.ref x :: st) I F R n Q := ev_n rfl
set_option maxRecDepth 20000 in
theorem e167_755N {lay : mL} {d : Nat} {ls st : List Value} {I : mI} {F : mF} {R : mR} {n : Nat} {Q : mP} {v0 : Value} : Ev lay d 167 755 (v0 :: .null :: ls) st I F R n Q ↔ Ev lay d 167 756 (v0 :: .null :: ls) (.null :: st) I F R n Q := ev_n rfl
set_option maxRecDepth 20000 in
theorem e167_756 {lay : mL} {d : Nat} {ls st : List Value} {I : mI} {F : mF} {R : mR} {n : Nat} {Q : mP} {x : Nat} : Ev lay d 167 756 (.ref x :: ls) st I F R n Q ↔ Ev lay d 167 757 (.ref x :: ls) (.ref x :: st) I F R n Q := ev_n rfl
set_option maxRecDepth 20000 in
theorem e167_756N {lay : mL} {d : Nat} {ls st : List Value} {I : mI} {F : mF} {R : mR} {n : Nat} {Q : mP} : Ev lay d 167 756 (.null :: ls) st I F R n Q ↔ Ev lay d 167 757 (.null :: ls) (.null :: st) I F R n Q := ev_n rfl
set_option maxRecDepth 20000 in
theorem e167_757 {lay : mL} {d : Nat} {ls st : List Value} {I : mI} {F : mF} {R : mR} {n : Nat} {Q : mP} {v0 v1 v2 : Value} {x : Int32} : Ev lay d 167 757 (v0 :: v1 :: v2 :: .int x :: ls) st I F R n Q ↔ Ev lay d 167 758 (v0 :: v1 :: v2 :: .int x :: ls) (.int x :: st) I F R n Q := ev_n rfl
set_option maxRecDepth 20000 in
theorem e167_758 {lay : mL} {d : Nat} {ls st : List Value} {I : mI} {F : mF} {R : mR} {n : Nat} {Q : mP} : Ev lay d 167 758 ls st I F R n Q ↔ Ev lay d 167 759 ls (.int (1 : Int32) :: st) I F R n Q := ev_n rfl
set_option maxRecDepth 20000 in
theorem e167_759 {lay : mL} {d : Nat} {ls st : List Value} {I : mI} {F : mF} {R : mR} {n : Nat} {Q : mP} {x y : Int32} : Ev lay d 167 759 ls (.int y :: .int x :: st) I F R n Q ↔ Ev lay d 167 760 ls (.int (x + y) :: st) I F R n Q := ev_n rfl
set_option maxRecDepth 20000 in
theorem e167_760 {lay : mL} {d : Nat} {ls st : List Value} {I : mI} {F : mF} {R : mR} {n : Nat} {Q : mP} {a : Nat} {i : Int32} : Ev lay d 167 760 ls (.int i :: .ref a :: st) I F R n Q ↔ (m_in lay 0 a i ∧ Ev lay d 167 761 ls (.int (I a i.toNatClampNeg) :: st) I F R n Q) := ev_nc rfl
set_option maxRecDepth 20000 in
theorem e167_761 {lay : mL} {d : Nat} {ls st : List Value} {I : mI} {F : mF} {R : mR} {n : Nat} {Q : mP} {a : Nat} {x0 : Int32} : Ev lay d 167 761 ls (.int x0 :: .ref a :: st) I F R n Q ↔ ((lay a = (13, 0) ∧ (st.length ≤ 4 ∨ (st.map fun v => v.category).sum ≤ 8) ∧ 1 ≤ d) ∧ Ev lay (d - 1) 94 0 [.ref a, .int x0] [] I F R n (fun v I F R n => Ev lay d 167 764 ls (m_psh v st) I F R n Q)) := ev_c rfl rfl
set_option maxRecDepth 20000 in
theorem e167_764 {lay : mL} {d : Nat} {ls st : List Value} {I : mI} {F : mF} {R : mR} {n : Nat} {Q : mP} {v0 v1 : Value} {x : Nat} : Ev lay d 167 764 (v0 :: v1 :: .ref x :: ls) st I F R n Q ↔ Ev lay d 167 765 (v0 :: v1 :: .ref x :: ls) (.ref x :: st) I F R n Q := ev_n rfl
set_option maxRecDepth 20000 in
theorem e167_764N {lay : mL} {d : Nat} {ls st : List Value} {I : mI} {F : mF} {R : mR} {n : Nat} {Q : mP} {v0 v1 : Value} : Ev lay d 167 764 (v0 :: v1 :: .null :: ls) st I F R n Q ↔ Ev lay d 167 765 (v0 :: v1 :: .null :: ls) (.null :: st) I F R n Q := ev_n rfl
set_option maxRecDepth 20000 in
theorem e167_765 {lay : mL} {d : Nat} {ls st : List Value} {I : mI} {F : mF} {R : mR} {n : Nat} {Q : mP} {x : Nat} : Ev lay d 167 765 (.ref x :: ls) st I F R n Q ↔ Ev lay d 167 766 (.ref x :: ls) (.ref x :: st) I F R n Q := ev_n rfl
set_option maxRecDepth 20000 in
theorem e167_765N {lay : mL} {d : Nat} {ls st : List Value} {I : mI} {F : mF} {R : mR} {n : Nat} {Q : mP} : Ev lay d 167 765 (.null :: ls) st I F R n Q ↔ Ev lay d 167 766 (.null :: ls) (.null :: st) I F R n Q := ev_n rfl
set_option maxRecDepth 20000 in
theorem e167_766 {lay : mL} {d : Nat} {ls st : List Value} {I : mI} {F : mF} {R : mR} {n : Nat} {Q : mP} {v0 v1 v2 : Value} {x : Int32} : Ev lay d 167 766 (v0 :: v1 :: v2 :: .int x :: ls) st I F R n Q ↔ Ev lay d 167 767 (v0 :: v1 :: v2 :: .int x :: ls) (.int x :: st) I F R n Q := ev_n rfl
set_option maxRecDepth 20000 in
theorem e167_767 {lay : mL} {d : Nat} {ls st : List Value} {I : mI} {F : mF} {R : mR} {n : Nat} {Q : mP} : Ev lay d 167 767 ls st I F R n Q ↔ Ev lay d 167 768 ls (.int (1 : Int32) :: st) I F R n Q := ev_n rfl
set_option maxRecDepth 20000 in
theorem e167_768 {lay : mL} {d : Nat} {ls st : List Value} {I : mI} {F : mF} {R : mR} {n : Nat} {Q : mP} {x y : Int32} : Ev lay d 167 768 ls (.int y :: .int x :: st) I F R n Q ↔ Ev lay d 167 769 ls (.int (x + y) :: st) I F R n Q := ev_n rfl
set_option maxRecDepth 20000 in
theorem e167_769 {lay : mL} {d : Nat} {ls st : List Value} {I : mI} {F : mF} {R : mR} {n : Nat} {Q : mP} {a : Nat} {i : Int32} : Ev lay d 167 769 ls (.int i :: .ref a :: st) I F R n Q ↔ (m_in lay 0 a i ∧ Ev lay d 167 770 ls (.int (I a i.toNatClampNeg) :: st) I F R n Q) := ev_nc rfl
set_option maxRecDepth 20000 in
theorem e167_770 {lay : mL} {d : Nat} {ls st : List Value} {I : mI} {F : mF} {R : mR} {n : Nat} {Q : mP} {a : Nat} {x0 : Int32} : Ev lay d 167 770 ls (.int x0 :: .ref a :: st) I F R n Q ↔ ((lay a = (14, 0) ∧ (st.length ≤ 4 ∨ (st.map fun v => v.category).sum ≤ 8) ∧ 1 ≤ d) ∧ Ev lay (d - 1) 165 0 [.ref a, .int x0, m_j] [] I F R n (fun v I F R n => Ev lay d 167 773 ls (m_psh v st) I F R n Q)) := ev_c rfl rfl
set_option maxRecDepth 20000 in
theorem e167_773 {lay : mL} {d : Nat} {ls st : List Value} {I : mI} {F : mF} {R : mR} {n : Nat} {Q : mP} {x y : Int32} : Ev lay d 167 773 ls (.int y :: .int x :: st) I F R n Q ↔ (if x = y then Ev lay d 167 801 ls st I F R n Q else Ev lay d 167 776 ls st I F R n Q) := (ev_n rfl).trans (ev_if _)
set_option maxRecDepth 20000 in
theorem e167_776 {lay : mL} {d : Nat} {ls st : List Value} {I : mI} {F : mF} {R : mR} {n : Nat} {Q : mP} : Ev lay d 167 776 ls st I F R n Q ↔ Ev lay d 167 777 ls (.int (0 : Int32) :: st) I F R n Q := ev_n rfl
set_option maxRecDepth 20000 in
theorem e167_777 {lay : mL} {d : Nat} {ls : List Value} {I : mI} {F : mF} {R : mR} {n : Nat} {Q : mP} {x : Int32} : Ev lay d 167 777 ls [.int x] I F R n Q ↔ (narrow .boolean (.int x) = .int x ∧ Q (some (.int x)) I F R n) := ev_rc rfl
set_option maxRecDepth 20000 in
theorem e167_778 {lay : mL} {d : Nat} {ls st : List Value} {I : mI} {F : mF} {R : mR} {n : Nat} {Q : mP} {v0 : Value} {x : Nat} : Ev lay d 167 778 (v0 :: .ref x :: ls) st I F R n Q ↔ Ev lay d 167 779 (v0 :: .ref x :: ls) (.ref x :: st) I F R n Q := ev_n rfl
set_option maxRecDepth 20000 in
theorem e167_778N {lay : mL} {d : Nat} {ls st : List Value} {I : mI} {F : mF} {R : mR} {n : Nat} {Q : mP} {v0 : Value} : Ev lay d 167 778 (v0 :: .null :: ls) st I F R n Q ↔ Ev lay d 167 779 (v0 :: .null :: ls) (.null :: st) I F R n Q := ev_n rfl
set_option maxRecDepth 20000 in
theorem e167_779 {lay : mL} {d : Nat} {ls st : List Value} {I : mI} {F : mF} {R : mR} {n : Nat} {Q : mP} {x : Nat} : Ev lay d 167 779 (.ref x :: ls) st I F R n Q ↔ Ev lay d 167 780 (.ref x :: ls) (.ref x :: st) I F R n Q := ev_n rfl
set_option maxRecDepth 20000 in
theorem e167_779N {lay : mL} {d : Nat} {ls st : List Value} {I : mI} {F : mF} {R : mR} {n : Nat} {Q : mP} : Ev lay d 167 779 (.null :: ls) st I F R n Q ↔ Ev lay d 167 780 (.null :: ls) (.null :: st) I F R n Q := ev_n rfl
set_option maxRecDepth 20000 in
theorem e167_780 {lay : mL} {d : Nat} {ls st : List Value} {I : mI} {F : mF} {R : mR} {n : Nat} {Q : mP} {v0 v1 v2 : Value} {x : Int32} : Ev lay d 167 780 (v0 :: v1 :: v2 :: .int x :: ls) st I F R n Q ↔ Ev lay d 167 781 (v0 :: v1 :: v2 :: .int x :: ls) (.int x :: st) I F R n Q := ev_n rfl
set_option maxRecDepth 20000 in
theorem e167_781 {lay : mL} {d : Nat} {ls st : List Value} {I : mI} {F : mF} {R : mR} {n : Nat} {Q : mP} : Ev lay d 167 781 ls st I F R n Q ↔ Ev lay d 167 782 ls (.int (1 : Int32) :: st) I F R n Q := ev_n rfl
set_option maxRecDepth 20000 in
theorem e167_782 {lay : mL} {d : Nat} {ls st : List Value} {I : mI} {F : mF} {R : mR} {n : Nat} {Q : mP} {x y : Int32} : Ev lay d 167 782 ls (.int y :: .int x :: st) I F R n Q ↔ Ev lay d 167 783 ls (.int (x + y) :: st) I F R n Q := ev_n rfl
set_option maxRecDepth 20000 in
theorem e167_783 {lay : mL} {d : Nat} {ls st : List Value} {I : mI} {F : mF} {R : mR} {n : Nat} {Q : mP} {a : Nat} {i : Int32} : Ev lay d 167 783 ls (.int i :: .ref a :: st) I F R n Q ↔ (m_in lay 0 a i ∧ Ev lay d 167 784 ls (.int (I a i.toNatClampNeg) :: st) I F R n Q) := ev_nc rfl
set_option maxRecDepth 20000 in
theorem e167_784 {lay : mL} {d : Nat} {ls st : List Value} {I : mI} {F : mF} {R : mR} {n : Nat} {Q : mP} {a : Nat} {x0 : Int32} : Ev lay d 167 784 ls (.int x0 :: .ref a :: st) I F R n Q ↔ ((lay a = (13, 0) ∧ (st.length ≤ 4 ∨ (st.map fun v => v.category).sum ≤ 8) ∧ 1 ≤ d) ∧ Ev lay (d - 1) 95 0 [.ref a, .int x0] [] I F R n (fun v I F R n => Ev lay d 167 787 ls (m_psh v st) I F R n Q)) := ev_c rfl rfl
set_option maxRecDepth 20000 in
theorem e167_787 {lay : mL} {d : Nat} {ls st : List Value} {I : mI} {F : mF} {R : mR} {n : Nat} {Q : mP} {v0 v1 : Value} {x : Nat} : Ev lay d 167 787 (v0 :: v1 :: .ref x :: ls) st I F R n Q ↔ Ev lay d 167 788 (v0 :: v1 :: .ref x :: ls) (.ref x :: st) I F R n Q := ev_n rfl
set_option maxRecDepth 20000 in
theorem e167_787N {lay : mL} {d : Nat} {ls st : List Value} {I : mI} {F : mF} {R : mR} {n : Nat} {Q : mP} {v0 v1 : Value} : Ev lay d 167 787 (v0 :: v1 :: .null :: ls) st I F R n Q ↔ Ev lay d 167 788 (v0 :: v1 :: .null :: ls) (.null :: st) I F R n Q := ev_n rfl
set_option maxRecDepth 20000 in
theorem e167_788 {lay : mL} {d : Nat} {ls st : List Value} {I : mI} {F : mF} {R : mR} {n : Nat} {Q : mP} {x : Nat} : Ev lay d 167 788 (.ref x :: ls) st I F R n Q ↔ Ev lay d 167 789 (.ref x :: ls) (.ref x :: st) I F R n Q := ev_n rfl
set_option maxRecDepth 20000 in
theorem e167_788N {lay : mL} {d : Nat} {ls st : List Value} {I : mI} {F : mF} {R : mR} {n : Nat} {Q : mP} : Ev lay d 167 788 (.null :: ls) st I F R n Q ↔ Ev lay d 167 789 (.null :: ls) (.null :: st) I F R n Q := ev_n rfl
set_option maxRecDepth 20000 in
theorem e167_789 {lay : mL} {d : Nat} {ls st : List Value} {I : mI} {F : mF} {R : mR} {n : Nat} {Q : mP} {v0 v1 v2 : Value} {x : Int32} : Ev lay d 167 789 (v0 :: v1 :: v2 :: .int x :: ls) st I F R n Q ↔ Ev lay d 167 790 (v0 :: v1 :: v2 :: .int x :: ls) (.int x :: st) I F R n Q := ev_n rfl
set_option maxRecDepth 20000 in
theorem e167_790 {lay : mL} {d : Nat} {ls st : List Value} {I : mI} {F : mF} {R : mR} {n : Nat} {Q : mP} : Ev lay d 167 790 ls st I F R n Q ↔ Ev lay d 167 791 ls (.int (1 : Int32) :: st) I F R n Q := ev_n rfl
set_option maxRecDepth 20000 in
theorem e167_791 {lay : mL} {d : Nat} {ls st : List Value} {I : mI} {F : mF} {R : mR} {n : Nat} {Q : mP} {x y : Int32} : Ev lay d 167 791 ls (.int y :: .int x :: st) I F R n Q ↔ Ev lay d 167 792 ls (.int (x + y) :: st) I F R n Q := ev_n rfl
set_option maxRecDepth 20000 in
theorem e167_792 {lay : mL} {d : Nat} {ls st : List Value} {I : mI} {F : mF} {R : mR} {n : Nat} {Q : mP} {a : Nat} {i : Int32} : Ev lay d 167 792 ls (.int i :: .ref a :: st) I F R n Q ↔ (m_in lay 0 a i ∧ Ev lay d 167 793 ls (.int (I a i.toNatClampNeg) :: st) I F R n Q) := ev_nc rfl
set_option maxRecDepth 20000 in
theorem e167_793 {lay : mL} {d : Nat} {ls st : List Value} {I : mI} {F : mF} {R : mR} {n : Nat} {Q : mP} {a : Nat} {x0 : Int32} : Ev lay d 167 793 ls (.int x0 :: .ref a :: st) I F R n Q ↔ ((lay a = (14, 0) ∧ (st.length ≤ 4 ∨ (st.map fun v => v.category).sum ≤ 8) ∧ 1 ≤ d) ∧ Ev lay (d - 1) 166 0 [.ref a, .int x0, m_j] [] I F R n (fun v I F R n => Ev lay d 167 796 ls (m_psh v st) I F R n Q)) := ev_c rfl rfl
set_option maxRecDepth 20000 in
theorem e167_796 {lay : mL} {d : Nat} {ls st : List Value} {I : mI} {F : mF} {R : mR} {n : Nat} {Q : mP} {x y : Int32} : Ev lay d 167 796 ls (.int y :: .int x :: st) I F R n Q ↔ (if x = y then Ev lay d 167 801 ls st I F R n Q else Ev lay d 167 799 ls st I F R n Q) := (ev_n rfl).trans (ev_if _)
set_option maxRecDepth 20000 in
theorem e167_799 {lay : mL} {d : Nat} {ls st : List Value} {I : mI} {F : mF} {R : mR} {n : Nat} {Q : mP} : Ev lay d 167 799 ls st I F R n Q ↔ Ev lay d 167 800 ls (.int (0 : Int32) :: st) I F R n Q := ev_n rfl
set_option maxRecDepth 20000 in
theorem e167_800 {lay : mL} {d : Nat} {ls : List Value} {I : mI} {F : mF} {R : mR} {n : Nat} {Q : mP} {x : Int32} : Ev lay d 167 800 ls [.int x] I F R n Q ↔ (narrow .boolean (.int x) = .int x ∧ Q (some (.int x)) I F R n) := ev_rc rfl
set_option maxRecDepth 20000 in
theorem e167_801 {lay : mL} {d : Nat} {ls st : List Value} {I : mI} {F : mF} {R : mR} {n : Nat} {Q : mP} {v0 v1 v2 : Value} {x : Int32} : Ev lay d 167 801 (v0 :: v1 :: v2 :: .int x :: ls) st I F R n Q ↔ Ev lay d 167 804 (v0 :: v1 :: m_kl v2 :: .int (x + 4) :: ls) st I F R n Q := ev_n rfl
set_option maxRecDepth 20000 in
theorem e167_804 {lay : mL} {d : Nat} {ls st : List Value} {I : mI} {F : mF} {R : mR} {n : Nat} {Q : mP} : Ev lay d 167 804 ls st I F R n Q ↔ Ev lay d 167 18 ls st I F R n Q := ev_n rfl
set_option maxRecDepth 20000 in
theorem e167_807 {lay : mL} {d : Nat} {ls st : List Value} {I : mI} {F : mF} {R : mR} {n : Nat} {Q : mP} : Ev lay d 167 807 ls st I F R n Q ↔ Ev lay d 167 808 ls (.int (1 : Int32) :: st) I F R n Q := ev_n rfl
set_option maxRecDepth 20000 in
theorem e167_808 {lay : mL} {d : Nat} {ls : List Value} {I : mI} {F : mF} {R : mR} {n : Nat} {Q : mP} {x : Int32} : Ev lay d 167 808 ls [.int x] I F R n Q ↔ (narrow .boolean (.int x) = .int x ∧ Q (some (.int x)) I F R n) := ev_rc rfl
