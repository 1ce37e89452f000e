-- answers by their numbers; what adds up
section VALS
variable {S : Nat → Nat} {sp : Nat → UInt32} {hi : List Nat}
theorem q_le_n {x y : UInt32} (hx : fOK x) (hy : fOK y) : q_le x y ↔ x.toNat ≤ y.toNat := by
  have h := fl_cmp (X := x.toNat) (Y := y.toNat) hx hy
  have e : ∀ z : UInt32, fl z.toNat = z := fun z => UInt32.ofNat_toNat
  rw [e, e] at h
  unfold q_le
  rw [h]
  exact cv_le
theorem q_stp_sym (c s o : Nat) : q_stp c s o = q_stp c o s := by
  unfold q_stp
  by_cases h : s / 6 = o / 6
  · rw [if_pos h, if_pos h.symm]
    split <;> split <;> omega
  · rw [if_neg h, if_neg (Ne.symm h), Nat.add_comm (s % 6)]
    congr 2
    split <;> split <;> omega
theorem q_dsk_stp (c s : Nat) : q_dsk c s = q_stp c 0 s + 1 := by
  unfold q_dsk q_stp
  by_cases h : 0 / 6 = s / 6
  · rw [if_pos h, ← h]
    split <;> omega
  · rw [if_neg h]
    have : ¬ s / 6 ≤ 0 / 6 := by omega
    rw [if_neg this, show s / 6 - 0 / 6 = s / 6 by omega]
    omega
/-- how many of the first slots are taken -/
def q_oc (p : Nat → Nat) (n : Nat) : Nat → Nat
  | 0 => 0
  | s + 1 => q_oc p n s + (if q_gin p n s = none then 0 else 1)
theorem q_oc_s {p : Nat → Nat} {n : Nat} (hf : q_gin p n (p n) = none) (m : Nat) : q_oc p (n + 1) m = q_oc p n m + (if p n < m then 1 else 0) := by
  induction m with
  | zero => rfl
  | succ m ih =>
    rw [q_oc, q_oc, ih]
    by_cases e : p n = m
    · have h1 : q_gin p (n + 1) m = some n := by rw [q_gin, if_pos e]
      have h2 : q_gin p n m = none := by rw [← e]; exact hf
      have i1 : (if (some n : Option Nat) = none then (0 : Nat) else 1) = 1 := if_neg nofun
      have i2 : (if (none : Option Nat) = none then (0 : Nat) else 1) = 0 := if_pos rfl
      rw [h1, h2, i1, i2, if_neg (show ¬ p n < m by omega), if_pos (show p n < m + 1 by omega)]
    · have h1 : q_gin p (n + 1) m = q_gin p n m := by rw [q_gin, if_neg e]
      rw [h1]
      by_cases e2 : p n < m
      · rw [if_pos e2, if_pos (show p n < m + 1 by omega)]; omega
      · rw [if_neg e2, if_neg (show ¬ p n < m + 1 by omega)]; omega
theorem q_oc_all {p : Nat → Nat} {m : Nat} (n : Nat) (hi : q_inj p n) (h : ∀ g, g < n → p g < m) : q_oc p n m = n := by
  induction n with
  | zero =>
    have : ∀ k, q_oc p 0 k = 0 := by
      intro k
      induction k with
      | zero => rfl
      | succ k ih => rw [q_oc, ih]; rfl
    exact this m
  | succ n ih =>
    rw [q_oc_s (q_gin_not fun g hg e => absurd (hi g n (by omega) (by omega) e) (by omega)), ih (fun a b ha hb e => hi a b (by omega) (by omega) e) (fun g hg => h g (by omega)), if_pos (h n (by omega))]
theorem q_oc_le (p : Nat → Nat) (n s : Nat) : q_oc p n s ≤ s := by
  induction s with
  | zero => exact Nat.le_refl _
  | succ s ih => rw [q_oc]; split <;> omega
theorem w_oc (w : Wsh S) : q_oc (fun g => S (4 + 4 * g)) (S 3) 30 = S 3 := q_oc_all (S 3) w.2.2 w.2.1
theorem isS_k {k : Nat} (hk : k < 30) : isS (nI k) := (isS_n (by omega)).mpr hk
theorem v_of0 {g : Nat} (h : g < S 3) (h3 : S 3 ≤ 16) : q_of S sp (nI g) (nI 0) = nI (S (4 + 4 * g)) := by
  unfold q_of
  rw [q_N_n (by omega), if_neg (by rw [n_lt (by omega) (by omega)]; omega), if_pos rfl]
theorem v_of1 {g : Nat} (h : g < S 3) (h3 : S 3 ≤ 16) : q_of S sp (nI g) (nI 1) = nI (sp g).toNat := by
  unfold q_of
  rw [q_N_n (by omega), if_neg (by rw [n_lt (by omega) (by omega)]; omega), if_neg (by decide), if_pos rfl]
  rfl
theorem v_of2 {g : Nat} (h : g < S 3) (h3 : S 3 ≤ 16) : q_of S sp (nI g) (nI 2) = nI (S (5 + 4 * g)) := by
  unfold q_of
  rw [q_N_n (by omega), if_neg (by rw [n_lt (by omega) (by omega)]; omega), if_neg (by decide), if_neg (by decide), if_pos rfl]
theorem v_of3 {g : Nat} (h : g < S 3) (h3 : S 3 ≤ 16) : q_of S sp (nI g) (nI 3) = nI (S (6 + 4 * g)) := by
  unfold q_of
  rw [q_N_n (by omega), if_neg (by rw [n_lt (by omega) (by omega)]; omega), if_neg (by decide), if_neg (by decide), if_neg (by decide), if_pos rfl]
theorem v_of4 {g : Nat} (h : g < S 3) (h3 : S 3 ≤ 16) : q_of S sp (nI g) (nI 4) = nI (q_dsk (S 2) (S (4 + 4 * g))) := by
  unfold q_of
  rw [q_N_n (by omega), if_neg (by rw [n_lt (by omega) (by omega)]; omega), if_neg (by decide), if_neg (by decide), if_neg (by decide), if_neg (by decide), if_pos rfl]
theorem v_ofS0 {s : Nat} (h : s < 30) : q_ofS S (nI s) (nI 0) = q_oI (q_gi S s) := by
  unfold q_ofS
  rw [if_pos (isS_k h), if_pos rfl, q_N_n (by omega)]
theorem v_ofS1 {s : Nat} (h : s < 30) : q_ofS S (nI s) (nI 1) = nI (q_dsk (S 2) s) := by
  unfold q_ofS
  rw [if_pos (isS_k h), if_neg (by decide), if_pos rfl, q_N_n (by omega)]
theorem v_ofS2 {s : Nat} (h : s < 30) : q_ofS S (nI s) (nI 2) = nI (S 68 / 2 ^ s % 2) := by
  unfold q_ofS
  rw [if_pos (isS_k h), if_neg (by decide), if_neg (by decide), if_pos rfl, q_N_n (by omega)]
theorem v_sps {s o : Nat} (h : s < 30) (h2 : o < 30) : q_sps S (nI s) (nI o) = nI (q_stp (S 2) s o) := by
  unfold q_sps
  rw [if_pos ⟨isS_k h, isS_k h2⟩, q_N_n (by omega), q_N_n (by omega)]
theorem v_bsk {x r : Nat} (hx : x ≤ 1) (h : r < S (69 + x)) (h12 : S (69 + x) ≤ 12) (y : Int32) : q_bsk S (nI x) (nI r) y = if y = nI 0 then nI (S (71 + 24 * x + 2 * r)) else if y = nI 1 then nI (S (72 + 24 * x + 2 * r)) else if y = nI 2 then nI (q_len S (S (71 + 24 * x + 2 * r))) else -nI 2 := by
  unfold q_bsk
  rw [if_pos (by rw [n_eq (by omega) (by omega), n_eq (by omega) (by omega)]; omega), q_N_n (by omega), q_N_n (by omega), if_neg (by rw [n_lt (by omega) (by omega)]; omega)]
theorem v_b00 {r : Nat} (h : r < S 69) (h12 : S 69 ≤ 12) : q_bsk S (nI 0) (nI r) (nI 0) = nI (S (71 + 2 * r)) := by
  rw [v_bsk (by omega) h h12, if_pos rfl]
theorem v_b01 {r : Nat} (h : r < S 69) (h12 : S 69 ≤ 12) : q_bsk S (nI 0) (nI r) (nI 1) = nI (S (72 + 2 * r)) := by
  rw [v_bsk (by omega) h h12, if_neg (by decide), if_pos rfl]
theorem v_b02 {r : Nat} (h : r < S 69) (h12 : S 69 ≤ 12) : q_bsk S (nI 0) (nI r) (nI 2) = nI (q_len S (S (71 + 2 * r))) := by
  rw [v_bsk (by omega) h h12, if_neg (by decide), if_neg (by decide), if_pos rfl]
theorem v_b10 {r : Nat} (h : r < S 70) (h12 : S 70 ≤ 12) : q_bsk S (nI 1) (nI r) (nI 0) = nI (S (95 + 2 * r)) := by
  rw [v_bsk (by omega) h h12, if_pos rfl]
theorem v_b11 {r : Nat} (h : r < S 70) (h12 : S 70 ≤ 12) : q_bsk S (nI 1) (nI r) (nI 1) = nI (S (96 + 2 * r)) := by
  rw [v_bsk (by omega) h h12, if_neg (by decide), if_pos rfl]
theorem v_b12 {r : Nat} (h : r < S 70) (h12 : S 70 ≤ 12) : q_bsk S (nI 1) (nI r) (nI 2) = nI (q_len S (S (95 + 2 * r))) := by
  rw [v_bsk (by omega) h h12, if_neg (by decide), if_neg (by decide), if_pos rfl]
theorem v_b0N {r : Nat} (h : S 69 ≤ r) (hr : r < 100) (y : Int32) : q_bsk S (nI 0) (nI r) y = -nI 1 := by
  unfold q_bsk
  rw [if_pos (Or.inl rfl), q_N_n (by omega), q_N_n (by omega), if_pos (Or.inr h)]
theorem v_b1N {r : Nat} (h : S 70 ≤ r) (hr : r < 100) (y : Int32) : q_bsk S (nI 1) (nI r) y = -nI 1 := by
  unfold q_bsk
  rw [if_pos (Or.inr rfl), q_N_n (by omega), q_N_n (by omega), if_pos (Or.inr h)]
theorem v_c0 {pl hl : Nat} : q_count S sp hi pl hl (nI 0) = nI (S 119) := by
  unfold q_count
  rw [if_pos rfl]
theorem v_c1 {pl hl : Nat} : q_count S sp hi pl hl (nI 1) = nI (S 3) := by
  unfold q_count
  rw [if_neg (by decide), if_pos rfl]
theorem v_c2 {pl hl : Nat} : q_count S sp hi pl hl (nI 2) = nI (S 69) := by
  unfold q_count
  rw [if_neg (by decide), if_neg (by decide), if_pos rfl]
theorem v_c3 {pl hl : Nat} : q_count S sp hi pl hl (nI 3) = nI (q_tog S 72 (S 69)) := by
  unfold q_count
  rw [if_neg (by decide), if_neg (by decide), if_neg (by decide), if_pos rfl]
theorem v_c4 {pl hl : Nat} : q_count S sp hi pl hl (nI 4) = nI (q_tog S 96 (S 70)) := by
  unfold q_count
  rw [if_neg (by decide), if_neg (by decide), if_neg (by decide), if_neg (by decide), if_pos rfl]
theorem v_c5 {pl hl : Nat} : q_count S sp hi pl hl (nI 5) = nI (S 120) := by
  unfold q_count
  rw [if_neg (by decide), if_neg (by decide), if_neg (by decide), if_neg (by decide), if_neg (by decide), if_pos rfl]
theorem v_c6 {pl hl : Nat} : q_count S sp hi pl hl (nI 6) = nI (S 121) := by
  unfold q_count
  rw [if_neg (by decide), if_neg (by decide), if_neg (by decide), if_neg (by decide), if_neg (by decide), if_neg (by decide), if_pos rfl]
theorem v_c7 {pl hl : Nat} : q_count S sp hi pl hl (nI 7) = q_fb (q_wsum S sp (S 3)) := by
  unfold q_count
  rw [if_neg (by decide), if_neg (by decide), if_neg (by decide), if_neg (by decide), if_neg (by decide), if_neg (by decide), if_neg (by decide), if_pos rfl]
theorem v_c8 {pl hl : Nat} : q_count S sp hi pl hl (nI 8) = nI (S 68) := by
  unfold q_count
  rw [if_neg (by decide), if_neg (by decide), if_neg (by decide), if_neg (by decide), if_neg (by decide), if_neg (by decide), if_neg (by decide), if_neg (by decide), if_pos rfl]
theorem v_c9 {pl hl : Nat} : q_count S sp hi pl hl (nI 9) = q_fastest S sp := by
  unfold q_count
  rw [if_neg (by decide), if_neg (by decide), if_neg (by decide), if_neg (by decide), if_neg (by decide), if_neg (by decide), if_neg (by decide), if_neg (by decide), if_neg (by decide), if_pos rfl]
theorem v_c10 {pl hl : Nat} : q_count S sp hi pl hl (nI 10) = nI (q_unl hi) := by
  unfold q_count
  rw [if_neg (by decide), if_neg (by decide), if_neg (by decide), if_neg (by decide), if_neg (by decide), if_neg (by decide), if_neg (by decide), if_neg (by decide), if_neg (by decide), if_neg (by decide), if_pos rfl]
theorem v_c11 {pl hl : Nat} : q_count S sp hi pl hl (nI 11) = nI (S 0) := by
  unfold q_count
  rw [if_neg (by decide), if_neg (by decide), if_neg (by decide), if_neg (by decide), if_neg (by decide), if_neg (by decide), if_neg (by decide), if_neg (by decide), if_neg (by decide), if_neg (by decide), if_neg (by decide), if_pos rfl]
theorem v_c12 {pl hl : Nat} : q_count S sp hi pl hl (nI 12) = nI (S 1) := by
  unfold q_count
  rw [if_neg (by decide), if_neg (by decide), if_neg (by decide), if_neg (by decide), if_neg (by decide), if_neg (by decide), if_neg (by decide), if_neg (by decide), if_neg (by decide), if_neg (by decide), if_neg (by decide), if_neg (by decide), if_pos rfl]
theorem v_c13 {pl hl : Nat} : q_count S sp hi pl hl (nI 13) = nI (S 2) := by
  unfold q_count
  rw [if_neg (by decide), if_neg (by decide), if_neg (by decide), if_neg (by decide), if_neg (by decide), if_neg (by decide), if_neg (by decide), if_neg (by decide), if_neg (by decide), if_neg (by decide), if_neg (by decide), if_neg (by decide), if_neg (by decide), if_pos rfl]
theorem v_c14 {pl hl : Nat} : q_count S sp hi pl hl (nI 14) = nI pl := by
  unfold q_count
  rw [if_neg (by decide), if_neg (by decide), if_neg (by decide), if_neg (by decide), if_neg (by decide), if_neg (by decide), if_neg (by decide), if_neg (by decide), if_neg (by decide), if_neg (by decide), if_neg (by decide), if_neg (by decide), if_neg (by decide), if_neg (by decide), if_pos rfl]
theorem v_c15 {pl hl : Nat} : q_count S sp hi pl hl (nI 15) = nI hl := by
  unfold q_count
  rw [if_neg (by decide), if_neg (by decide), if_neg (by decide), if_neg (by decide), if_neg (by decide), if_neg (by decide), if_neg (by decide), if_neg (by decide), if_neg (by decide), if_neg (by decide), if_neg (by decide), if_neg (by decide), if_neg (by decide), if_neg (by decide), if_neg (by decide), if_pos rfl]
theorem b_bound {b m : Nat} (hb : b < 65536) (h : ∀ g, g < 16 → b / 2 ^ g % 2 = 1 → g < m) : b < 2 ^ m := by
  refine Nat.lt_pow_two_of_testBit b fun i hi => ?_
  by_cases c : i < 16
  · cases e : b.testBit i with
    | false => rfl
    | true =>
      have := b_tb b i
      rw [e] at this
      have := h i c this
      omega
  · exact Nat.testBit_lt_two_pow (Nat.lt_of_lt_of_le hb (Nat.pow_le_pow_right (n := 2) (i := 16) (by decide) (by omega)))
theorem q_err_b {b : Nat} (w3 : S 3 ≤ 16) (hb : bOK S b) (h1 : 1 ≤ q_on b 16) : q_err S (nI b) = nI 0 := by
  have hb2 := b_bound hb.1 hb.2.2
  have := hb.1
  unfold q_err
  rw [q_N_n (by omega), if_neg (by rw [n_lt (by omega) (by omega)]; omega), if_neg (by have := hb.2.1; omega)]
theorem q_on_0 (k : Nat) : q_on 0 k = 0 := by
  induction k with
  | zero => rfl
  | succ k ih => rw [q_on_s, ih, Nat.zero_div]
theorem q_on_pos {b : Nat} (hb : b < 65536) (h : b ≠ 0) : 1 ≤ q_on b 16 := by
  rcases Nat.eq_zero_or_pos (q_on b 16) with e | e
  · exfalso
    have z : ∀ i, i < 16 → b / 2 ^ i % 2 = 0 := by
      intro i hi
      rcases Nat.mod_two_eq_zero_or_one (b / 2 ^ i) with e1 | e1
      · exact e1
      · have := q_on_lt hi e1
        omega
    have := b_bound (m := 0) hb (fun g hg e1 => by have := z g hg; omega)
    rw [Nat.pow_zero] at this
    omega
  · exact e
theorem v_wlk {b : Nat} (w3 : S 3 ≤ 16) (hb : bOK S b) (h1 : 1 ≤ q_on b 16) : q_wlk S (nI b) = nI (q_len S b) := by
  have := hb.1
  unfold q_wlk
  rw [if_pos (q_err_b w3 hb h1), q_N_n (by omega)]
theorem v_oft {b : Nat} (w3 : S 3 ≤ 16) (hb : bOK S b) (h1 : 1 ≤ q_on b 16) : q_oft S hi (nI b) = nI (q_cnt b hi) := by
  have := hb.1
  unfold q_oft
  rw [if_pos (q_err_b w3 hb h1), q_N_n (by omega)]
theorem v_sht {b : Nat} (w3 : S 3 ≤ 16) (hb : bOK S b) (h1 : 1 ≤ q_on b 16) : q_sht S (nI b) = nI (q_short S b) := by
  have := hb.1
  unfold q_sht
  rw [if_pos (q_err_b w3 hb h1), q_N_n (by omega)]
theorem v_stp0 {b : Nat} (w3 : S 3 ≤ 16) (hb : bOK S b) (h1 : 1 ≤ q_on b 16) : q_stop S (nI b) (nI 0) = nI (q_vi (S 2) (q_pos S) 0 b 0) := by
  have := hb.1
  unfold q_stop
  rw [if_pos (q_err_b w3 hb h1), q_N_n (by omega), q_N_n (by omega), if_neg (by rw [n_lt (by omega) (by omega)]; omega)]
theorem q_cnt_pos {b : Nat} (h : b ∈ hi) : 1 ≤ q_cnt b hi := by
  induction hi with
  | nil => cases h
  | cons x r ih =>
    rw [q_cnt]
    rcases List.mem_cons.mp h with e | e
    · rw [if_pos e.symm]; omega
    · have := ih e
      omega
theorem q_unl_pos : 1 ≤ q_unl hi ↔ hi ≠ [] := by
  induction hi with
  | nil => exact ⟨fun h => absurd h (by decide), fun h => absurd rfl h⟩
  | cons x r ih =>
    refine ⟨fun _ => nofun, fun _ => ?_⟩
    rw [q_unl]
    by_cases c : r = []
    · subst c
      exact Nat.le_refl _
    · have := ih.mpr c
      omega
theorem q_unl_le (hi : List Nat) : q_unl hi ≤ hi.length := by
  induction hi with
  | nil => exact Nat.le_refl _
  | cons x r ih =>
    rw [q_unl, List.length_cons]
    split <;> omega
theorem q_sb_mono {j k : Nat} (h : j ≤ k) : q_sb S j ≤ q_sb S k := by
  induction k with
  | zero => rw [Nat.le_zero.mp h]; exact Nat.le_refl _
  | succ k ih =>
    rcases Nat.lt_or_ge j (k + 1) with c | c
    · rw [q_sb]; exact Nat.le_trans (ih (by omega)) (Nat.le_add_right _ _)
    · rw [show j = k + 1 by omega]; exact Nat.le_refl _
theorem q_tog_mono {o j k : Nat} (h : j ≤ k) : q_tog S o j ≤ q_tog S o k := by
  induction k with
  | zero => rw [Nat.le_zero.mp h]; exact Nat.le_refl _
  | succ k ih =>
    rcases Nat.lt_or_ge j (k + 1) with c | c
    · rw [q_tog_s]; exact Nat.le_trans (ih (by omega)) (Nat.le_add_right _ _)
    · rw [show j = k + 1 by omega]; exact Nat.le_refl _
theorem q_on_le (b k : Nat) : q_on b k ≤ k := by
  induction k with
  | zero => exact Nat.le_refl _
  | succ k ih =>
    rw [q_on_s]
    have := Nat.mod_lt (b / 2 ^ k) (show 0 < 2 by omega)
    omega
theorem q_sb_le (k : Nat) : q_sb S k ≤ 16 * k := by
  induction k with
  | zero => exact Nat.le_refl _
  | succ k ih =>
    rw [q_sb]
    have := q_on_le (S (71 + 2 * k)) 16
    omega
end VALS
