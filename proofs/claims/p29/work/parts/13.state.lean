-- the state of a shed as one row of numbers, and where the class keeps each of them
def up1 (S : Nat → Nat) (i v : Nat) : Nat → Nat := fun j => if j = i then v else S j
theorem up1_at {S : Nat → Nat} {i v : Nat} : up1 S i v i = v := by simp [up1]
theorem up1_hit {S : Nat → Nat} {i j v : Nat} (h : j = i) : up1 S i v j = v := by simp [up1, h]
theorem up1_miss {S : Nat → Nat} {i j v : Nat} (h : j ≠ i) : up1 S i v j = S j := by simp [up1, h]
def cS (x k i : Nat) : Prop := (x = 1 ∧ k < 3 ∧ i = k) ∨ (x = 2 ∧ k < 16 ∧ i = 4 + 4 * k) ∨ (x = 5 ∧ k < 16 ∧ i = 5 + 4 * k) ∨ (x = 6 ∧ k < 16 ∧ i = 6 + 4 * k) ∨ (x = 7 ∧ k < 16 ∧ i = 7 + 4 * k) ∨ (x = 9 ∧ k < 12 ∧ i = 71 + 2 * k) ∨ (x = 10 ∧ k < 12 ∧ i = 72 + 2 * k) ∨ (x = 8 ∧ k = 2 ∧ i = 69) ∨ (x = 12 ∧ k < 12 ∧ i = 95 + 2 * k) ∨ (x = 13 ∧ k < 12 ∧ i = 96 + 2 * k) ∨ (x = 11 ∧ k = 2 ∧ i = 70) ∨ (x = 0 ∧ k = 11 ∧ i = 3) ∨ (x = 0 ∧ k = 12 ∧ i = 68) ∨ (x = 0 ∧ k = 13 ∧ i = 119) ∨ (x = 0 ∧ k = 14 ∧ i = 120) ∨ (x = 0 ∧ k = 15 ∧ i = 121)
theorem cS_inj {x k i x' k' : Nat} (h : cS x k i) (h' : cS x' k' i) : x' = x ∧ k' = k := by
  unfold cS at h'
  rcases h with ⟨h1, h2, h3⟩ | ⟨h1, h2, h3⟩ | ⟨h1, h2, h3⟩ | ⟨h1, h2, h3⟩ | ⟨h1, h2, h3⟩ | ⟨h1, h2, h3⟩ | ⟨h1, h2, h3⟩ | ⟨h1, h2, h3⟩ | ⟨h1, h2, h3⟩ | ⟨h1, h2, h3⟩ | ⟨h1, h2, h3⟩ | ⟨h1, h2, h3⟩ | ⟨h1, h2, h3⟩ | ⟨h1, h2, h3⟩ | ⟨h1, h2, h3⟩ | ⟨h1, h2, h3⟩ <;> omega
theorem cS_lt {x k i : Nat} (h : cS x k i) : x < 14 ∧ i < 122 := by
  unfold cS at h
  omega
theorem cS_fn {x k i i' : Nat} (h : cS x k i) (h' : cS x k i') : i = i' := by
  unfold cS at h'
  rcases h with ⟨h1, h2, h3⟩ | ⟨h1, h2, h3⟩ | ⟨h1, h2, h3⟩ | ⟨h1, h2, h3⟩ | ⟨h1, h2, h3⟩ | ⟨h1, h2, h3⟩ | ⟨h1, h2, h3⟩ | ⟨h1, h2, h3⟩ | ⟨h1, h2, h3⟩ | ⟨h1, h2, h3⟩ | ⟨h1, h2, h3⟩ | ⟨h1, h2, h3⟩ | ⟨h1, h2, h3⟩ | ⟨h1, h2, h3⟩ | ⟨h1, h2, h3⟩ | ⟨h1, h2, h3⟩ <;> omega
theorem cS_1 {k : Nat} (h : k < 3) : cS 1 k (k) := Or.inl ⟨rfl, h, rfl⟩
theorem cS_2 {k : Nat} (h : k < 16) : cS 2 k (4 + 4 * k) := Or.inr (Or.inl ⟨rfl, h, rfl⟩)
theorem cS_5 {k : Nat} (h : k < 16) : cS 5 k (5 + 4 * k) := Or.inr (Or.inr (Or.inl ⟨rfl, h, rfl⟩))
theorem cS_6 {k : Nat} (h : k < 16) : cS 6 k (6 + 4 * k) := Or.inr (Or.inr (Or.inr (Or.inl ⟨rfl, h, rfl⟩)))
theorem cS_7 {k : Nat} (h : k < 16) : cS 7 k (7 + 4 * k) := Or.inr (Or.inr (Or.inr (Or.inr (Or.inl ⟨rfl, h, rfl⟩))))
theorem cS_9 {k : Nat} (h : k < 12) : cS 9 k (71 + 2 * k) := Or.inr (Or.inr (Or.inr (Or.inr (Or.inr (Or.inl ⟨rfl, h, rfl⟩)))))
theorem cS_10 {k : Nat} (h : k < 12) : cS 10 k (72 + 2 * k) := Or.inr (Or.inr (Or.inr (Or.inr (Or.inr (Or.inr (Or.inl ⟨rfl, h, rfl⟩))))))
theorem cS_8 : cS 8 2 69 := Or.inr (Or.inr (Or.inr (Or.inr (Or.inr (Or.inr (Or.inr (Or.inl ⟨rfl, rfl, rfl⟩)))))))
theorem cS_12 {k : Nat} (h : k < 12) : cS 12 k (95 + 2 * k) := Or.inr (Or.inr (Or.inr (Or.inr (Or.inr (Or.inr (Or.inr (Or.inr (Or.inl ⟨rfl, h, rfl⟩))))))))
theorem cS_13 {k : Nat} (h : k < 12) : cS 13 k (96 + 2 * k) := Or.inr (Or.inr (Or.inr (Or.inr (Or.inr (Or.inr (Or.inr (Or.inr (Or.inr (Or.inl ⟨rfl, h, rfl⟩)))))))))
theorem cS_11 : cS 11 2 70 := Or.inr (Or.inr (Or.inr (Or.inr (Or.inr (Or.inr (Or.inr (Or.inr (Or.inr (Or.inr (Or.inl ⟨rfl, rfl, rfl⟩))))))))))
theorem cS_0_11 : cS 0 11 3 := Or.inr (Or.inr (Or.inr (Or.inr (Or.inr (Or.inr (Or.inr (Or.inr (Or.inr (Or.inr (Or.inr (Or.inl ⟨rfl, rfl, rfl⟩)))))))))))
theorem cS_0_12 : cS 0 12 68 := Or.inr (Or.inr (Or.inr (Or.inr (Or.inr (Or.inr (Or.inr (Or.inr (Or.inr (Or.inr (Or.inr (Or.inr (Or.inl ⟨rfl, rfl, rfl⟩))))))))))))
theorem cS_0_13 : cS 0 13 119 := Or.inr (Or.inr (Or.inr (Or.inr (Or.inr (Or.inr (Or.inr (Or.inr (Or.inr (Or.inr (Or.inr (Or.inr (Or.inr (Or.inl ⟨rfl, rfl, rfl⟩)))))))))))))
theorem cS_0_14 : cS 0 14 120 := Or.inr (Or.inr (Or.inr (Or.inr (Or.inr (Or.inr (Or.inr (Or.inr (Or.inr (Or.inr (Or.inr (Or.inr (Or.inr (Or.inr (Or.inl ⟨rfl, rfl, rfl⟩))))))))))))))
theorem cS_0_15 : cS 0 15 121 := Or.inr (Or.inr (Or.inr (Or.inr (Or.inr (Or.inr (Or.inr (Or.inr (Or.inr (Or.inr (Or.inr (Or.inr (Or.inr (Or.inr (Or.inr (⟨rfl, rfl, rfl⟩)))))))))))))))
def CC (I : mI) (a : Nat) (S : Nat → Nat) : Prop := ∀ x k i, cS x k i → I (a + x) k = nI (S i)
theorem CC_up {I : mI} {a x k i v : Nat} {S : Nat → Nat} (h : CC I a S) (hx : cS x k i) : CC (m_up I (a + x) k (nI v)) a (up1 S i v) := by
  intro x' k' i' h'
  by_cases e : x' = x ∧ k' = k
  · obtain ⟨e1, e2⟩ := e
    subst e1; subst e2
    rw [cS_fn h' hx, m_up_at, up1_at]
  · have : i' ≠ i := by
      intro e2
      subst e2
      exact e (cS_inj hx h')
    rw [up1_miss this, m_up_miss (by omega), h x' k' i' h']
theorem CC_off {I I' : mI} {a : Nat} {S : Nat → Nat} (h : CC I a S) (he : ∀ x k i, cS x k i → I' (a + x) k = I (a + x) k) : CC I' a S := by
  intro x k i hx
  rw [he x k i hx, h x k i hx]
theorem CC_eq {I : mI} {a : Nat} {S S' : Nat → Nat} (h : CC I a S) (he : ∀ i, i < 122 → S' i = S i) : CC I a S' := by
  intro x k i hx
  rw [h x k i hx, he i (cS_lt hx).2]
theorem CC_f {I : mI} {a : Nat} {S : Nat → Nat} (h : CC I a S) :
    (∀ k, k < 3 → I (a + 1) k = nI (S k)) ∧ (∀ k, k < 16 → I (a + 2) k = nI (S (4 + 4 * k))) ∧ (∀ k, k < 16 → I (a + 5) k = nI (S (5 + 4 * k))) ∧ (∀ k, k < 16 → I (a + 6) k = nI (S (6 + 4 * k))) ∧ (∀ k, k < 16 → I (a + 7) k = nI (S (7 + 4 * k))) ∧
    (∀ k, k < 12 → I (a + 9) k = nI (S (71 + 2 * k))) ∧ (∀ k, k < 12 → I (a + 10) k = nI (S (72 + 2 * k))) ∧ I (a + 8) 2 = nI (S 69) ∧ (∀ k, k < 12 → I (a + 12) k = nI (S (95 + 2 * k))) ∧ (∀ k, k < 12 → I (a + 13) k = nI (S (96 + 2 * k))) ∧ I (a + 11) 2 = nI (S 70) ∧
    I a 11 = nI (S 3) ∧ I a 12 = nI (S 68) ∧ I a 13 = nI (S 119) ∧ I a 14 = nI (S 120) ∧ I a 15 = nI (S 121) := by
  exact ⟨fun k hk => h 1 k (k) (cS_1 hk), fun k hk => h 2 k (4 + 4 * k) (cS_2 hk), fun k hk => h 5 k (5 + 4 * k) (cS_5 hk), fun k hk => h 6 k (6 + 4 * k) (cS_6 hk), fun k hk => h 7 k (7 + 4 * k) (cS_7 hk), fun k hk => h 9 k (71 + 2 * k) (cS_9 hk), fun k hk => h 10 k (72 + 2 * k) (cS_10 hk), h 8 2 69 cS_8, fun k hk => h 12 k (95 + 2 * k) (cS_12 hk), fun k hk => h 13 k (96 + 2 * k) (cS_13 hk), h 11 2 70 cS_11, h 0 11 3 cS_0_11, h 0 12 68 cS_0_12, h 0 13 119 cS_0_13, h 0 14 120 cS_0_14, h 0 15 121 cS_0_15⟩
def GI (I : mI) (a : Nat) (S : Nat → Nat) : Prop := ∀ s, s < 30 → I (a + 3) s = q_oI (q_gin (fun g => S (4 + 4 * g)) (S 3) s)
def SPD (F : mF) (a : Nat) (sp : Nat → UInt32) : Prop := ∀ g, g < 16 → F (a + 4) g = sp g
-- the chain of the picked baskets
def q_cnt (b : Nat) : List Nat → Nat
  | [] => 0
  | x :: r => q_cnt b r + (if x = b then 1 else 0)
def q_unl : List Nat → Nat
  | [] => 0
  | x :: r => q_unl r + (if q_cnt x r = 0 then 1 else 0)
def Cch (lay : mL) (I : mI) (R : mR) (n : Nat) : Nat → List Nat → Prop
  | p, [] => p = 0
  | p, b :: r => 180 ≤ p ∧ p < n ∧ lay p = (10, 0) ∧ I p 0 = nI b ∧ I p 1 = nI (q_cnt b (b :: r)) ∧ I p 2 = nI (q_unl (b :: r)) ∧ Cch lay I R n (R p 3) r
theorem Cch_off {lay : mL} {I I' : mI} {R R' : mR} {n n' p : Nat} {hi : List Nat} (h : Cch lay I R n p hi) (hn : n ≤ n') (hI : ∀ p, 180 ≤ p → p < n → I' p = I p ∧ R' p = R p) : Cch lay I' R' n' p hi := by
  induction hi generalizing p with
  | nil => exact h
  | cons b r ih =>
    obtain ⟨h1, h2, h3, h4, h5, h6, h7⟩ := h
    obtain ⟨e1, e2⟩ := hI p h1 h2
    exact ⟨h1, by omega, h3, by rw [e1]; exact h4, by rw [e1]; exact h5, by rw [e1]; exact h6, by rw [e2]; exact ih h7⟩
/-- the class's shed at a holds the row S, the speeds sp and the past hi -/
def CSh (lay : mL) (I : mI) (F : mF) (R : mR) (n a : Nat) (S : Nat → Nat) (sp : Nat → UInt32) (hi : List Nat) : Prop :=
  ISh lay R a ∧ CC I a S ∧ GI I a S ∧ SPD F a sp ∧ Cch lay I R n (R a 9) hi ∧ I a 10 = nI hi.length
/-- what stays outside of addresses a .. b -/
def Off (a b : Nat) (I : mI) (F : mF) (R : mR) (I' : mI) (F' : mF) (R' : mR) : Prop := ∀ x, x < a ∨ b < x → I' x = I x ∧ F' x = F x ∧ R' x = R x
theorem ISh_off {lay : mL} {R R' : mR} {a : Nat} (h : ISh lay R a) (he : ∀ x k, a ≤ x → x ≤ a + 11 → k ≤ 8 → R' x k = R x k) : ISh lay R' a := by
  unfold ISh at h ⊢
  rw [he a 0, he a 1, he a 2, he a 3, he a 4, he a 5, he a 6, he a 7, he a 8, he (a + 8) 0, he (a + 8) 1, he (a + 11) 0, he (a + 11) 1]
  exact h
  all_goals omega
theorem CSh_off {lay : mL} {I I' : mI} {F F' : mF} {R R' : mR} {n n' a lo hi' : Nat} {S : Nat → Nat} {sp : Nat → UInt32} {hi : List Nat} (h : CSh lay I F R n a S sp hi) (ho : Off lo hi' I F R I' F' R') (hd : a + 13 < lo ∨ hi' < a) (hn : n ≤ n') (h180 : hi' < 180) : CSh lay I' F' R' n' a S sp hi := by
  obtain ⟨h1, h2, h3, h4, h5, h6⟩ := h
  have hx : ∀ x, x < 14 → I' (a + x) = I (a + x) ∧ F' (a + x) = F (a + x) ∧ R' (a + x) = R (a + x) := fun x hx => ho (a + x) (by omega)
  refine ⟨ISh_off h1 (fun x k h7 h8 _ => ?_), CC_off h2 (fun x k i h7 => ?_), fun s hs => ?_, fun g hg => ?_, ?_, ?_⟩
  · have := (hx (x - a) (by omega)).2.2
    rw [show a + (x - a) = x from by omega] at this
    rw [this]
  · rw [(hx x (cS_lt h7).1).1]
  · rw [(hx 3 (by omega)).1]; exact h3 s hs
  · rw [(hx 4 (by omega)).2.1]; exact h4 g hg
  · have := (hx 0 (by omega)).2.2
    rw [Nat.add_zero] at this
    rw [this]
    exact Cch_off h5 hn (fun p hp _ => ⟨(ho p (by omega)).1, (ho p (by omega)).2.2⟩)
  · have := (hx 0 (by omega)).1
    rw [Nat.add_zero] at this
    rw [this]; exact h6
