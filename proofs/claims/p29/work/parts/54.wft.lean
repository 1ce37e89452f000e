-- what holds of every state besides: picks and walks add up
section WFT
variable {S T : Nat → Nat} {sp : Nat → UInt32} {hi : List Nat}
def q_sg (S : Nat → Nat) : Nat → Nat
  | 0 => 0
  | k + 1 => q_sg S k + S (5 + 4 * k)
def q_sb (S : Nat → Nat) : Nat → Nat
  | 0 => 0
  | k + 1 => q_sb S k + q_on (S (71 + 2 * k)) 16
def Wt (S : Nat → Nat) (hi : List Nat) : Prop := (∀ g, g < 16 → S (5 + 4 * g) ≤ S (6 + 4 * g) ∧ S (6 + 4 * g) ≤ hi.length) ∧ q_sg S (S 3) = q_sb S (S 69) ∧ (∀ k, k < S 69 → S (71 + 2 * k) ∈ hi) ∧ q_tog S 72 (S 69) + q_tog S 96 (S 70) ≤ S 120 ∧ S 120 ≤ 500 * hi.length ∧ (S 120 = 0 ↔ hi = [])
theorem q_sg_eq {k : Nat} (h : ∀ g, g < k → T (5 + 4 * g) = S (5 + 4 * g)) : q_sg T k = q_sg S k := by
  induction k with
  | zero => rfl
  | succ k ih => rw [q_sg, q_sg, ih (fun g hg => h g (by omega)), h k (by omega)]
theorem q_sb_eq {k : Nat} (h : ∀ g, g < k → T (71 + 2 * g) = S (71 + 2 * g)) : q_sb T k = q_sb S k := by
  induction k with
  | zero => rfl
  | succ k ih => rw [q_sb, q_sb, ih (fun g hg => h g (by omega)), h k (by omega)]
theorem q_tog_s (S : Nat → Nat) (o k : Nat) : q_tog S o (k + 1) = q_tog S o k + S (o + 2 * k) := rfl
theorem q_tog_eq {o o' k : Nat} (h : ∀ g, g < k → T (o' + 2 * g) = S (o + 2 * g)) : q_tog T o' k = q_tog S o k := by
  induction k with
  | zero => rfl
  | succ k ih => rw [q_tog_s, q_tog_s, ih (fun g hg => h g (by omega)), h k (by omega)]
theorem Wt_eq (h : Wt S hi) (w : Wf S sp hi) (h3 : T 3 = S 3) (hh : ∀ k, 69 ≤ k → k ≠ 119 → k ≠ 121 → T k = S k) (h5 : ∀ g, g < 16 → T (5 + 4 * g) = S (5 + 4 * g)) (h6 : ∀ g, g < 16 → T (6 + 4 * g) = S (6 + 4 * g)) : Wt T hi := by
  obtain ⟨a1, a2, a3, a4, a5, a6⟩ := h
  have e69 := hh 69 (by omega) (by omega) (by omega)
  have e70 := hh 70 (by omega) (by omega) (by omega)
  have e120 := hh 120 (by omega) (by omega) (by omega)
  have w3 := w.1.1
  have w69 := w.2.2.2.1.1
  have w70 := w.2.2.2.2.1.1
  refine ⟨fun g hg => by rw [h5 g hg, h6 g hg]; exact a1 g hg, ?_, fun k hk => ?_, ?_, by rw [e120]; exact a5, by rw [e120]; exact a6⟩
  · rw [h3, e69, q_sg_eq fun g hg => h5 g (by omega), q_sb_eq fun g hg => hh _ (by omega) (by omega) (by omega)]
    exact a2
  · rw [e69] at hk
    rw [hh _ (by omega) (by omega) (by omega)]
    exact a3 k hk
  · rw [e69, e70, e120, q_tog_eq (S := S) (o := 72) fun g hg => hh _ (by omega) (by omega) (by omega), q_tog_eq (S := S) (o := 96) fun g hg => hh _ (by omega) (by omega) (by omega)]
    exact a4
theorem Wt_set {x y : Int32} (h : Wt S hi) (w : Wf S sp hi) : Wt (q_set S x y).2 hi := by
  unfold q_set
  by_cases c : okS x y
  · rw [if_pos c]
    have k1 : q_N x < 3 := by
      have o1 := c.1
      have o2 := c.2.1
      rcases n_g x with ⟨k, hk, rfl⟩ | hx
      · rw [n_lt hk (by omega)] at o2
        rw [q_N_n hk]
        exact o2
      · rw [n_g2 hx (by omega)] at o1; exact o1.elim
    exact Wt_eq (T := up1 S (q_N x) (q_N y)) h w (up1_miss (by omega)) (fun k _ _ _ => up1_miss (by omega)) (fun g _ => up1_miss (by omega)) (fun g _ => up1_miss (by omega))
  · rw [if_neg c]; exact h
theorem Wt_swS {s o : Nat} (h : Wt S hi) (w : Wf S sp hi) : Wt (q_swS S s o) hi := by
  have k := fun k hk => q_swS_k (S := S) (s := s) (o := o) (k := k) w.1.1 hk
  refine Wt_eq h w (k 3 (by omega)) (fun j hj _ _ => k j (by omega)) (fun g hg => ?_) (fun g hg => ?_)
  · unfold q_swS
    rw [q_ct_lo (by omega), q_ct_lo (by omega), q_exS_k (by omega)]
  · unfold q_swS
    rw [q_ct_lo (by omega), q_ct_lo (by omega), q_exS_k (by omega)]
theorem Wt_swp {x y : Int32} (h : Wt S hi) (w : Wf S sp hi) : Wt (q_swp S x y).2 hi := by
  unfold q_swp
  by_cases c : isS x ∧ isS y
  · rw [if_pos c]
    by_cases e : x = y
    · rw [if_pos e]; exact h
    · rw [if_neg e]; exact Wt_swS h w
  · rw [if_neg c]; exact h
theorem Wt_cls {x : Int32} (h : Wt S hi) (w : Wf S sp hi) : Wt (q_cls S x).2 hi := by
  unfold q_cls
  by_cases c : isS x
  · rw [if_pos c]
    exact Wt_eq (T := up1 S 68 _) h w (up1_miss (by omega)) (fun k _ _ _ => up1_miss (by omega)) (fun g _ => up1_miss (by omega)) (fun g _ => up1_miss (by omega))
  · rw [if_neg c]; exact h
theorem Wt_add {x : Int32} (h : Wt S hi) (w : Wf S sp hi) : Wt (q_add S x).2 hi := by
  unfold q_add
  by_cases c : isS x
  · rw [if_pos c]
    by_cases c1 : q_gi S (q_N x) ≠ none
    · rw [if_pos c1]; exact h
    · rw [if_neg c1]
      by_cases c2 : 16 ≤ S 3
      · rw [if_pos c2]; exact h
      · rw [if_neg c2]
        dsimp only
        obtain ⟨a1, a2, a3, a4, a5, a6⟩ := h
        have f3 : up1 (up1 S (4 + 4 * S 3) (q_N x)) 3 (S 3 + 1) 3 = S 3 + 1 := up1_at
        have fm : ∀ j, j ≠ 3 → j ≠ 4 + 4 * S 3 → up1 (up1 S (4 + 4 * S 3) (q_N x)) 3 (S 3 + 1) j = S j := fun j h1 h2 => by rw [up1_miss h1, up1_miss h2]
        have e69 := fm 69 (by omega) (by omega)
        have e70 := fm 70 (by omega) (by omega)
        have e120 := fm 120 (by omega) (by omega)
        refine ⟨fun g hg => by rw [fm _ (by omega) (by omega), fm _ (by omega) (by omega)]; exact a1 g hg, ?_, fun k hk => ?_, ?_, by rw [e120]; exact a5, by rw [e120]; exact a6⟩
        · rw [f3, e69, q_sg, fm _ (by omega) (by omega), q_sg_eq (S := S) fun g hg => fm _ (by omega) (by omega), q_sb_eq (S := S) fun g hg => fm _ (by omega) (by omega)]
          have := (w.2.2.2.2.2.2.1 (S 3) (by omega)).2 (Nat.le_refl _)
          omega
        · rw [e69] at hk
          rw [fm _ (by omega) (by omega)]
          exact a3 k hk
        · rw [e69, e70, e120, q_tog_eq (S := S) (o := 72) fun g hg => fm _ (by omega) (by omega), q_tog_eq (S := S) (o := 96) fun g hg => fm _ (by omega) (by omega)]
          exact a4
  · rw [if_neg c]; exact h
theorem q_on_all (b m : Nat) (hb : ∀ g, m ≤ g → g < 16 → b / 2 ^ g % 2 = 0) (j : Nat) : m + j ≤ 16 → q_on b (m + j) = q_on b m := by
  induction j with
  | zero => intro _; rfl
  | succ j ih =>
    intro h
    rw [← Nat.add_assoc, q_on_s, ih (by omega), hb (m + j) (by omega) (by omega), Nat.add_zero]
theorem q_on_top {b : Nat} (hb : bOK S b) (h3 : S 3 ≤ 16) : q_on b 16 = q_on b (S 3) := by
  have := q_on_all b (S 3) (fun g h1 h2 => by
    rcases Nat.mod_two_eq_zero_or_one (b / 2 ^ g) with e | e
    · exact e
    · have := hb.2.2 g h2 e
      omega) (16 - S 3) (by omega)
  rw [show S 3 + (16 - S 3) = 16 by omega] at this
  exact this
theorem q_dsk_pos (c s : Nat) : 1 ≤ q_dsk c s := by
  unfold q_dsk
  omega
theorem q_wl_pos (c : Nat) (pos : Nat → Nat) (k b s : Nat) : 1 ≤ q_wl c pos k b s := by
  induction k generalizing b s with
  | zero => rw [q_wl]; exact q_dsk_pos c s
  | succ k ih =>
    rw [q_wl]
    split
    · exact q_dsk_pos c s
    · rename_i g e
      have := ih (b ^^^ 2 ^ g) (pos g)
      omega
theorem q_sg_bits {b k m : Nat} (hk : k ≤ m) (hm : m ≤ 16) : q_sg (q_bits S b m) k = q_sg S k + q_on b k := by
  induction k with
  | zero => rfl
  | succ k ih =>
    rw [q_sg, q_sg, q_on_s, ih (by omega)]
    have : q_bits S b m (5 + 4 * k) = S (5 + 4 * k) + b / 2 ^ k % 2 := by
      unfold q_bits
      rw [if_pos (by omega), show (5 + 4 * k - 4) / 4 = k from by omega]
    rw [this]
    omega
theorem Wt_pk {b len : Nat} (h : Wt S hi) (w : Wf S sp hi) (hb : bOK S b) (hm : S 69 < 12) (hl : 0 < len) (hl5 : len ≤ 500) : Wt (q_pk S b len (q_unl (b :: hi))) (b :: hi) := by
  obtain ⟨a1, a2, a3, a4, a5, a6⟩ := h
  have w3 := w.1.1
  have w70 := w.2.2.2.2.1.1
  have fo : ∀ j, (j < 4 ∨ 68 ≤ j ∨ j % 4 = 0 ∨ j % 4 = 3) → j ≠ 69 → j ≠ 120 → j ≠ 122 → j ≠ 71 + 2 * S 69 → j ≠ 72 + 2 * S 69 → q_pk S b len (q_unl (b :: hi)) j = S j := by
    intro j a1 a2 a3 a4 a5 a6
    unfold q_pk
    rw [q_bits_o (by omega), up1_miss a4, up1_miss a3, q_day_k a2 a5 a6]
  have f69 : q_pk S b len (q_unl (b :: hi)) 69 = S 69 + 1 := by
    unfold q_pk
    rw [q_bits_o (by omega), up1_miss (by omega), up1_miss (by omega)]
    exact up1_at
  have f120 : q_pk S b len (q_unl (b :: hi)) 120 = S 120 + len := by
    unfold q_pk
    rw [q_bits_o (by omega), up1_miss (by omega), up1_at]
  have fb : q_pk S b len (q_unl (b :: hi)) (71 + 2 * S 69) = b := by
    unfold q_pk
    rw [q_bits_o (by omega), up1_miss (by omega), up1_miss (by omega)]
    unfold q_day
    rw [up1_miss (by omega), up1_miss (by omega), up1_at]
  have fl : q_pk S b len (q_unl (b :: hi)) (72 + 2 * S 69) = len := by
    unfold q_pk
    rw [q_bits_o (by omega), up1_miss (by omega), up1_miss (by omega)]
    unfold q_day
    rw [up1_miss (by omega), up1_at]
  have f3 := fo 3 (by omega) (by omega) (by omega) (by omega) (by omega) (by omega)
  have f70 := fo 70 (by omega) (by omega) (by omega) (by omega) (by omega) (by omega)
  have fp : ∀ g, g < 16 → ∀ i, i = 5 + 4 * g ∨ i = 6 + 4 * g → q_pk S b len (q_unl (b :: hi)) i = S i + (if g < S 3 then b / 2 ^ g % 2 else 0) := by
    intro g hg i hi2
    have e5 : up1 (up1 (q_day S b len) 120 (S 120 + len)) 122 (q_unl (b :: hi)) i = S i := by
      rw [up1_miss (by omega), up1_miss (by omega), q_day_k (by omega) (by omega) (by omega)]
    unfold q_pk q_bits
    rw [e5]
    by_cases c : g < S 3
    · rw [if_pos (by omega), if_pos c, show (i - 4) / 4 = g from by omega]
    · rw [if_neg (by omega), if_neg c, Nat.add_zero]
  refine ⟨fun g hg => ?_, ?_, fun k hk => ?_, ?_, ?_, ?_⟩
  · have hbit : b / 2 ^ g % 2 < 2 := Nat.mod_lt _ (by decide)
    rw [fp g hg _ (Or.inl rfl), fp g hg _ (Or.inr rfl), List.length_cons]
    have := a1 g hg
    split <;> omega
  · rw [f3, f69, q_sb, fb, q_sb_eq (S := S) fun g hg => fo _ (by omega) (by omega) (by omega) (by omega) (by omega) (by omega), q_on_top hb w3, ← a2]
    unfold q_pk
    rw [q_sg_bits (Nat.le_refl _) w3]
    congr 1
    exact q_sg_eq fun g hg => by rw [up1_miss (by omega), up1_miss (by omega), q_day_k (by omega) (by omega) (by omega)]
  · rw [f69] at hk
    by_cases e : k = S 69
    · subst e
      rw [fb]
      exact List.mem_cons_self
    · rw [fo _ (by omega) (by omega) (by omega) (by omega) (by omega) (by omega)]
      exact List.mem_cons_of_mem _ (a3 k (by omega))
  · rw [f69, f70, f120, q_tog_s, fl, q_tog_eq (S := S) (o := 72) fun g hg => fo _ (by omega) (by omega) (by omega) (by omega) (by omega) (by omega), q_tog_eq (S := S) (o := 96) fun g hg => fo _ (by omega) (by omega) (by omega) (by omega) (by omega) (by omega)]
    omega
  · rw [f120, List.length_cons]
    omega
  · rw [f120]
    constructor
    · intro e; omega
    · intro e; cases e
theorem Wt_pick {x : Int32} (h : Wt S hi) (w : Wf S sp hi) : Wt (q_pick S hi x).2.1 (q_pick S hi x).2.2 := by
  unfold q_pick
  by_cases c : q_err S x = nI 0
  · rw [if_pos c]
    by_cases c2 : 12 ≤ S 69
    · rw [if_pos c2]; exact h
    · rw [if_neg c2]
      have hb := (q_err_ok w.1.1 c).1
      exact Wt_pk h w hb (by omega) (by unfold q_len; omega) (q_len_le w.1 w.2.1.2.2 hb)
  · rw [if_neg c]; exact h
theorem Wt_night (h : Wt S hi) (w : Wf S sp hi) : Wt (q_night S sp).2.1 hi := by
  unfold q_night
  by_cases c : 9999 ≤ S 119
  · rw [if_pos c]; exact h
  · rw [if_neg c]
    dsimp only
    have w1 := w.1.1
    have kk := q_nl_k (sp := q_age S sp (S 3)) (S 0) S w.1.1
    have k5 := q_nl_p (sp := q_age S sp (S 3)) (S 0) S
    generalize (q_nl (q_age S sp (S 3)) (S 0) S) = r at kk k5
    generalize hT : up1 r.2 121 (r.2 121 + r.1) = T
    have hD1 := w.2.2.2.1.1
    have tk : ∀ k, (k < 4 ∨ 68 ≤ k) → k ≠ 121 → T k = S k := by
      intro k hk h1
      rw [← hT, up1_miss h1]
      exact kk k hk
    have t5 : ∀ k, k < 68 → k % 4 ≠ 0 → k % 4 ≠ 3 → T k = S k := by
      intro k hk h1 h2
      rw [← hT, up1_miss (by omega)]
      exact k5 _ h1 h2
    have t3 : T 3 = S 3 := tk 3 (by omega) (by omega)
    have o3 : q_oldS T 3 = T 3 := by
      unfold q_oldS
      rw [if_neg (by omega), if_neg (by omega)]
    have e1 : ∀ k, k ≠ 69 → k ≠ 70 → k ≠ 119 → (k < 95 ∨ 119 ≤ k) → (k < 4 ∨ 68 ≤ k ∨ k % 4 ≠ 1) → q_end T k = T k := by
      intro k a1 a2 a3 a4 a5
      unfold q_end
      rw [up1_miss a3]
      unfold q_zp
      rw [if_neg (by omega), up1_miss a1]
      unfold q_oldS
      rw [if_neg a2, if_neg (by omega)]
    have e69 : q_end T 69 = 0 := by
      unfold q_end
      rw [up1_miss (by omega)]
      unfold q_zp
      rw [if_neg (by omega), up1_at]
    have eold : ∀ k, k = 70 ∨ (95 ≤ k ∧ k < 119) → q_end T k = if k = 70 then T 69 else T (k - 24) := by
      intro k a1
      unfold q_end
      rw [up1_miss (by omega)]
      unfold q_zp
      rw [if_neg (by omega), up1_miss (by omega)]
      unfold q_oldS
      by_cases c : k = 70
      · rw [if_pos c, if_pos c]
      · rw [if_neg c, if_neg c, if_pos (by omega)]
    have ep : ∀ g, g < 16 → q_end T (5 + 4 * g) = if g < S 3 then 0 else T (5 + 4 * g) := by
      intro g hg
      unfold q_end
      rw [up1_miss (by omega)]
      unfold q_zp
      rw [t3]
      by_cases c : g < S 3
      · rw [if_pos (by omega), if_pos c]
      · rw [if_neg (by omega), if_neg c, up1_miss (by omega)]
        unfold q_oldS
        rw [if_neg (by omega), if_neg (by omega)]
    have t69 : T 69 = S 69 := tk 69 (by omega) (by omega)
    have q3 : q_end T 3 = S 3 := (e1 3 (by omega) (by omega) (by omega) (by omega) (by omega)).trans t3
    have q70 : q_end T 70 = S 69 := by rw [eold 70 (by omega), if_pos rfl, t69]
    have q120 : q_end T 120 = S 120 := (e1 120 (by omega) (by omega) (by omega) (by omega) (by omega)).trans (tk 120 (by omega) (by omega))
    have q6 : ∀ g, g < 16 → q_end T (6 + 4 * g) = S (6 + 4 * g) := fun g hg => (e1 _ (by omega) (by omega) (by omega) (by omega) (by omega)).trans (t5 _ (by omega) (by omega) (by omega))
    have q5 : ∀ g, g < 16 → q_end T (5 + 4 * g) = 0 := fun g hg => by
      rw [ep g hg]
      by_cases c : g < S 3
      · rw [if_pos c]
      · rw [if_neg c, t5 _ (by omega) (by omega) (by omega)]
        exact (w.2.2.2.2.2.2.1 g hg).2 (by omega)
    have z : ∀ k, k ≤ 16 → q_sg (q_end T) k = 0 := by
      intro k
      induction k with
      | zero => intro _; rfl
      | succ k ih => intro hk; rw [q_sg, ih (by omega), q5 k (by omega)]
    obtain ⟨a1, a2, a3, a4, a5, a6⟩ := h
    refine ⟨fun g hg => ?_, ?_, fun k hk => by rw [e69] at hk; omega, ?_, by rw [q120]; exact a5, by rw [q120]; exact a6⟩
    · rw [q5 g hg, q6 g hg]
      exact ⟨Nat.zero_le _, (a1 g hg).2⟩
    · rw [e69, q3, z _ w1]
      rfl
    · rw [e69, q70, q120, q_tog_eq (S := S) (o := 72) (o' := 96) fun g hg => by
        rw [eold _ (by omega), if_neg (by omega), tk _ (by omega) (by omega)]
        congr 1
        omega]
      have : q_tog (q_end T) 72 0 = 0 := rfl
      omega
end WFT
