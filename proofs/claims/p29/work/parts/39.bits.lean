section BITS
variable {lay : mL} {d a n n' : Nat} {I I' : mI} {F F' : mF} {R R' : mR} {Q : mP}
/-- floats and doubles that are numbers not below 0 -/
def fOK (x : UInt32) : Prop := x.toNat < 2139095040
def gOK (x : UInt64) : Prop := x.toNat = 0 ∨ (4503599627370496 ≤ x.toNat ∧ x.toNat < 9218868437227405312)
def q_fb (x : UInt32) : Int32 := nI x.toNat
def q_lb (x : UInt64) : Int64 := Int64.ofNat x.toNat
theorem s_ofFloat {x : UInt32} (hx : fOK x) (hd : 1 ≤ d) : Ev lay d 50 0 [.float x, m_j, m_j] [] I F R n Q ↔ Q (some (.int (q_fb x))) I F R n := s_ofFloat' hx hd
theorem s_ofDouble {x : UInt64} (hx : gOK x) (hd : 1 ≤ d) : Ev lay d 62 0 [.double x, m_j, m_j, m_j, m_j] [] I F R n Q ↔ Q (some (.long (q_lb x))) I F R n := s_ofDouble' hx hd
end BITS
/-- a float that is a number from 0 to B -/
def fLe (x : UInt32) (B : Nat) : Prop := fG FP.Core.b32 x.toNat ∧ fV FP.Core.b32 x.toNat ≤ B * 2 ^ 149
theorem fLe_mono {x : UInt32} {A B : Nat} (h : fLe x A) (hab : A ≤ B) : fLe x B := ⟨h.1, Nat.le_trans h.2 (Nat.mul_le_mul_right _ hab)⟩
/-- speeds that 9999 nights can make -/
def spOK (N : Nat) (sp : Nat → UInt32) (m : Nat) : Prop := ∀ g, g < 16 → fLe (sp g) (12 * N) ∧ (m ≤ g → sp g = 0)
section SUMS
theorem fB_lt {C : Nat} (h : C < 16777216) : fRp FP.Core.b32 (C * 2 ^ 149) := fl_rp h (by decide)
theorem fB_23 {k : Nat} (h : k < 16777216) : fRp FP.Core.b32 (k * 8388608 * 2 ^ 149) := by
  refine ⟨k, 172, ?_, by decide, ?_⟩
  · rw [show 2 ^ FP.Core.b32.p = 16777216 by decide +kernel]; exact h
  · rw [show 2 ^ 172 = 8388608 * 2 ^ 149 by decide +kernel, Nat.mul_assoc]
theorem fLe_of {z : Nat} {C : Nat} (h : fG FP.Core.b32 z) (hv : fV FP.Core.b32 z ≤ C * 2 ^ 149) : fLe (UInt32.ofNat z) C := by
  have e : (UInt32.ofNat z).toNat = z := fl_n (fl_G.mp h)
  unfold fLe
  rw [e]
  exact ⟨h, hv⟩
theorem fLe_mul {x y : UInt32} {A B C : Nat} (hx : fLe x A) (hy : fLe y B) (h : A * B ≤ C) (hC : fRp FP.Core.b32 (C * 2 ^ 149)) : fLe (FP.fmul x y) C := by
  have k : fV FP.Core.b32 x.toNat * fV FP.Core.b32 y.toNat ≤ C * 2 ^ 149 * 2 ^ fu FP.Core.b32 := by
    rw [fl_fu]
    calc fV FP.Core.b32 x.toNat * fV FP.Core.b32 y.toNat ≤ A * 2 ^ 149 * (B * 2 ^ 149) := Nat.mul_le_mul hx.2 hy.2
      _ = A * B * 2 ^ 149 * 2 ^ 149 := by rw [Nat.mul_mul_mul_comm, Nat.mul_assoc (A * B)]
      _ ≤ C * 2 ^ 149 * 2 ^ 149 := Nat.mul_le_mul_right _ (Nat.mul_le_mul_right _ h)
  have r := rd_mul fGd32 hx.1 hy.1 ⟨_, hC, k⟩
  exact fLe_of r.1 (r.2.1 _ hC k)
theorem fLe_add {x y : UInt32} {A B C : Nat} (hx : fLe x A) (hy : fLe y B) (h : A + B ≤ C) (hC : fRp FP.Core.b32 (C * 2 ^ 149)) : fLe (FP.fadd x y) C := by
  have k : fV FP.Core.b32 x.toNat + fV FP.Core.b32 y.toNat ≤ C * 2 ^ 149 := by
    calc fV FP.Core.b32 x.toNat + fV FP.Core.b32 y.toNat ≤ A * 2 ^ 149 + B * 2 ^ 149 := Nat.add_le_add hx.2 hy.2
      _ = (A + B) * 2 ^ 149 := (Nat.add_mul ..).symm
      _ ≤ C * 2 ^ 149 := Nat.mul_le_mul_right _ h
  have r := rd_add fGd32 hx.1 hy.1 ⟨_, hC, k⟩
  exact fLe_of r.1 (r.2.1 _ hC (by rw [Nat.mul_one]; exact k))
theorem fLe_d100 {x : UInt32} {A C : Nat} (hx : fLe x A) (h : A ≤ C * 100) (hC : fRp FP.Core.b32 (C * 2 ^ 149)) : fLe (FP.fdiv x 1120403456) C := by
  have hy : fG FP.Core.b32 (1120403456 : UInt32).toNat := fl_G.mpr (by decide)
  have ey : fV FP.Core.b32 (1120403456 : UInt32).toNat = 100 * 2 ^ 149 := by decide +kernel
  have k : fV FP.Core.b32 x.toNat * 2 ^ fu FP.Core.b32 ≤ C * 2 ^ 149 * fV FP.Core.b32 (1120403456 : UInt32).toNat := by
    rw [fl_fu, ey]
    calc fV FP.Core.b32 x.toNat * 2 ^ 149 ≤ A * 2 ^ 149 * 2 ^ 149 := Nat.mul_le_mul_right _ hx.2
      _ ≤ C * 100 * 2 ^ 149 * 2 ^ 149 := Nat.mul_le_mul_right _ (Nat.mul_le_mul_right _ h)
      _ = C * 2 ^ 149 * (100 * 2 ^ 149) := by rw [Nat.mul_assoc, Nat.mul_mul_mul_comm]
  have r := rd_div fGd32 hx.1 hy (by rw [ey]; exact Nat.mul_pos (by decide) (Nat.two_pow_pos _)) ⟨_, hC, k⟩
  exact fLe_of r.1 (r.2.1 _ hC k)
theorem fLe_int {m : Nat} (h : m < 16777216) : fLe (FP.i2f (nI m)) m := by
  have hC := fB_lt h
  have k : m * 2 ^ fu FP.Core.b32 ≤ m * 2 ^ 149 := by rw [fl_fu]; exact Nat.le_refl _
  have r := rd_int (m := m) fGd32 ⟨_, hC, k⟩
  have e : (nI m).toInt = (m : Int) := nI_toInt (by omega)
  show fLe (UInt32.ofNat (FP.Core.fromInt FP.Core.b32 (nI m).toInt)) m
  rw [e]
  exact fLe_of r.1 (r.2.1 _ hC (by rw [Nat.mul_one]; exact k))
theorem fLe_0 {B : Nat} : fLe 0 B := ⟨fl_G.mpr (by decide), by
  have e : fV FP.Core.b32 (0 : UInt32).toNat = 0 := by decide +kernel
  rw [e]
  exact Nat.zero_le _⟩
theorem fLe_ok {x : UInt32} {B : Nat} (h : fLe x B) : fOK x := fl_G.mp h.1
theorem fLe_vf {x : UInt32} {B : Nat} (h : fLe x B) : vf_n32 x := by
  have := fl_vf (fLe_ok h)
  rw [← fl_of] at this
  exact this.mpr trivial
theorem age_le9 {c p N : Nat} {x : UInt32} (hc : c ≤ 100) (hp : p ≤ 12) (hN : N ≤ 9999) (hx : fLe x (12 * N)) : q_aok1 c p x ∧ fLe (q_agef c p x) (12 * (N + 1)) := by
  have m1 : 12 * N * c ≤ 12 * N * 100 := Nat.mul_le_mul_left _ hc
  have m2 : p * (100 - c) ≤ 12 * 100 := Nat.mul_le_mul hp (by omega)
  have a1 := fLe_mul hx (fLe_int (m := c) (by omega)) m1 (fB_lt (by omega))
  have a2 := fLe_d100 a1 (Nat.le_refl _) (fB_lt (by omega))
  have a3 := fLe_mul (fLe_int (m := p) (by omega)) (fLe_int (m := 100 - c) (by omega)) m2 (fB_lt (by omega))
  have a4 := fLe_d100 (C := 12) a3 (by omega) (fB_lt (by omega))
  have a5 := fLe_add a2 a4 (C := 12 * (N + 1)) (by omega) (fB_lt (by omega))
  exact ⟨⟨fLe_vf a1, fLe_vf a2, fLe_vf a3, fLe_vf a4, fLe_vf a5⟩, a5⟩
theorem wsum_ok {T : Nat → Nat} {sp : Nat → UInt32} {N : Nat} (hN : N ≤ 10000) (w : Wsh T) (hc : T 2 ≤ 9) (hs : ∀ g, g < 16 → fLe (sp g) (12 * N)) : q_wok T sp ∧ fOK (q_wsum T sp (T 3)) := by
  have w1 := w.1
  have tm : ∀ k, k < T 3 → fLe (FP.fmul (sp k) (FP.i2f (nI (q_dsk (T 2) (T (4 + 4 * k)))))) 8388608 := fun k hk => by
    have hd := q_dsk_le (s := T (4 + 4 * k)) hc (w.2.1 k hk)
    refine fLe_mul (hs k (by omega)) (fLe_int (by omega)) ?_ (fB_lt (by omega))
    calc 12 * N * q_dsk (T 2) (T (4 + 4 * k)) ≤ 120000 * 60 := Nat.mul_le_mul (by omega) hd
      _ ≤ 8388608 := by decide
  have su : ∀ k, k ≤ T 3 → fLe (q_wsum T sp k) (k * 8388608) := by
    intro k
    induction k with
    | zero => intro _; exact fLe_0
    | succ k ih =>
      intro hk
      exact fLe_add (ih (by omega)) (tm k (by omega)) (Nat.le_of_eq (Nat.succ_mul ..).symm) (fB_23 (by omega))
  exact ⟨fun k hk => ⟨fLe_vf (tm k hk), fLe_vf (su (k + 1) hk)⟩, fLe_ok (su _ (Nat.le_refl _))⟩
-- the mean
def gI (x : UInt64) (K : Nat) : Prop := fG FP.Core.b64 x.toNat ∧ fV FP.Core.b64 x.toNat ≤ K * 2 ^ 1091 ∧ (fV FP.Core.b64 x.toNat = 0 ∨ 2 ^ 925 ≤ fV FP.Core.b64 x.toNat)
theorem gB {k t : Nat} (h : k < 9007199254740992) (ht : t ≤ 1091) : fRp FP.Core.b64 (k * 2 ^ t) := by
  refine ⟨k, t, ?_, ?_, rfl⟩
  · rw [show 2 ^ FP.Core.b64.p = 9007199254740992 by decide +kernel]; exact h
  · have e1 : FP.Core.b64.qmin = -1074 := by decide +kernel
    have e2 : (1091 : Int) ≤ FP.Core.b64.qmax + 1074 := by decide +kernel
    omega
theorem gI_of {z : Nat} {K : Nat} (h : fG FP.Core.b64 z) (hv : fV FP.Core.b64 z ≤ K * 2 ^ 1091) (h0 : fV FP.Core.b64 z = 0 ∨ 2 ^ 925 ≤ fV FP.Core.b64 z) : gI (UInt64.ofNat z) K := by
  have e : (UInt64.ofNat z).toNat = z := dl_n (dl_G.mp h)
  unfold gI
  rw [e]
  exact ⟨h, hv, h0⟩
theorem g925 : fRp FP.Core.b64 (2 ^ 925) := by
  have := gB (k := 1) (t := 925) (by decide) (by decide)
  rw [Nat.one_mul] at this
  exact this
theorem gRp0 : fRp FP.Core.b64 0 := by
  have := gB (k := 0) (t := 0) (by decide) (by decide)
  rw [Nat.zero_mul] at this
  exact this
theorem gI_f2d {x : UInt32} {B : Nat} (h : fLe x B) (hB : B ≤ 131072) : gI (FP.f2d x) 1 := by
  have hx := fl_G.mp h.1
  have hn : FP.Core.fIsNaN x = false := by
    have := f_nan hx
    rw [← fl_of] at this
    exact this
  have k : fV FP.Core.b32 x.toNat * 2 ^ 925 ≤ 1 * 2 ^ 1091 := by
    calc fV FP.Core.b32 x.toNat * 2 ^ 925 ≤ 131072 * 2 ^ 149 * 2 ^ 925 := Nat.mul_le_mul_right _ (Nat.le_trans h.2 (Nat.mul_le_mul_right _ hB))
      _ = 1 * 2 ^ 1091 := by decide +kernel
  have hC := gB (k := 1) (t := 1091) (by decide) (by decide)
  have r := rd_conv (k := 925) fGd32 fGd64 h.1 (by rw [fl_fu, dl_fu]) ⟨_, hC, k⟩
  unfold FP.f2d
  rw [hn, if_neg (by decide)]
  refine gI_of r.1 (r.2.1 _ hC (by rw [Nat.mul_one]; exact k)) ?_
  by_cases c : fV FP.Core.b32 x.toNat = 0
  · exact Or.inl (Nat.le_zero.mp (r.2.1 _ gRp0 (by rw [c]; exact Nat.le_of_eq (Nat.zero_mul _))))
  · exact Or.inr (r.2.2 _ g925 (by rw [Nat.mul_one]; exact Nat.le_mul_of_pos_left _ (Nat.pos_of_ne_zero c)))
theorem gI_add {x y : UInt64} {A B : Nat} (hx : gI x A) (hy : gI y B) (h : A + B < 9007199254740992) : gI (FP.dadd x y) (A + B) := by
  have k : fV FP.Core.b64 x.toNat + fV FP.Core.b64 y.toNat ≤ (A + B) * 2 ^ 1091 := by
    rw [Nat.add_mul]
    exact Nat.add_le_add hx.2.1 hy.2.1
  have hC := gB (k := A + B) (t := 1091) h (Nat.le_refl _)
  have r := rd_add fGd64 hx.1 hy.1 ⟨_, hC, k⟩
  refine gI_of r.1 (r.2.1 _ hC (by rw [Nat.mul_one]; exact k)) ?_
  rcases hx.2.2 with c | c
  · rcases hy.2.2 with e | e
    · exact Or.inl (Nat.le_zero.mp (r.2.1 _ gRp0 (by rw [c, e]; exact Nat.zero_le _)))
    · exact Or.inr (r.2.2 _ g925 (by rw [Nat.mul_one]; exact Nat.le_trans e (Nat.le_add_left _ _)))
  · exact Or.inr (r.2.2 _ g925 (by rw [Nat.mul_one]; exact Nat.le_trans c (Nat.le_add_right _ _)))
theorem gI_vf {x : UInt64} {K : Nat} (h : gI x K) : vf_n64 x := by
  have := dl_vf (dl_G.mp h.1)
  rw [← dl_of] at this
  exact this.mpr trivial
theorem g_int {m : Nat} (h : m ≤ 16) : fG FP.Core.b64 (FP.i2d (nI m)).toNat ∧ fV FP.Core.b64 (FP.i2d (nI m)).toNat = m * 2 ^ 1074 := by
  have hC := gB (k := m) (t := 1074) (by omega) (by decide)
  have k : m * 2 ^ fu FP.Core.b64 ≤ m * 2 ^ 1074 := by rw [dl_fu]; exact Nat.le_refl _
  have r := rd_int (m := m) fGd64 ⟨_, hC, k⟩
  obtain ⟨g1, g2⟩ := rd_exact r (by decide) hC (by rw [dl_fu, Nat.mul_one])
  have e : (nI m).toInt = (m : Int) := nI_toInt (by omega)
  have e2 : (FP.i2d (nI m)).toNat = FP.Core.fromInt FP.Core.b64 (m : Int) := by
    show (dl (FP.Core.fromInt FP.Core.b64 (nI m).toInt)).toNat = _
    rw [e, dl_n (dl_G.mp g1)]
  rw [e2]
  exact ⟨g1, g2⟩
theorem g_div {x : UInt64} {m : Nat} (hx : gI x 16) (h1 : 1 ≤ m) (h : m ≤ 16) : vf_n64 (FP.ddiv x (FP.i2d (nI m))) ∧ gOK (FP.ddiv x (FP.i2d (nI m))) := by
  obtain ⟨g1, g2⟩ := g_int h
  have hC := gB (k := 16) (t := 1091) (by decide) (by decide)
  have hm : 2 ^ 1074 ≤ m * 2 ^ 1074 := Nat.le_mul_of_pos_left _ h1
  have k : fV FP.Core.b64 x.toNat * 2 ^ fu FP.Core.b64 ≤ 16 * 2 ^ 1091 * fV FP.Core.b64 (FP.i2d (nI m)).toNat := by
    rw [dl_fu, g2]
    exact Nat.mul_le_mul hx.2.1 hm
  have r := rd_div fGd64 hx.1 g1 (by rw [g2]; exact Nat.mul_pos h1 (Nat.two_pow_pos _)) ⟨_, hC, k⟩
  have hz := dl_G.mp r.1
  have e : (FP.ddiv x (FP.i2d (nI m))).toNat = FP.Core.div FP.Core.b64 x.toNat (FP.i2d (nI m)).toNat := dl_n hz
  refine ⟨(dl_vf hz).mpr trivial, ?_⟩
  unfold gOK
  rw [e]
  rcases hx.2.2 with c | c
  · refine Or.inl ?_
    have h0 := Nat.le_zero.mp (r.2.1 _ gRp0 (by rw [c]; exact Nat.le_of_eq (by rw [Nat.zero_mul, Nat.zero_mul])))
    rw [dl_V hz] at h0
    exact fW_inj (f := FP.Core.b64) (y := 0) (h0.trans (by decide +kernel))
  · refine Or.inr ⟨?_, hz⟩
    have h2 := gB (k := 1) (t := 921) (by decide) (by decide)
    have h3 := r.2.2 _ h2 (by
      rw [g2, dl_fu]
      calc 1 * 2 ^ 921 * (m * 2 ^ 1074) ≤ 1 * 2 ^ 921 * (16 * 2 ^ 1074) := Nat.mul_le_mul_left _ (Nat.mul_le_mul_right _ h)
        _ = 2 ^ 925 * 2 ^ 1074 := by decide +kernel
        _ ≤ fV FP.Core.b64 x.toNat * 2 ^ 1074 := Nat.mul_le_mul_right _ c)
    apply Nat.le_of_not_lt
    intro q
    rw [dl_V hz, fW_sub (by rw [dl_tl]; exact q), Nat.one_mul] at h3
    have h4 : 2 ^ 52 ≤ 2 ^ 921 := Nat.pow_le_pow_right (by decide) (by decide)
    exact absurd (Nat.lt_of_lt_of_le q (show 4503599627370496 ≤ 2 ^ 921 from h4)) (Nat.not_lt.mpr h3)
theorem mean_ok {T : Nat → Nat} {sp : Nat → UInt32} {N : Nat} (hN : N ≤ 10000) (w : T 3 ≤ 16) (hs : ∀ g, g < 16 → fLe (sp g) (12 * N)) : q_mok T sp ∧ gOK (q_mean T sp) := by
  have tm : ∀ k, k < T 3 → gI (FP.f2d (sp k)) 1 := fun k hk => gI_f2d (hs k (by omega)) (by omega)
  have su : ∀ k, k ≤ T 3 → gI (q_msum sp k) k := by
    intro k
    induction k with
    | zero =>
      intro _
      have e : fV FP.Core.b64 (0 : UInt64).toNat = 0 := by decide +kernel
      exact ⟨dl_G.mpr (show (0 : Nat) < 9218868437227405312 by decide), by rw [show q_msum sp 0 = 0 from rfl, e]; exact Nat.zero_le _, Or.inl e⟩
    | succ k ih =>
      intro hk
      exact gI_add (ih (by omega)) (tm k (by omega)) (by omega)
  have s16 : gI (q_msum sp (T 3)) 16 := by
    obtain ⟨a1, a2, a3⟩ := su _ (Nat.le_refl _)
    exact ⟨a1, Nat.le_trans a2 (Nat.mul_le_mul_right _ w), a3⟩
  have dv : T 3 ≠ 0 → _ := fun h0 => g_div s16 (Nat.pos_of_ne_zero h0) w
  refine ⟨⟨fun k hk => ⟨gI_vf (tm k hk), gI_vf (su (k + 1) hk)⟩, fun h0 => (dv h0).1⟩, ?_⟩
  unfold q_mean
  split
  · exact Or.inl rfl
  · rename_i h0
    exact (dv h0).2
theorem age_le {c p N : Nat} {x : UInt32} (hc : c ≤ 100) (hp : p ≤ 12) (hN : N < 9999) (hx : fLe x (12 * N)) : q_aok1 c p x ∧ fLe (q_agef c p x) (12 * (N + 1)) := age_le9 hc hp (by omega) hx
end SUMS
