section FPB
theorem cv_lt {X Y : Nat} {o : CmpOp} : (Op.cmpValue (some (compare X Y)) o < nI 0) ↔ X < Y := by
  rcases Nat.lt_trichotomy X Y with q | q | q
  · rw [Nat.compare_eq_lt.mpr q]; exact iff_of_true (show (-1 : Int32) < nI 0 by decide) q
  · rw [Nat.compare_eq_eq.mpr q]; exact iff_of_false (show ¬ (0 : Int32) < nI 0 by decide) (by omega)
  · rw [Nat.compare_eq_gt.mpr q]; exact iff_of_false (show ¬ (1 : Int32) < nI 0 by decide) (by omega)
theorem cv_le {X Y : Nat} {o : CmpOp} : (Op.cmpValue (some (compare X Y)) o ≤ nI 0) ↔ X ≤ Y := by
  rcases Nat.lt_trichotomy X Y with q | q | q
  · rw [Nat.compare_eq_lt.mpr q]; exact iff_of_true (show (-1 : Int32) ≤ nI 0 by decide) (by omega)
  · rw [Nat.compare_eq_eq.mpr q]; exact iff_of_true (show (0 : Int32) ≤ nI 0 by decide) (by omega)
  · rw [Nat.compare_eq_gt.mpr q]; exact iff_of_false (show ¬ (1 : Int32) ≤ nI 0 by decide) (by omega)
theorem cv_ge {X Y : Nat} {o : CmpOp} : (nI 0 ≤ Op.cmpValue (some (compare X Y)) o) ↔ Y ≤ X := by
  rcases Nat.lt_trichotomy X Y with q | q | q
  · rw [Nat.compare_eq_lt.mpr q]; exact iff_of_false (show ¬ nI 0 ≤ (-1 : Int32) by decide) (by omega)
  · rw [Nat.compare_eq_eq.mpr q]; exact iff_of_true (show nI 0 ≤ (0 : Int32) by decide) (by omega)
  · rw [Nat.compare_eq_gt.mpr q]; exact iff_of_true (show nI 0 ≤ (1 : Int32) by decide) (by omega)
theorem cv_gt {X Y : Nat} {o : CmpOp} : (nI 0 < Op.cmpValue (some (compare X Y)) o) ↔ Y < X := by
  rcases Nat.lt_trichotomy X Y with q | q | q
  · rw [Nat.compare_eq_lt.mpr q]; exact iff_of_false (show ¬ nI 0 < (-1 : Int32) by decide) (by omega)
  · rw [Nat.compare_eq_eq.mpr q]; exact iff_of_false (show ¬ nI 0 < (0 : Int32) by decide) (by omega)
  · rw [Nat.compare_eq_gt.mpr q]; exact iff_of_true (show nI 0 < (1 : Int32) by decide) (by omega)
theorem cv_eq {X Y : Nat} {o : CmpOp} : (Op.cmpValue (some (compare X Y)) o = nI 0) ↔ X = Y := by
  rcases Nat.lt_trichotomy X Y with q | q | q
  · rw [Nat.compare_eq_lt.mpr q]; exact iff_of_false (show ¬ (-1 : Int32) = nI 0 by decide) (by omega)
  · rw [Nat.compare_eq_eq.mpr q]; exact iff_of_true (show (0 : Int32) = nI 0 by decide) (by omega)
  · rw [Nat.compare_eq_gt.mpr q]; exact iff_of_false (show ¬ (1 : Int32) = nI 0 by decide) (by omega)
theorem fW_at {f : FP.Core.Fmt} {E T : Nat} (hE : 1 ≤ E) (hT : T < f.tails) : fW f (E * f.tails + T) = (f.tails + T) * 2 ^ (E - 1) := by
  have e : E * f.tails + T = T + f.tails * E := by rw [Nat.mul_comm]; omega
  unfold fW
  rw [e, Nat.add_mul_div_left _ _ fp_tails, Nat.div_eq_of_lt hT, Nat.zero_add, Nat.add_mul_mod_self_left, Nat.mod_eq_of_lt hT, if_neg (by omega)]
theorem cv_lt_t {X Y : Nat} {o : CmpOp} (h : X < Y) : (Op.cmpValue (some (compare X Y)) o < nI 0) ↔ True := iff_true_intro (cv_lt.mpr h)
theorem cv_lt_f {X Y : Nat} {o : CmpOp} (h : Y ≤ X) : (Op.cmpValue (some (compare X Y)) o < nI 0) ↔ False := iff_false_intro (fun q => by have := cv_lt.mp q; omega)
theorem cv_le_t {X Y : Nat} {o : CmpOp} (h : X ≤ Y) : (Op.cmpValue (some (compare X Y)) o ≤ nI 0) ↔ True := iff_true_intro (cv_le.mpr h)
theorem cv_le_f {X Y : Nat} {o : CmpOp} (h : Y < X) : (Op.cmpValue (some (compare X Y)) o ≤ nI 0) ↔ False := iff_false_intro (fun q => by have := cv_le.mp q; omega)
theorem cv_ge_t {X Y : Nat} {o : CmpOp} (h : Y ≤ X) : (nI 0 ≤ Op.cmpValue (some (compare X Y)) o) ↔ True := iff_true_intro (cv_ge.mpr h)
theorem cv_ge_f {X Y : Nat} {o : CmpOp} (h : X < Y) : (nI 0 ≤ Op.cmpValue (some (compare X Y)) o) ↔ False := iff_false_intro (fun q => by have := cv_ge.mp q; omega)
theorem cv_gt_t {X Y : Nat} {o : CmpOp} (h : Y < X) : (nI 0 < Op.cmpValue (some (compare X Y)) o) ↔ True := iff_true_intro (cv_gt.mpr h)
theorem cv_gt_f {X Y : Nat} {o : CmpOp} (h : X ≤ Y) : (nI 0 < Op.cmpValue (some (compare X Y)) o) ↔ False := iff_false_intro (fun q => by have := cv_gt.mp q; omega)
theorem cv_eq_t {X Y : Nat} {o : CmpOp} (h : X = Y) : (Op.cmpValue (some (compare X Y)) o = nI 0) ↔ True := iff_true_intro (cv_eq.mpr h)
theorem cv_eq_f {X Y : Nat} {o : CmpOp} (h : X ≠ Y) : (Op.cmpValue (some (compare X Y)) o = nI 0) ↔ False := iff_false_intro (fun q => by have := cv_eq.mp q; omega)
def fl (X : Nat) : UInt32 := UInt32.ofNat X
theorem fl_n {X : Nat} (h : X < 2139095040) : (fl X).toNat = X := by
  unfold fl
  rw [UInt32.toNat_ofNat']
  exact Nat.mod_eq_of_lt (by omega)
theorem fl_of (x : UInt32) : x = fl x.toNat := UInt32.ofNat_toNat.symm
theorem fl_G {X : Nat} : fG FP.Core.b32 X ↔ X < 2139095040 := by
  unfold fG
  rw [show (FP.Core.b32.exps - 1) * FP.Core.b32.tails = 2139095040 by decide +kernel]
theorem fl_tl : FP.Core.b32.tails = 8388608 := by decide +kernel
theorem fl_fu : fu FP.Core.b32 = 149 := by decide +kernel
theorem fl_at {E T : Nat} (hE : 1 ≤ E) (hT : T < 8388608) : fW FP.Core.b32 (E * 8388608 + T) = (8388608 + T) * 2 ^ (E - 1) := by
  have h := fW_at (f := FP.Core.b32) hE (T := T) (by rw [fl_tl]; exact hT)
  rw [fl_tl] at h
  exact h
theorem fl_V {X : Nat} (h : X < 2139095040) : fV FP.Core.b32 X = fW FP.Core.b32 X := fV_W (fl_G.mpr h)
theorem fl_vf {X : Nat} (h : X < 2139095040) : vf_n32 (fl X) ↔ True := by
  apply iff_true_intro
  unfold vf_n32
  rw [UInt32.le_iff_toNat_le, UInt32.toNat_and, fl_n h]
  exact Nat.le_trans Nat.and_le_left (show X ≤ 2139095040 by omega)
theorem fl_cmp {X Y : Nat} (hX : X < 2139095040) (hY : Y < 2139095040) : FP.fcmp (fl X) (fl Y) = some (compare X Y) := by
  show FP.Core.cmp FP.Core.b32 (fl X).toNat (fl Y).toNat = _
  rw [fl_n hX, fl_n hY]
  exact fp_cmp (by first | exact fGd32 | exact fGd64) (fl_G.mpr hX) (fl_G.mpr hY)
theorem fl_c2 {X : Nat} (hX : X < 2139095040) : FP.fcmp (fl X) 0x40000000 = some (compare X 1073741824) := fl_cmp hX (Y := 1073741824) (by omega)
theorem fl_c1 {X : Nat} (hX : X < 2139095040) : FP.fcmp (fl X) 0x3f800000 = some (compare X 1065353216) := fl_cmp hX (Y := 1065353216) (by omega)
theorem fl_c0 {X : Nat} (hX : X < 2139095040) : FP.fcmp (fl X) 0 = some (compare X 0) := fl_cmp hX (Y := 0) (by omega)
theorem fl_W2 : fW FP.Core.b32 1073741824 = 2 * 2 ^ 149 := by decide +kernel
theorem fl_W1 : fW FP.Core.b32 1065353216 = 2 ^ 149 := by decide +kernel
theorem fl_WS : fW FP.Core.b32 1258291200 = 2 ^ 172 := by decide +kernel
theorem fl_gd : fGd FP.Core.b32 := by first | exact fGd32 | exact fGd64
theorem fl_rp {c t : Nat} (hc : c < 16777216) (ht : t ≤ 149) : fRp FP.Core.b32 (c * 2 ^ t) := by
  refine ⟨c, t, ?_, ?_, rfl⟩
  · rw [show 2 ^ FP.Core.b32.p = 16777216 by decide +kernel]; exact hc
  · have e1 : FP.Core.b32.qmin = -149 := by decide +kernel
    have e2 : (149 : Int) ≤ FP.Core.b32.qmax + 149 := by decide +kernel
    omega
-- products and quotients that come out even
theorem fl_mul {X Y Z : Nat} (hX : X < 2139095040) (hY : Y < 2139095040) (hZ : Z < 2139095040) (e : fW FP.Core.b32 X * fW FP.Core.b32 Y = fW FP.Core.b32 Z * 2 ^ 149) : FP.fmul (fl X) (fl Y) = fl Z := by
  show UInt32.ofNat (FP.Core.mul FP.Core.b32 (fl X).toNat (fl Y).toNat) = fl Z
  rw [fl_n hX, fl_n hY]
  rw [← fl_V hX, ← fl_V hY, ← fl_V hZ, ← fl_fu] at e
  have r := rd_mul fl_gd (fl_G.mpr hX) (fl_G.mpr hY) ⟨_, fRp_of fl_gd (fl_G.mpr hZ), Nat.le_of_eq e⟩
  rw [rd_eq r (Nat.two_pow_pos _) fl_gd (fl_G.mpr hZ) e]
  rfl
theorem fl_div {X Y Z : Nat} (hX : X < 2139095040) (hY : Y < 2139095040) (hZ : Z < 2139095040) (h0 : 0 < fW FP.Core.b32 Y) (e : fW FP.Core.b32 X * 2 ^ 149 = fW FP.Core.b32 Z * fW FP.Core.b32 Y) : FP.fdiv (fl X) (fl Y) = fl Z := by
  show UInt32.ofNat (FP.Core.div FP.Core.b32 (fl X).toNat (fl Y).toNat) = fl Z
  rw [fl_n hX, fl_n hY]
  rw [← fl_V hX, ← fl_V hY, ← fl_V hZ, ← fl_fu] at e
  rw [← fl_V hY] at h0
  have r := rd_div fl_gd (fl_G.mpr hX) (fl_G.mpr hY) h0 ⟨_, fRp_of fl_gd (fl_G.mpr hZ), Nat.le_of_eq e⟩
  rw [rd_eq r h0 fl_gd (fl_G.mpr hZ) e]
  rfl
theorem fl_dblW {X : Nat} (h : 8388608 ≤ X) : fW FP.Core.b32 (X + 8388608) = 2 * fW FP.Core.b32 X := by
  have := fW_dbl (f := FP.Core.b32) (x := X) (by rw [fl_tl]; exact h)
  rw [fl_tl] at this
  exact this
theorem fl_half {X : Nat} (h : 16777216 ≤ X) (hX : X < 2139095040) : FP.fdiv (fl X) 0x40000000 = fl (X - 8388608) := by
  refine fl_div (Y := 1073741824) hX (by omega) (by omega) (by rw [fl_W2]; exact Nat.mul_pos (by decide) (Nat.two_pow_pos _)) ?_
  have := fl_dblW (X := X - 8388608) (by omega)
  rw [Nat.sub_add_cancel (by omega)] at this
  rw [this, fl_W2, ← Nat.mul_assoc, Nat.mul_comm 2]
theorem fl_dbl {X : Nat} (h : 8388608 ≤ X) (hX : X < 2130706432) : FP.fmul (fl X) 0x40000000 = fl (X + 8388608) := by
  refine fl_mul (Y := 1073741824) (by omega) (by omega) (by omega) ?_
  rw [fl_dblW h, fl_W2, ← Nat.mul_assoc, Nat.mul_comm 2]
theorem fl_dbls {X : Nat} (h : X < 8388608) : FP.fmul (fl X) 0x40000000 = fl (2 * X) := by
  refine fl_mul (Y := 1073741824) (by omega) (by omega) (by omega) ?_
  have h1 := fW_dbls (f := FP.Core.b32) (x := X) (by rw [fl_tl]; exact h)
  have h2 := fW_sub (f := FP.Core.b32) (x := X) (by rw [fl_tl]; exact h)
  rw [h1, h2, fl_W2, ← Nat.mul_assoc, Nat.mul_comm 2]
/-- times 2^23, cut to a whole number -/
theorem fl_scale {X T : Nat} (hX : X < 2139095040) (hT : T < 16777216) (e : fW FP.Core.b32 X * 2 ^ 23 = T * 2 ^ 149) : ∃ W, W < 2139095040 ∧ FP.fmul (fl X) 1258291200 = fl W ∧ FP.f2i (fl W) = nI T ∧ fW FP.Core.b32 W = T * 2 ^ 149 := by
  have hY : 1258291200 < 2139095040 := by omega
  have hw : fRp FP.Core.b32 (T * 2 ^ 149) := fl_rp hT (by omega)
  have e2 : fV FP.Core.b32 X * fV FP.Core.b32 1258291200 = T * 2 ^ 149 * 2 ^ fu FP.Core.b32 := by
    rw [fl_V hX, fl_V hY, fl_WS, fl_fu, ← e, Nat.mul_assoc, ← Nat.pow_add]
  have r := rd_mul fl_gd (fl_G.mpr hX) (fl_G.mpr hY) ⟨_, hw, Nat.le_of_eq e2⟩
  obtain ⟨g1, g2⟩ := rd_exact r (Nat.two_pow_pos _) hw e2
  have hW := fl_G.mp g1
  refine ⟨FP.Core.mul FP.Core.b32 X 1258291200, hW, ?_, ?_, by rw [← fl_V hW]; exact g2⟩
  · show UInt32.ofNat (FP.Core.mul FP.Core.b32 (fl X).toNat (fl 1258291200).toNat) = _
    rw [fl_n hX, fl_n hY]
    rfl
  · have e3 : fV FP.Core.b32 (FP.Core.mul FP.Core.b32 X 1258291200) / 2 ^ fu FP.Core.b32 = T := by rw [g2, fl_fu, Nat.mul_div_cancel _ (Nat.two_pow_pos _)]
    show Int32.ofInt (FP.Core.toInt _ _ (FP.Core.decode FP.Core.b32 (fl (FP.Core.mul FP.Core.b32 X 1258291200)).toNat)) = _
    rw [fl_n hW, fp_toInt fl_gd g1 (by decide) (by rw [e3]; show (T : Int) ≤ 2147483647; omega), e3]
    rfl
/-- less 1 -/
theorem fl_less {T : Nat} (hT : T < 8388608) : ∃ Z, Z < 2139095040 ∧ FP.fsub (fl (1065353216 + T)) 0x3f800000 = fl Z ∧ fW FP.Core.b32 Z * 2 ^ 23 = T * 2 ^ 149 := by
  have hX : 1065353216 + T < 2139095040 := by omega
  have hY : 1065353216 < 2139095040 := by omega
  have w1 : fV FP.Core.b32 (1065353216 + T) = (8388608 + T) * 2 ^ 126 := by
    rw [fl_V hX]
    have h := fl_at (E := 127) (by decide) hT
    rw [show 127 - 1 = 126 from rfl] at h
    exact h
  have w2 : fV FP.Core.b32 1065353216 = 8388608 * 2 ^ 126 := by
    rw [fl_V hY]
    have h := fl_at (E := 127) (T := 0) (by decide) (by decide)
    rw [show 127 - 1 = 126 from rfl, Nat.add_zero, Nat.add_zero] at h
    exact h
  have wd : fV FP.Core.b32 (1065353216 + T) - fV FP.Core.b32 1065353216 = T * 2 ^ 126 := by rw [w1, w2, ← Nat.sub_mul, Nat.add_sub_cancel_left]
  have hw : fRp FP.Core.b32 (T * 2 ^ 126) := fl_rp (by omega) (by omega)
  have r := rd_sub fl_gd (fl_G.mpr hX) (fl_G.mpr hY) (by rw [w1, w2]; exact Nat.mul_le_mul_right _ (by omega))
  obtain ⟨g1, g2⟩ := rd_exact r (by decide) hw (by rw [wd, Nat.mul_one])
  have hZ := fl_G.mp g1
  refine ⟨FP.Core.sub FP.Core.b32 (1065353216 + T) 1065353216, hZ, ?_, ?_⟩
  · show UInt32.ofNat (FP.Core.sub FP.Core.b32 (fl (1065353216 + T)).toNat (fl 1065353216).toNat) = _
    rw [fl_n hX, fl_n hY]
    rfl
  · rw [← fl_V hZ, g2, Nat.mul_assoc, ← Nat.pow_add]
theorem fl_dbld {X : Nat} (hX : X < 2130706432) : ∃ Y, Y < 2139095040 ∧ FP.fmul (fl X) 0x40000000 = fl Y ∧ fW FP.Core.b32 Y = 2 * fW FP.Core.b32 X := by
  by_cases h : X < 8388608
  · refine ⟨2 * X, by omega, fl_dbls h, ?_⟩
    rw [fW_dbls (by rw [fl_tl]; exact h), fW_sub (by rw [fl_tl]; exact h)]
  · exact ⟨X + 8388608, by omega, fl_dbl (by omega) hX, fl_dblW (by omega)⟩
def dl (X : Nat) : UInt64 := UInt64.ofNat X
theorem dl_n {X : Nat} (h : X < 9218868437227405312) : (dl X).toNat = X := by
  unfold dl
  rw [UInt64.toNat_ofNat']
  exact Nat.mod_eq_of_lt (by omega)
theorem dl_of (x : UInt64) : x = dl x.toNat := UInt64.ofNat_toNat.symm
theorem dl_G {X : Nat} : fG FP.Core.b64 X ↔ X < 9218868437227405312 := by
  unfold fG
  rw [show (FP.Core.b64.exps - 1) * FP.Core.b64.tails = 9218868437227405312 by decide +kernel]
theorem dl_tl : FP.Core.b64.tails = 4503599627370496 := by decide +kernel
theorem dl_fu : fu FP.Core.b64 = 1074 := by decide +kernel
theorem dl_at {E T : Nat} (hE : 1 ≤ E) (hT : T < 4503599627370496) : fW FP.Core.b64 (E * 4503599627370496 + T) = (4503599627370496 + T) * 2 ^ (E - 1) := by
  have h := fW_at (f := FP.Core.b64) hE (T := T) (by rw [dl_tl]; exact hT)
  rw [dl_tl] at h
  exact h
theorem dl_V {X : Nat} (h : X < 9218868437227405312) : fV FP.Core.b64 X = fW FP.Core.b64 X := fV_W (dl_G.mpr h)
theorem dl_vf {X : Nat} (h : X < 9218868437227405312) : vf_n64 (dl X) ↔ True := by
  apply iff_true_intro
  unfold vf_n64
  rw [UInt64.le_iff_toNat_le, UInt64.toNat_and, dl_n h]
  exact Nat.le_trans Nat.and_le_left (show X ≤ 9218868437227405312 by omega)
theorem dl_cmp {X Y : Nat} (hX : X < 9218868437227405312) (hY : Y < 9218868437227405312) : FP.dcmp (dl X) (dl Y) = some (compare X Y) := by
  show FP.Core.cmp FP.Core.b64 (dl X).toNat (dl Y).toNat = _
  rw [dl_n hX, dl_n hY]
  exact fp_cmp (by first | exact fGd32 | exact fGd64) (dl_G.mpr hX) (dl_G.mpr hY)
theorem dl_c2 {X : Nat} (hX : X < 9218868437227405312) : FP.dcmp (dl X) 4611686018427387904 = some (compare X 4611686018427387904) := dl_cmp hX (Y := 4611686018427387904) (by omega)
theorem dl_c1 {X : Nat} (hX : X < 9218868437227405312) : FP.dcmp (dl X) 0x3ff0000000000000 = some (compare X 4607182418800017408) := dl_cmp hX (Y := 4607182418800017408) (by omega)
theorem dl_c0 {X : Nat} (hX : X < 9218868437227405312) : FP.dcmp (dl X) 0 = some (compare X 0) := dl_cmp hX (Y := 0) (by omega)
theorem dl_W2 : fW FP.Core.b64 4611686018427387904 = 2 * 2 ^ 1074 := by decide +kernel
theorem dl_W1 : fW FP.Core.b64 4607182418800017408 = 2 ^ 1074 := by decide +kernel
theorem dl_WS : fW FP.Core.b64 4841369599423283200 = 2 ^ 1126 := by decide +kernel
theorem dl_gd : fGd FP.Core.b64 := by first | exact fGd32 | exact fGd64
theorem dl_rp {c t : Nat} (hc : c < 9007199254740992) (ht : t ≤ 1074) : fRp FP.Core.b64 (c * 2 ^ t) := by
  refine ⟨c, t, ?_, ?_, rfl⟩
  · rw [show 2 ^ FP.Core.b64.p = 9007199254740992 by decide +kernel]; exact hc
  · have e1 : FP.Core.b64.qmin = -1074 := by decide +kernel
    have e2 : (1074 : Int) ≤ FP.Core.b64.qmax + 1074 := by decide +kernel
    omega
-- products and quotients that come out even
theorem dl_mul {X Y Z : Nat} (hX : X < 9218868437227405312) (hY : Y < 9218868437227405312) (hZ : Z < 9218868437227405312) (e : fW FP.Core.b64 X * fW FP.Core.b64 Y = fW FP.Core.b64 Z * 2 ^ 1074) : FP.dmul (dl X) (dl Y) = dl Z := by
  show UInt64.ofNat (FP.Core.mul FP.Core.b64 (dl X).toNat (dl Y).toNat) = dl Z
  rw [dl_n hX, dl_n hY]
  rw [← dl_V hX, ← dl_V hY, ← dl_V hZ, ← dl_fu] at e
  have r := rd_mul dl_gd (dl_G.mpr hX) (dl_G.mpr hY) ⟨_, fRp_of dl_gd (dl_G.mpr hZ), Nat.le_of_eq e⟩
  rw [rd_eq r (Nat.two_pow_pos _) dl_gd (dl_G.mpr hZ) e]
  rfl
theorem dl_div {X Y Z : Nat} (hX : X < 9218868437227405312) (hY : Y < 9218868437227405312) (hZ : Z < 9218868437227405312) (h0 : 0 < fW FP.Core.b64 Y) (e : fW FP.Core.b64 X * 2 ^ 1074 = fW FP.Core.b64 Z * fW FP.Core.b64 Y) : FP.ddiv (dl X) (dl Y) = dl Z := by
  show UInt64.ofNat (FP.Core.div FP.Core.b64 (dl X).toNat (dl Y).toNat) = dl Z
  rw [dl_n hX, dl_n hY]
  rw [← dl_V hX, ← dl_V hY, ← dl_V hZ, ← dl_fu] at e
  rw [← dl_V hY] at h0
  have r := rd_div dl_gd (dl_G.mpr hX) (dl_G.mpr hY) h0 ⟨_, fRp_of dl_gd (dl_G.mpr hZ), Nat.le_of_eq e⟩
  rw [rd_eq r h0 dl_gd (dl_G.mpr hZ) e]
  rfl
theorem dl_dblW {X : Nat} (h : 4503599627370496 ≤ X) : fW FP.Core.b64 (X + 4503599627370496) = 2 * fW FP.Core.b64 X := by
  have := fW_dbl (f := FP.Core.b64) (x := X) (by rw [dl_tl]; exact h)
  rw [dl_tl] at this
  exact this
theorem dl_half {X : Nat} (h : 9007199254740992 ≤ X) (hX : X < 9218868437227405312) : FP.ddiv (dl X) 4611686018427387904 = dl (X - 4503599627370496) := by
  refine dl_div (Y := 4611686018427387904) hX (by omega) (by omega) (by rw [dl_W2]; exact Nat.mul_pos (by decide) (Nat.two_pow_pos _)) ?_
  have := dl_dblW (X := X - 4503599627370496) (by omega)
  rw [Nat.sub_add_cancel (by omega)] at this
  rw [this, dl_W2, ← Nat.mul_assoc, Nat.mul_comm 2]
theorem dl_dbl {X : Nat} (h : 4503599627370496 ≤ X) (hX : X < 9214364837600034816) : FP.dmul (dl X) 4611686018427387904 = dl (X + 4503599627370496) := by
  refine dl_mul (Y := 4611686018427387904) (by omega) (by omega) (by omega) ?_
  rw [dl_dblW h, dl_W2, ← Nat.mul_assoc, Nat.mul_comm 2]
theorem dl_dbls {X : Nat} (h : X < 4503599627370496) : FP.dmul (dl X) 4611686018427387904 = dl (2 * X) := by
  refine dl_mul (Y := 4611686018427387904) (by omega) (by omega) (by omega) ?_
  have h1 := fW_dbls (f := FP.Core.b64) (x := X) (by rw [dl_tl]; exact h)
  have h2 := fW_sub (f := FP.Core.b64) (x := X) (by rw [dl_tl]; exact h)
  rw [h1, h2, dl_W2, ← Nat.mul_assoc, Nat.mul_comm 2]
/-- times 2^52, cut to a whole number -/
theorem dl_scale {X T : Nat} (hX : X < 9218868437227405312) (hT : T < 9007199254740992) (e : fW FP.Core.b64 X * 2 ^ 52 = T * 2 ^ 1074) : ∃ W, W < 9218868437227405312 ∧ FP.dmul (dl X) 4841369599423283200 = dl W ∧ FP.d2l (dl W) = Int64.ofNat T ∧ fW FP.Core.b64 W = T * 2 ^ 1074 := by
  have hY : 4841369599423283200 < 9218868437227405312 := by omega
  have hw : fRp FP.Core.b64 (T * 2 ^ 1074) := dl_rp hT (by omega)
  have e2 : fV FP.Core.b64 X * fV FP.Core.b64 4841369599423283200 = T * 2 ^ 1074 * 2 ^ fu FP.Core.b64 := by
    rw [dl_V hX, dl_V hY, dl_WS, dl_fu, ← e, Nat.mul_assoc, ← Nat.pow_add]
  have r := rd_mul dl_gd (dl_G.mpr hX) (dl_G.mpr hY) ⟨_, hw, Nat.le_of_eq e2⟩
  obtain ⟨g1, g2⟩ := rd_exact r (Nat.two_pow_pos _) hw e2
  have hW := dl_G.mp g1
  refine ⟨FP.Core.mul FP.Core.b64 X 4841369599423283200, hW, ?_, ?_, by rw [← dl_V hW]; exact g2⟩
  · show UInt64.ofNat (FP.Core.mul FP.Core.b64 (dl X).toNat (dl 4841369599423283200).toNat) = _
    rw [dl_n hX, dl_n hY]
    rfl
  · have e3 : fV FP.Core.b64 (FP.Core.mul FP.Core.b64 X 4841369599423283200) / 2 ^ fu FP.Core.b64 = T := by rw [g2, dl_fu, Nat.mul_div_cancel _ (Nat.two_pow_pos _)]
    show Int64.ofInt (FP.Core.toInt _ _ (FP.Core.decode FP.Core.b64 (dl (FP.Core.mul FP.Core.b64 X 4841369599423283200)).toNat)) = _
    rw [dl_n hW, fp_toInt dl_gd g1 (by decide) (by rw [e3]; show (T : Int) ≤ 9223372036854775807; omega), e3]
    rfl
/-- less 1 -/
theorem dl_less {T : Nat} (hT : T < 4503599627370496) : ∃ Z, Z < 9218868437227405312 ∧ FP.dsub (dl (4607182418800017408 + T)) 0x3ff0000000000000 = dl Z ∧ fW FP.Core.b64 Z * 2 ^ 52 = T * 2 ^ 1074 := by
  have hX : 4607182418800017408 + T < 9218868437227405312 := by omega
  have hY : 4607182418800017408 < 9218868437227405312 := by omega
  have w1 : fV FP.Core.b64 (4607182418800017408 + T) = (4503599627370496 + T) * 2 ^ 1022 := by
    rw [dl_V hX]
    have h := dl_at (E := 1023) (by decide) hT
    rw [show 1023 - 1 = 1022 from rfl] at h
    exact h
  have w2 : fV FP.Core.b64 4607182418800017408 = 4503599627370496 * 2 ^ 1022 := by
    rw [dl_V hY]
    have h := dl_at (E := 1023) (T := 0) (by decide) (by decide)
    rw [show 1023 - 1 = 1022 from rfl, Nat.add_zero, Nat.add_zero] at h
    exact h
  have wd : fV FP.Core.b64 (4607182418800017408 + T) - fV FP.Core.b64 4607182418800017408 = T * 2 ^ 1022 := by rw [w1, w2, ← Nat.sub_mul, Nat.add_sub_cancel_left]
  have hw : fRp FP.Core.b64 (T * 2 ^ 1022) := dl_rp (by omega) (by omega)
  have r := rd_sub dl_gd (dl_G.mpr hX) (dl_G.mpr hY) (by rw [w1, w2]; exact Nat.mul_le_mul_right _ (by omega))
  obtain ⟨g1, g2⟩ := rd_exact r (by decide) hw (by rw [wd, Nat.mul_one])
  have hZ := dl_G.mp g1
  refine ⟨FP.Core.sub FP.Core.b64 (4607182418800017408 + T) 4607182418800017408, hZ, ?_, ?_⟩
  · show UInt64.ofNat (FP.Core.sub FP.Core.b64 (dl (4607182418800017408 + T)).toNat (dl 4607182418800017408).toNat) = _
    rw [dl_n hX, dl_n hY]
    rfl
  · rw [← dl_V hZ, g2, Nat.mul_assoc, ← Nat.pow_add]
theorem dl_dbld {X : Nat} (hX : X < 9214364837600034816) : ∃ Y, Y < 9218868437227405312 ∧ FP.dmul (dl X) 4611686018427387904 = dl Y ∧ fW FP.Core.b64 Y = 2 * fW FP.Core.b64 X := by
  by_cases h : X < 4503599627370496
  · refine ⟨2 * X, by omega, dl_dbls h, ?_⟩
    rw [fW_dbls (by rw [dl_tl]; exact h), fW_sub (by rw [dl_tl]; exact h)]
  · exact ⟨X + 4503599627370496, by omega, dl_dbl (by omega) hX, dl_dblW (by omega)⟩
theorem n_m1 {P : Nat} (h : 1 ≤ P) : nI P + -nI 1 = nI (P - 1) := by rw [← Int32.sub_eq_add_neg, n_sub h]
theorem n_mm1 {k : Nat} : -nI k + -nI 1 = -nI (k + 1) := by rw [← nI_add, Int32.neg_add, Int32.sub_eq_add_neg]
theorem n_mlem {a b : Nat} (ha : a < 2147483648) (hb : b < 2147483648) : -nI a ≤ -nI b ↔ b ≤ a := by
  rw [Int32.le_iff_toInt_le, n_negT ha, n_negT hb]
  omega
theorem n_mlem_t {a b : Nat} (h : b ≤ a) (ha : a < 2147483648) : -nI a ≤ -nI b ↔ True := iff_true_intro ((n_mlem ha (by omega)).mpr h)
theorem n_mlem_f {a b : Nat} (h : a < b) (hb : b < 2147483648) : -nI a ≤ -nI b ↔ False := iff_false_intro (fun q => by have := (n_mlem (by omega) hb).mp q; omega)
theorem l_add (a b : Nat) : lN a + lN b = lN (a + b) := (Int64.ofNat_add a b).symm
theorem l_mul (a b : Nat) : lN a * lN b = lN (a * b) := (Int64.ofNat_mul a b).symm
theorem l_sub {a b : Nat} (h : b ≤ a) : lN a - lN b = lN (a - b) := (Int64.ofNat_sub a b h).symm
theorem lx_lit (n : Nat) : (OfNat.ofNat n : Int64) = lN (OfNat.ofNat n) := rfl
theorem l_shc : ∀ k, k < 64 → ((nI k).toInt64 &&& 63) = lN k := by decide +kernel
theorem l_shs : ∀ k, k < 64 → ((lN k).toBitVec.smod 64).toNat = k := by decide +kernel
theorem l_shl {a k : Nat} (hk : k < 64) (h : a * 2 ^ k < 18446744073709551616) : lN a <<< ((nI k).toInt64 &&& lN 63) = lN (a * 2 ^ k) := by
  rw [show ((nI k).toInt64 &&& lN 63) = lN k from l_shc k hk]
  apply Int64.toBitVec_inj.mp
  rw [Int64.toBitVec_shiftLeft]
  apply BitVec.eq_of_toNat_eq
  have hp := Nat.two_pow_pos k
  have ha : a < 18446744073709551616 := Nat.lt_of_le_of_lt (Nat.le_mul_of_pos_right a hp) h
  rw [BitVec.shiftLeft_eq', l_shs k hk, BitVec.toNat_shiftLeft, Nat.shiftLeft_eq]
  show (BitVec.ofNat 64 a).toNat * 2 ^ k % 2 ^ 64 = (BitVec.ofNat 64 (a * 2 ^ k)).toNat
  rw [BitVec.toNat_ofNat, BitVec.toNat_ofNat, Nat.mod_eq_of_lt (show a < 2 ^ 64 from ha)]
theorem l_of {a : Nat} (h : a < 2147483648) : (nI a).toInt64 = lN a := by
  apply Int64.toInt_inj.mp
  rw [Int32.toInt_toInt64, nI_toInt (by omega)]
  show (a : Int) = (Int64.ofNat a).toInt
  rw [Int64.toInt_ofNat_of_lt (by omega)]
end FPB
