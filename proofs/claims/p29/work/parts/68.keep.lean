-- addresses that no instruction can write stay
section KEEP
variable {lay : mL} {d μ pc pc' n n' : Nat} {ls ls' st st' : List Value} {I I' I1 : mI} {F F' F1 : mF} {R R' R1 : mR} {Q : mP}
def KP (lay : mL) (I : mI) (F : mF) (R : mR) (I' : mI) (F' : mF) (R' : mR) : Prop := ∀ a, lay a = (5, 1) → I' a = I a ∧ F' a = F a ∧ R' a = R a
theorem KP_refl : KP lay I F R I F R := fun _ _ => ⟨rfl, rfl, rfl⟩
theorem KP_trans (h : KP lay I F R I1 F1 R1) (h2 : KP lay I1 F1 R1 I' F' R') : KP lay I F R I' F' R' := fun a ha => ⟨(h2 a ha).1.trans (h a ha).1, (h2 a ha).2.1.trans (h a ha).2.1, (h2 a ha).2.2.trans (h a ha).2.2⟩
theorem KP_I {a k : Nat} {x : Int32} (h : lay a ≠ (5, 1)) : KP lay I F R (m_up I a k x) F R := fun b hb => ⟨m_up_off (fun e => h (e ▸ hb)), rfl, rfl⟩
theorem KP_F {a k : Nat} {x : UInt32} (h : lay a ≠ (5, 1)) : KP lay I F R I (m_up F a k x) R := fun b hb => ⟨rfl, m_up_off (fun e => h (e ▸ hb)), rfl⟩
theorem KP_R {a k x : Nat} (h : lay a ≠ (5, 1)) : KP lay I F R I F (m_up R a k x) := fun b hb => ⟨rfl, rfl, m_up_off (fun e => h (e ▸ hb))⟩
theorem KP_Ir {a : Nat} {x : Nat → Int32} (h : lay a ≠ (5, 1)) : KP lay I F R (m_row I a x) F R := fun b hb => ⟨m_row_off (fun e => h (e ▸ hb)), rfl, rfl⟩
theorem KP_Fr {a : Nat} {x : Nat → UInt32} (h : lay a ≠ (5, 1)) : KP lay I F R I (m_row F a x) R := fun b hb => ⟨rfl, m_row_off (fun e => h (e ▸ hb)), rfl⟩
theorem KP_Rr {a : Nat} {x : Nat → Nat} (h : lay a ≠ (5, 1)) : KP lay I F R I F (m_row R a x) := fun b hb => ⟨rfl, rfl, m_row_off (fun e => h (e ▸ hb))⟩
theorem ly_o {a k : Nat} (h : lay a = (5 + k, 0)) : lay a ≠ (5, 1) := by
  rw [h]
  intro e
  have h2 : (0 : Nat) = 1 := congrArg Prod.snd e
  omega
theorem ly_a {a k m : Nat} (h : lay a = (k, m)) (hk : k < 5) : lay a ≠ (5, 1) := by
  rw [h]
  intro e
  have h2 : k = 5 := congrArg Prod.fst e
  omega
theorem ly_1 {a k : Nat} (h : (lay a).1 = k) (hk : k < 5) : lay a ≠ (5, 1) := by
  intro e
  rw [e] at h
  dsimp only at h
  omega
def oK (lay : mL) (I : mI) (F : mF) (R : mR) (o : mO) : Prop := match o with
  | some (c, .inl (_, _, _, I', F', R', _)) => c → KP lay I F R I' F' R'
  | _ => True
theorem kp_iadd : oK lay I F R (m_step lay d μ (.iadd) pc ls st I F R n) := by
  simp only [m_step, m_jmp]
  repeat' split
  all_goals first
    | trivial
    | exact fun _ => KP_refl
theorem kp_isub : oK lay I F R (m_step lay d μ (.isub) pc ls st I F R n) := by
  simp only [m_step, m_jmp]
  repeat' split
  all_goals first
    | trivial
    | exact fun _ => KP_refl
theorem kp_imul : oK lay I F R (m_step lay d μ (.imul) pc ls st I F R n) := by
  simp only [m_step, m_jmp]
  repeat' split
  all_goals first
    | trivial
    | exact fun _ => KP_refl
theorem kp_iand : oK lay I F R (m_step lay d μ (.iand) pc ls st I F R n) := by
  simp only [m_step, m_jmp]
  repeat' split
  all_goals first
    | trivial
    | exact fun _ => KP_refl
theorem kp_ior : oK lay I F R (m_step lay d μ (.ior) pc ls st I F R n) := by
  simp only [m_step, m_jmp]
  repeat' split
  all_goals first
    | trivial
    | exact fun _ => KP_refl
theorem kp_ixor : oK lay I F R (m_step lay d μ (.ixor) pc ls st I F R n) := by
  simp only [m_step, m_jmp]
  repeat' split
  all_goals first
    | trivial
    | exact fun _ => KP_refl
theorem kp_ishl : oK lay I F R (m_step lay d μ (.ishl) pc ls st I F R n) := by
  simp only [m_step, m_jmp]
  repeat' split
  all_goals first
    | trivial
    | exact fun _ => KP_refl
theorem kp_ishr : oK lay I F R (m_step lay d μ (.ishr) pc ls st I F R n) := by
  simp only [m_step, m_jmp]
  repeat' split
  all_goals first
    | trivial
    | exact fun _ => KP_refl
theorem kp_iushr : oK lay I F R (m_step lay d μ (.iushr) pc ls st I F R n) := by
  simp only [m_step, m_jmp]
  repeat' split
  all_goals first
    | trivial
    | exact fun _ => KP_refl
theorem kp_idiv : oK lay I F R (m_step lay d μ (.idiv) pc ls st I F R n) := by
  simp only [m_step, m_jmp]
  repeat' split
  all_goals first
    | trivial
    | exact fun _ => KP_refl
theorem kp_irem : oK lay I F R (m_step lay d μ (.irem) pc ls st I F R n) := by
  simp only [m_step, m_jmp]
  repeat' split
  all_goals first
    | trivial
    | exact fun _ => KP_refl
theorem kp_ineg : oK lay I F R (m_step lay d μ (.ineg) pc ls st I F R n) := by
  simp only [m_step, m_jmp]
  repeat' split
  all_goals first
    | trivial
    | exact fun _ => KP_refl
theorem kp_ladd : oK lay I F R (m_step lay d μ (.ladd) pc ls st I F R n) := by
  simp only [m_step, m_jmp]
  repeat' split
  all_goals first
    | trivial
    | exact fun _ => KP_refl
theorem kp_lsub : oK lay I F R (m_step lay d μ (.lsub) pc ls st I F R n) := by
  simp only [m_step, m_jmp]
  repeat' split
  all_goals first
    | trivial
    | exact fun _ => KP_refl
theorem kp_lmul : oK lay I F R (m_step lay d μ (.lmul) pc ls st I F R n) := by
  simp only [m_step, m_jmp]
  repeat' split
  all_goals first
    | trivial
    | exact fun _ => KP_refl
theorem kp_land : oK lay I F R (m_step lay d μ (.land) pc ls st I F R n) := by
  simp only [m_step, m_jmp]
  repeat' split
  all_goals first
    | trivial
    | exact fun _ => KP_refl
theorem kp_lor : oK lay I F R (m_step lay d μ (.lor) pc ls st I F R n) := by
  simp only [m_step, m_jmp]
  repeat' split
  all_goals first
    | trivial
    | exact fun _ => KP_refl
theorem kp_lshl : oK lay I F R (m_step lay d μ (.lshl) pc ls st I F R n) := by
  simp only [m_step, m_jmp]
  repeat' split
  all_goals first
    | trivial
    | exact fun _ => KP_refl
theorem kp_lshr : oK lay I F R (m_step lay d μ (.lshr) pc ls st I F R n) := by
  simp only [m_step, m_jmp]
  repeat' split
  all_goals first
    | trivial
    | exact fun _ => KP_refl
theorem kp_lushr : oK lay I F R (m_step lay d μ (.lushr) pc ls st I F R n) := by
  simp only [m_step, m_jmp]
  repeat' split
  all_goals first
    | trivial
    | exact fun _ => KP_refl
theorem kp_lcmp : oK lay I F R (m_step lay d μ (.lcmp) pc ls st I F R n) := by
  simp only [m_step, m_jmp]
  repeat' split
  all_goals first
    | trivial
    | exact fun _ => KP_refl
theorem kp_i2l : oK lay I F R (m_step lay d μ (.i2l) pc ls st I F R n) := by
  simp only [m_step, m_jmp]
  repeat' split
  all_goals first
    | trivial
    | exact fun _ => KP_refl
theorem kp_l2i : oK lay I F R (m_step lay d μ (.l2i) pc ls st I F R n) := by
  simp only [m_step, m_jmp]
  repeat' split
  all_goals first
    | trivial
    | exact fun _ => KP_refl
theorem kp_i2c : oK lay I F R (m_step lay d μ (.i2c) pc ls st I F R n) := by
  simp only [m_step, m_jmp]
  repeat' split
  all_goals first
    | trivial
    | exact fun _ => KP_refl
theorem kp_i2f : oK lay I F R (m_step lay d μ (.i2f) pc ls st I F R n) := by
  simp only [m_step, m_jmp]
  repeat' split
  all_goals first
    | trivial
    | exact fun _ => KP_refl
theorem kp_i2d : oK lay I F R (m_step lay d μ (.i2d) pc ls st I F R n) := by
  simp only [m_step, m_jmp]
  repeat' split
  all_goals first
    | trivial
    | exact fun _ => KP_refl
theorem kp_f2i : oK lay I F R (m_step lay d μ (.f2i) pc ls st I F R n) := by
  simp only [m_step, m_jmp]
  repeat' split
  all_goals first
    | trivial
    | exact fun _ => KP_refl
theorem kp_d2i : oK lay I F R (m_step lay d μ (.d2i) pc ls st I F R n) := by
  simp only [m_step, m_jmp]
  repeat' split
  all_goals first
    | trivial
    | exact fun _ => KP_refl
theorem kp_d2l : oK lay I F R (m_step lay d μ (.d2l) pc ls st I F R n) := by
  simp only [m_step, m_jmp]
  repeat' split
  all_goals first
    | trivial
    | exact fun _ => KP_refl
theorem kp_f2d : oK lay I F R (m_step lay d μ (.f2d) pc ls st I F R n) := by
  simp only [m_step, m_jmp]
  repeat' split
  all_goals first
    | trivial
    | exact fun _ => KP_refl
theorem kp_fadd : oK lay I F R (m_step lay d μ (.fadd) pc ls st I F R n) := by
  simp only [m_step, m_jmp]
  repeat' split
  all_goals first
    | trivial
    | exact fun _ => KP_refl
theorem kp_fsub : oK lay I F R (m_step lay d μ (.fsub) pc ls st I F R n) := by
  simp only [m_step, m_jmp]
  repeat' split
  all_goals first
    | trivial
    | exact fun _ => KP_refl
theorem kp_fmul : oK lay I F R (m_step lay d μ (.fmul) pc ls st I F R n) := by
  simp only [m_step, m_jmp]
  repeat' split
  all_goals first
    | trivial
    | exact fun _ => KP_refl
theorem kp_fdiv : oK lay I F R (m_step lay d μ (.fdiv) pc ls st I F R n) := by
  simp only [m_step, m_jmp]
  repeat' split
  all_goals first
    | trivial
    | exact fun _ => KP_refl
theorem kp_dadd : oK lay I F R (m_step lay d μ (.dadd) pc ls st I F R n) := by
  simp only [m_step, m_jmp]
  repeat' split
  all_goals first
    | trivial
    | exact fun _ => KP_refl
theorem kp_dsub : oK lay I F R (m_step lay d μ (.dsub) pc ls st I F R n) := by
  simp only [m_step, m_jmp]
  repeat' split
  all_goals first
    | trivial
    | exact fun _ => KP_refl
theorem kp_dmul : oK lay I F R (m_step lay d μ (.dmul) pc ls st I F R n) := by
  simp only [m_step, m_jmp]
  repeat' split
  all_goals first
    | trivial
    | exact fun _ => KP_refl
theorem kp_ddiv : oK lay I F R (m_step lay d μ (.ddiv) pc ls st I F R n) := by
  simp only [m_step, m_jmp]
  repeat' split
  all_goals first
    | trivial
    | exact fun _ => KP_refl
theorem kp_dup : oK lay I F R (m_step lay d μ (.dup) pc ls st I F R n) := by
  simp only [m_step, m_jmp]
  repeat' split
  all_goals first
    | trivial
    | exact fun _ => KP_refl
theorem kp_dup2 : oK lay I F R (m_step lay d μ (.dup2) pc ls st I F R n) := by
  simp only [m_step, m_jmp]
  repeat' split
  all_goals first
    | trivial
    | exact fun _ => KP_refl
theorem kp_lreturn : oK lay I F R (m_step lay d μ (.lreturn) pc ls st I F R n) := by
  simp only [m_step, m_jmp]
  repeat' split
  all_goals first
    | trivial
    | exact fun _ => KP_refl
theorem kp_freturn : oK lay I F R (m_step lay d μ (.freturn) pc ls st I F R n) := by
  simp only [m_step, m_jmp]
  repeat' split
  all_goals first
    | trivial
    | exact fun _ => KP_refl
theorem kp_dreturn : oK lay I F R (m_step lay d μ (.dreturn) pc ls st I F R n) := by
  simp only [m_step, m_jmp]
  repeat' split
  all_goals first
    | trivial
    | exact fun _ => KP_refl
theorem kp_ireturn : oK lay I F R (m_step lay d μ (.ireturn) pc ls st I F R n) := by
  simp only [m_step, m_jmp]
  repeat' split
  all_goals first
    | trivial
    | exact fun _ => KP_refl
theorem kp_return_ : oK lay I F R (m_step lay d μ (.return_) pc ls st I F R n) := by
  simp only [m_step, m_jmp]
  repeat' split
  all_goals first
    | trivial
    | exact fun _ => KP_refl
theorem kp_arraylength : oK lay I F R (m_step lay d μ (.arraylength) pc ls st I F R n) := by
  simp only [m_step, m_jmp]
  repeat' split
  all_goals first
    | trivial
    | exact fun _ => KP_refl
theorem kp_iaload : oK lay I F R (m_step lay d μ (.iaload) pc ls st I F R n) := by
  simp only [m_step, m_jmp]
  repeat' split
  all_goals first
    | trivial
    | exact fun _ => KP_refl
theorem kp_faload : oK lay I F R (m_step lay d μ (.faload) pc ls st I F R n) := by
  simp only [m_step, m_jmp]
  repeat' split
  all_goals first
    | trivial
    | exact fun _ => KP_refl
theorem kp_baload : oK lay I F R (m_step lay d μ (.baload) pc ls st I F R n) := by
  simp only [m_step, m_jmp]
  repeat' split
  all_goals first
    | trivial
    | exact fun _ => KP_refl
theorem kp_caload : oK lay I F R (m_step lay d μ (.caload) pc ls st I F R n) := by
  simp only [m_step, m_jmp]
  repeat' split
  all_goals first
    | trivial
    | exact fun _ => KP_refl
theorem kp_aaload : oK lay I F R (m_step lay d μ (.aaload) pc ls st I F R n) := by
  simp only [m_step, m_jmp]
  repeat' split
  all_goals first
    | trivial
    | exact fun _ => KP_refl
theorem kp_pop1 : oK lay I F R (m_step lay d μ (.pop) pc ls st I F R n) := by
  simp only [m_step, m_jmp]
  repeat' split
  all_goals first
    | trivial
    | exact fun _ => KP_refl
theorem kp_fcmp {v : _} : oK lay I F R (m_step lay d μ (.fcmp v) pc ls st I F R n) := by
  simp only [m_step, m_jmp]
  repeat' split
  all_goals first
    | trivial
    | exact fun _ => KP_refl
theorem kp_dcmp {v : _} : oK lay I F R (m_step lay d μ (.dcmp v) pc ls st I F R n) := by
  simp only [m_step, m_jmp]
  repeat' split
  all_goals first
    | trivial
    | exact fun _ => KP_refl
theorem kp_iconst {v : _} : oK lay I F R (m_step lay d μ (.iconst v) pc ls st I F R n) := by
  simp only [m_step, m_jmp]
  repeat' split
  all_goals first
    | trivial
    | exact fun _ => KP_refl
theorem kp_bipush {v : _} : oK lay I F R (m_step lay d μ (.bipush v) pc ls st I F R n) := by
  simp only [m_step, m_jmp]
  repeat' split
  all_goals first
    | trivial
    | exact fun _ => KP_refl
theorem kp_sipush {v : _} : oK lay I F R (m_step lay d μ (.sipush v) pc ls st I F R n) := by
  simp only [m_step, m_jmp]
  repeat' split
  all_goals first
    | trivial
    | exact fun _ => KP_refl
theorem kp_lconst {v : _} : oK lay I F R (m_step lay d μ (.lconst v) pc ls st I F R n) := by
  simp only [m_step, m_jmp]
  repeat' split
  all_goals first
    | trivial
    | exact fun _ => KP_refl
theorem kp_iload_n {v : _} : oK lay I F R (m_step lay d μ (.iload_n v) pc ls st I F R n) := by
  simp only [m_step, m_jmp]
  repeat' split
  all_goals first
    | trivial
    | exact fun _ => KP_refl
theorem kp_iload {v : _} : oK lay I F R (m_step lay d μ (.iload v) pc ls st I F R n) := by
  simp only [m_step, m_jmp]
  repeat' split
  all_goals first
    | trivial
    | exact fun _ => KP_refl
theorem kp_lload_n {v : _} : oK lay I F R (m_step lay d μ (.lload_n v) pc ls st I F R n) := by
  simp only [m_step, m_jmp]
  repeat' split
  all_goals first
    | trivial
    | exact fun _ => KP_refl
theorem kp_lload {v : _} : oK lay I F R (m_step lay d μ (.lload v) pc ls st I F R n) := by
  simp only [m_step, m_jmp]
  repeat' split
  all_goals first
    | trivial
    | exact fun _ => KP_refl
theorem kp_fload_n {v : _} : oK lay I F R (m_step lay d μ (.fload_n v) pc ls st I F R n) := by
  simp only [m_step, m_jmp]
  repeat' split
  all_goals first
    | trivial
    | exact fun _ => KP_refl
theorem kp_fload {v : _} : oK lay I F R (m_step lay d μ (.fload v) pc ls st I F R n) := by
  simp only [m_step, m_jmp]
  repeat' split
  all_goals first
    | trivial
    | exact fun _ => KP_refl
theorem kp_dload_n {v : _} : oK lay I F R (m_step lay d μ (.dload_n v) pc ls st I F R n) := by
  simp only [m_step, m_jmp]
  repeat' split
  all_goals first
    | trivial
    | exact fun _ => KP_refl
theorem kp_dload {v : _} : oK lay I F R (m_step lay d μ (.dload v) pc ls st I F R n) := by
  simp only [m_step, m_jmp]
  repeat' split
  all_goals first
    | trivial
    | exact fun _ => KP_refl
theorem kp_aload_n {v : _} : oK lay I F R (m_step lay d μ (.aload_n v) pc ls st I F R n) := by
  simp only [m_step, m_jmp]
  repeat' split
  all_goals first
    | trivial
    | exact fun _ => KP_refl
theorem kp_aload {v : _} : oK lay I F R (m_step lay d μ (.aload v) pc ls st I F R n) := by
  simp only [m_step, m_jmp]
  repeat' split
  all_goals first
    | trivial
    | exact fun _ => KP_refl
theorem kp_istore_n {v : _} : oK lay I F R (m_step lay d μ (.istore_n v) pc ls st I F R n) := by
  simp only [m_step, m_jmp]
  repeat' split
  all_goals first
    | trivial
    | exact fun _ => KP_refl
theorem kp_istore {v : _} : oK lay I F R (m_step lay d μ (.istore v) pc ls st I F R n) := by
  simp only [m_step, m_jmp]
  repeat' split
  all_goals first
    | trivial
    | exact fun _ => KP_refl
theorem kp_fstore_n {v : _} : oK lay I F R (m_step lay d μ (.fstore_n v) pc ls st I F R n) := by
  simp only [m_step, m_jmp]
  repeat' split
  all_goals first
    | trivial
    | exact fun _ => KP_refl
theorem kp_fstore {v : _} : oK lay I F R (m_step lay d μ (.fstore v) pc ls st I F R n) := by
  simp only [m_step, m_jmp]
  repeat' split
  all_goals first
    | trivial
    | exact fun _ => KP_refl
theorem kp_astore_n {v : _} : oK lay I F R (m_step lay d μ (.astore_n v) pc ls st I F R n) := by
  simp only [m_step, m_jmp]
  repeat' split
  all_goals first
    | trivial
    | exact fun _ => KP_refl
theorem kp_astore {v : _} : oK lay I F R (m_step lay d μ (.astore v) pc ls st I F R n) := by
  simp only [m_step, m_jmp]
  repeat' split
  all_goals first
    | trivial
    | exact fun _ => KP_refl
theorem kp_lstore_n {v : _} : oK lay I F R (m_step lay d μ (.lstore_n v) pc ls st I F R n) := by
  simp only [m_step, m_jmp]
  repeat' split
  all_goals first
    | trivial
    | exact fun _ => KP_refl
theorem kp_lstore {v : _} : oK lay I F R (m_step lay d μ (.lstore v) pc ls st I F R n) := by
  simp only [m_step, m_jmp]
  repeat' split
  all_goals first
    | trivial
    | exact fun _ => KP_refl
theorem kp_dstore_n {v : _} : oK lay I F R (m_step lay d μ (.dstore_n v) pc ls st I F R n) := by
  simp only [m_step, m_jmp]
  repeat' split
  all_goals first
    | trivial
    | exact fun _ => KP_refl
theorem kp_dstore {v : _} : oK lay I F R (m_step lay d μ (.dstore v) pc ls st I F R n) := by
  simp only [m_step, m_jmp]
  repeat' split
  all_goals first
    | trivial
    | exact fun _ => KP_refl
theorem kp_goto {v : _} : oK lay I F R (m_step lay d μ (.goto v) pc ls st I F R n) := by
  simp only [m_step, m_jmp]
  repeat' split
  all_goals first
    | trivial
    | exact fun _ => KP_refl
theorem kp_ifnull {v : _} : oK lay I F R (m_step lay d μ (.ifnull v) pc ls st I F R n) := by
  simp only [m_step, m_jmp]
  repeat' split
  all_goals first
    | trivial
    | exact fun _ => KP_refl
theorem kp_ifnonnull {v : _} : oK lay I F R (m_step lay d μ (.ifnonnull v) pc ls st I F R n) := by
  simp only [m_step, m_jmp]
  repeat' split
  all_goals first
    | trivial
    | exact fun _ => KP_refl
theorem kp_ldc {v : _} : oK lay I F R (m_step lay d μ (.ldc v) pc ls st I F R n) := by
  simp only [m_step, m_jmp]
  repeat' split
  all_goals first
    | trivial
    | exact fun _ => KP_refl
theorem kp_ldc_w {v : _} : oK lay I F R (m_step lay d μ (.ldc_w v) pc ls st I F R n) := by
  simp only [m_step, m_jmp]
  repeat' split
  all_goals first
    | trivial
    | exact fun _ => KP_refl
theorem kp_ldc2_w {v : _} : oK lay I F R (m_step lay d μ (.ldc2_w v) pc ls st I F R n) := by
  simp only [m_step, m_jmp]
  repeat' split
  all_goals first
    | trivial
    | exact fun _ => KP_refl
theorem kp_getfield {v : _} : oK lay I F R (m_step lay d μ (.getfield v) pc ls st I F R n) := by
  simp only [m_step, m_jmp]
  repeat' split
  all_goals first
    | trivial
    | exact fun _ => KP_refl
theorem kp_iinc {i : _} {v : _} : oK lay I F R (m_step lay d μ (.iinc i v) pc ls st I F R n) := by
  simp only [m_step, m_jmp]
  repeat' split
  all_goals first
    | trivial
    | exact fun _ => KP_refl
theorem kp_tsw {a b c : _} {e : _} : oK lay I F R (m_step lay d μ (.tableswitch a b c e) pc ls st I F R n) := by
  simp only [m_step, m_jmp]
  repeat' split
  all_goals first
    | trivial
    | exact fun _ => KP_refl
theorem kp_lsw {a : _} {b : _} : oK lay I F R (m_step lay d μ (.lookupswitch a b) pc ls st I F R n) := by
  simp only [m_step, m_jmp]
  repeat' split
  all_goals first
    | trivial
    | exact fun _ => KP_refl
theorem kp_if_eq {v : _} : oK lay I F R (m_step lay d μ (.ifCond .eq v) pc ls st I F R n) := by
  simp only [m_step, m_jmp]
  repeat' split
  all_goals first
    | trivial
    | exact fun _ => KP_refl
theorem kp_if_ne {v : _} : oK lay I F R (m_step lay d μ (.ifCond .ne v) pc ls st I F R n) := by
  simp only [m_step, m_jmp]
  repeat' split
  all_goals first
    | trivial
    | exact fun _ => KP_refl
theorem kp_if_lt {v : _} : oK lay I F R (m_step lay d μ (.ifCond .lt v) pc ls st I F R n) := by
  simp only [m_step, m_jmp]
  repeat' split
  all_goals first
    | trivial
    | exact fun _ => KP_refl
theorem kp_if_ge {v : _} : oK lay I F R (m_step lay d μ (.ifCond .ge v) pc ls st I F R n) := by
  simp only [m_step, m_jmp]
  repeat' split
  all_goals first
    | trivial
    | exact fun _ => KP_refl
theorem kp_if_gt {v : _} : oK lay I F R (m_step lay d μ (.ifCond .gt v) pc ls st I F R n) := by
  simp only [m_step, m_jmp]
  repeat' split
  all_goals first
    | trivial
    | exact fun _ => KP_refl
theorem kp_if_le {v : _} : oK lay I F R (m_step lay d μ (.ifCond .le v) pc ls st I F R n) := by
  simp only [m_step, m_jmp]
  repeat' split
  all_goals first
    | trivial
    | exact fun _ => KP_refl
theorem kp_ic_eq {v : _} : oK lay I F R (m_step lay d μ (.if_icmp .eq v) pc ls st I F R n) := by
  simp only [m_step, m_jmp]
  repeat' split
  all_goals first
    | trivial
    | exact fun _ => KP_refl
theorem kp_ic_ne {v : _} : oK lay I F R (m_step lay d μ (.if_icmp .ne v) pc ls st I F R n) := by
  simp only [m_step, m_jmp]
  repeat' split
  all_goals first
    | trivial
    | exact fun _ => KP_refl
theorem kp_ic_lt {v : _} : oK lay I F R (m_step lay d μ (.if_icmp .lt v) pc ls st I F R n) := by
  simp only [m_step, m_jmp]
  repeat' split
  all_goals first
    | trivial
    | exact fun _ => KP_refl
theorem kp_ic_ge {v : _} : oK lay I F R (m_step lay d μ (.if_icmp .ge v) pc ls st I F R n) := by
  simp only [m_step, m_jmp]
  repeat' split
  all_goals first
    | trivial
    | exact fun _ => KP_refl
theorem kp_ic_gt {v : _} : oK lay I F R (m_step lay d μ (.if_icmp .gt v) pc ls st I F R n) := by
  simp only [m_step, m_jmp]
  repeat' split
  all_goals first
    | trivial
    | exact fun _ => KP_refl
theorem kp_ic_le {v : _} : oK lay I F R (m_step lay d μ (.if_icmp .le v) pc ls st I F R n) := by
  simp only [m_step, m_jmp]
  repeat' split
  all_goals first
    | trivial
    | exact fun _ => KP_refl
theorem kp_putfield {v : _} : oK lay I F R (m_step lay d μ (.putfield v) pc ls st I F R n) := by
  simp only [m_step, m_jmp]
  repeat' split
  all_goals first
    | trivial
    | exact fun h => KP_I (ly_o h)
    | exact fun h => KP_I (ly_o h.1)
    | exact fun h => KP_R (ly_o h)
    | exact fun h => KP_R (ly_o h.1)
theorem kp_iastore : oK lay I F R (m_step lay d μ (.iastore) pc ls st I F R n) := by
  simp only [m_step, m_jmp]
  repeat' split
  all_goals first
    | trivial
    | exact fun h => KP_I (ly_1 h.2.1 (by decide))
theorem kp_fastore : oK lay I F R (m_step lay d μ (.fastore) pc ls st I F R n) := by
  simp only [m_step, m_jmp]
  repeat' split
  all_goals first
    | trivial
    | exact fun h => KP_F (ly_1 h.1 (by decide))
theorem kp_bastore : oK lay I F R (m_step lay d μ (.bastore) pc ls st I F R n) := by
  simp only [m_step, m_jmp]
  repeat' split
  all_goals first
    | trivial
    | exact fun h => KP_I (ly_1 h.1 (by decide))
theorem kp_castore : oK lay I F R (m_step lay d μ (.castore) pc ls st I F R n) := by
  simp only [m_step, m_jmp]
  repeat' split
  all_goals first
    | trivial
    | exact fun h => KP_I (ly_1 h.1 (by decide))
theorem kp_aastore : oK lay I F R (m_step lay d μ (.aastore) pc ls st I F R n) := by
  simp only [m_step, m_jmp]
  repeat' split
  all_goals first
    | trivial
    | exact fun h => KP_R (ly_1 h.1.1 (by decide))
theorem kp_newarray {v : _} : oK lay I F R (m_step lay d μ (.newarray v) pc ls st I F R n) := by
  simp only [m_step, m_jmp]
  repeat' split
  all_goals first
    | trivial
    | exact fun h => KP_Ir (ly_a h.2.2 (by decide))
    | exact fun h => KP_Fr (ly_a h.2.2 (by decide))
theorem kp_anewarray {v : _} : oK lay I F R (m_step lay d μ (.anewarray v) pc ls st I F R n) := by
  simp only [m_step, m_jmp]
  repeat' split
  all_goals first
    | trivial
    | exact fun h => KP_Rr (ly_a h.2.2 (by decide))
theorem kp_new {v : _} : oK lay I F R (m_step lay d μ (.new v) pc ls st I F R n) := by
  simp only [m_step, m_jmp]
  repeat' split
  all_goals first
    | trivial
    | exact fun h => KP_trans (KP_Ir (ly_o h)) (KP_Rr (ly_o h))
theorem kp_virt {v : _} : oK lay I F R (m_step lay d μ (.invokevirtual v) pc ls st I F R n) := by
  simp only [m_step, m_jmp]
  repeat' split
  all_goals first
    | trivial
    | exact fun _ => KP_refl
theorem kp_spec {v : _} : oK lay I F R (m_step lay d μ (.invokespecial v) pc ls st I F R n) := by
  simp only [m_step, m_jmp]
  repeat' split
  all_goals first
    | trivial
    | exact fun _ => KP_refl
theorem kp_stat {v : _} : oK lay I F R (m_step lay d μ (.invokestatic v) pc ls st I F R n) := by
  simp only [m_step, m_jmp]
  repeat' split
  all_goals first
    | trivial
    | exact fun _ => KP_refl
    | exact fun h => KP_Ir (ly_1 h.2.2.1 (by decide))
    | exact fun h => KP_Fr (ly_1 h.1 (by decide))
theorem st_keep (ins : Instr) : oK lay I F R (m_step lay d μ ins pc ls st I F R n) := by
  cases ins with
  | iadd => exact kp_iadd
  | isub => exact kp_isub
  | imul => exact kp_imul
  | iand => exact kp_iand
  | ior => exact kp_ior
  | ixor => exact kp_ixor
  | ishl => exact kp_ishl
  | ishr => exact kp_ishr
  | iushr => exact kp_iushr
  | idiv => exact kp_idiv
  | irem => exact kp_irem
  | ineg => exact kp_ineg
  | ladd => exact kp_ladd
  | lsub => exact kp_lsub
  | lmul => exact kp_lmul
  | land => exact kp_land
  | lor => exact kp_lor
  | lshl => exact kp_lshl
  | lshr => exact kp_lshr
  | lushr => exact kp_lushr
  | lcmp => exact kp_lcmp
  | i2l => exact kp_i2l
  | l2i => exact kp_l2i
  | i2c => exact kp_i2c
  | i2f => exact kp_i2f
  | i2d => exact kp_i2d
  | f2i => exact kp_f2i
  | d2i => exact kp_d2i
  | d2l => exact kp_d2l
  | f2d => exact kp_f2d
  | fadd => exact kp_fadd
  | fsub => exact kp_fsub
  | fmul => exact kp_fmul
  | fdiv => exact kp_fdiv
  | dadd => exact kp_dadd
  | dsub => exact kp_dsub
  | dmul => exact kp_dmul
  | ddiv => exact kp_ddiv
  | dup => exact kp_dup
  | dup2 => exact kp_dup2
  | lreturn => exact kp_lreturn
  | freturn => exact kp_freturn
  | dreturn => exact kp_dreturn
  | ireturn => exact kp_ireturn
  | return_ => exact kp_return_
  | arraylength => exact kp_arraylength
  | iaload => exact kp_iaload
  | faload => exact kp_faload
  | baload => exact kp_baload
  | caload => exact kp_caload
  | aaload => exact kp_aaload
  | pop => exact kp_pop1
  | fcmp v => exact kp_fcmp
  | dcmp v => exact kp_dcmp
  | iconst v => exact kp_iconst
  | bipush v => exact kp_bipush
  | sipush v => exact kp_sipush
  | lconst v => exact kp_lconst
  | iload_n v => exact kp_iload_n
  | iload v => exact kp_iload
  | lload_n v => exact kp_lload_n
  | lload v => exact kp_lload
  | fload_n v => exact kp_fload_n
  | fload v => exact kp_fload
  | dload_n v => exact kp_dload_n
  | dload v => exact kp_dload
  | aload_n v => exact kp_aload_n
  | aload v => exact kp_aload
  | istore_n v => exact kp_istore_n
  | istore v => exact kp_istore
  | fstore_n v => exact kp_fstore_n
  | fstore v => exact kp_fstore
  | astore_n v => exact kp_astore_n
  | astore v => exact kp_astore
  | lstore_n v => exact kp_lstore_n
  | lstore v => exact kp_lstore
  | dstore_n v => exact kp_dstore_n
  | dstore v => exact kp_dstore
  | goto v => exact kp_goto
  | ifnull v => exact kp_ifnull
  | ifnonnull v => exact kp_ifnonnull
  | ldc v => exact kp_ldc
  | ldc_w v => exact kp_ldc_w
  | ldc2_w v => exact kp_ldc2_w
  | getfield v => exact kp_getfield
  | fconst v =>
    match v with
    | 0 => exact fun _ => KP_refl
    | 1 => exact fun _ => KP_refl
    | 2 => exact fun _ => KP_refl
  | dconst v =>
    match v with
    | 0 => exact fun _ => KP_refl
    | 1 => exact fun _ => KP_refl
  | iinc i v => exact kp_iinc
  | tableswitch a b c e => exact kp_tsw
  | lookupswitch a b => exact kp_lsw
  | ifCond c off => cases c with
    | eq => exact kp_if_eq
    | ne => exact kp_if_ne
    | lt => exact kp_if_lt
    | ge => exact kp_if_ge
    | gt => exact kp_if_gt
    | le => exact kp_if_le
  | if_icmp c off => cases c with
    | eq => exact kp_ic_eq
    | ne => exact kp_ic_ne
    | lt => exact kp_ic_lt
    | ge => exact kp_ic_ge
    | gt => exact kp_ic_gt
    | le => exact kp_ic_le
  | putfield v => exact kp_putfield
  | iastore => exact kp_iastore
  | fastore => exact kp_fastore
  | bastore => exact kp_bastore
  | castore => exact kp_castore
  | aastore => exact kp_aastore
  | newarray v => exact kp_newarray
  | anewarray v => exact kp_anewarray
  | new v => exact kp_new
  | invokevirtual v => exact kp_virt
  | invokespecial v => exact kp_spec
  | invokestatic v => exact kp_stat
  | _ => trivial
theorem ev_keep (k : Ev lay d μ pc ls st I F R n Q) : Ev lay d μ pc ls st I F R n (fun v I' F' R' n' => Q v I' F' R' n' ∧ KP lay I F R I' F' R') := by
  refine k (fun d μ pc ls st I F R n Q => Ev lay d μ pc ls st I F R n (fun v I' F' R' n' => Q v I' F' R' n' ∧ KP lay I F R I' F' R')) (fun d μ pc ls st I F R n Q Q' h k => ev_to k fun _ _ _ _ _ q => ⟨h _ _ _ _ _ q.1, q.2⟩) ?_
  intro d μ pc ls st I F R n Q hk
  rw [ev_iff]
  have hs := st_keep (lay := lay) (d := d) (μ := μ) (pc := pc) (ls := ls) (st := st) (I := I) (F := F) (R := R) (n := n) (m_cd μ pc)
  generalize m_step lay d μ (m_cd μ pc) pc ls st I F R n = o at hk hs
  match o, hk, hs with
  | some (c, .inl (pc', ls', st', I1, F1, R1, n1)), hk, hs =>
    exact ⟨hk.1, ev_to hk.2 fun _ _ _ _ _ q => ⟨q.1, KP_trans (hs hk.1) q.2⟩⟩
  | some (c, .inr (.inl (μ', as, pc', r))), hk, hs =>
    exact ⟨hk.1, ev_to hk.2 fun _ _ _ _ _ q => ev_to q.1 fun _ _ _ _ _ q2 => ⟨q2.1, KP_trans q.2 q2.2⟩⟩
  | some (c, .inr (.inr v)), hk, hs => exact ⟨hk.1, hk.2, KP_refl⟩
end KEEP
