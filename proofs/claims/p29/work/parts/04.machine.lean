-- the machine over pictures of memory: rows of ints, floats and references by address; one step of it; what a run comes to (the least relation closed under the step)
abbrev mI : Type := Nat → Nat → Int32
abbrev mF : Type := Nat → Nat → UInt32
abbrev mR : Type := Nat → Nat → Nat
abbrev mL : Type := Nat → Nat × Nat
abbrev mP : Type := Option Value → mI → mF → mR → Nat → Prop
def m_up {α : Type} (f : Nat → Nat → α) (a k : Nat) (x : α) : Nat → Nat → α := fun b j => if b = a ∧ j = k then x else f b j
def m_row {α : Type} (f : Nat → Nat → α) (a : Nat) (r : Nat → α) : Nat → Nat → α := fun b j => if b = a then r j else f b j
def m_j : Value := .retAddr 0
def m_kl (v : Value) : Value := match v with
  | .long _ => m_j
  | .double _ => m_j
  | .int x => .int x
  | .float x => .float x
  | .ref x => .ref x
  | .null => .null
  | .retAddr x => .retAddr x
def m_kil (ls : List Value) (i : Nat) : List Value := match i with
  | 0 => ls
  | j + 1 => ls.modify j m_kl
def m_s1 (ls : List Value) (i : Nat) (v : Value) : List Value := (m_kil ls i).set i v
def m_s2 (ls : List Value) (i : Nat) (v : Value) : List Value := ((m_kil ls i).set i v).set (i + 1) m_j
def m_rv (r : Nat) : Value := match r with
  | 0 => .null
  | r + 1 => .ref (r + 1)
def m_fv (ty : Nat) (I : mI) (R : mR) (a k : Nat) : Value := match ty with
  | 3 => m_rv (R a k)
  | _ => .int (I a k)
def m_pop : Nat → List Value → List Value → Option (List Value × List Value)
  | 0, acc, st => some (acc, st)
  | n + 1, acc, v :: st => m_pop n (v :: acc) st
  | _ + 1, _, [] => none
def m_sl : List Value → List Value
  | [] => []
  | v :: r => match v with
    | .long x => .long x :: m_j :: m_sl r
    | .double x => .double x :: m_j :: m_sl r
    | w => w :: m_sl r
def m_ent (as : List Value) (ml : Nat) : List Value := m_sl as ++ List.replicate (ml - (m_sl as).length) m_j
def m_psh (v : Option Value) (r : List Value) : List Value := match v with
  | some w => w :: r
  | none => r
abbrev mN : Type := Nat × List Value × List Value × mI × mF × mR × Nat
abbrev mO : Type := Option (Prop × (mN ⊕ (Nat × List Value × Nat × List Value) ⊕ Option Value))
def m_n (c : Prop) (pc : Nat) (ls st : List Value) (I : mI) (F : mF) (R : mR) (n : Nat) : mO := some (c, .inl (pc, ls, st, I, F, R, n))
def m_jmp (pc : Nat) (off : Int) (k : Nat → mO) : mO := match (pc : Int) + off with
  | .ofNat t => k t
  | .negSucc _ => none
def m_in (lay : mL) (kd a : Nat) (i : Int32) : Prop := (lay a).1 = kd ∧ vp_in i (lay a).2
def m_step (lay : mL) (d μ : Nat) (ins : Instr) (pc : Nat) (ls st : List Value) (I : mI) (F : mF) (R : mR) (n : Nat) : mO :=
  match ins with
  | .iconst v => m_n True (pc + 1) ls (.int (Int32.ofInt v) :: st) I F R n
  | .bipush v => m_n True (pc + 2) ls (.int (Int8.ofInt v).toInt32 :: st) I F R n
  | .sipush v => m_n True (pc + 3) ls (.int (Int16.ofInt v).toInt32 :: st) I F R n
  | .lconst v => m_n True (pc + 1) ls (.long (Int64.ofNat (v : Nat)) :: st) I F R n
  | .fconst v => match v with
    | 0 => m_n True (pc + 1) ls (.float 0 :: st) I F R n
    | 1 => m_n True (pc + 1) ls (.float 0x3f800000 :: st) I F R n
    | 2 => m_n True (pc + 1) ls (.float 0x40000000 :: st) I F R n
  | .dconst v => match v with
    | 0 => m_n True (pc + 1) ls (.double 0 :: st) I F R n
    | 1 => m_n True (pc + 1) ls (.double 0x3ff0000000000000 :: st) I F R n
  | .ldc ix => match m_ctk (m_ox μ) ix with
    | some (_, .int v) => m_n True (pc + 2) ls (.int v :: st) I F R n
    | some (_, .float v) => m_n True (pc + 2) ls (.float v :: st) I F R n
    | _ => none
  | .ldc_w ix => match m_ctk (m_ox μ) ix with
    | some (_, .int v) => m_n True (pc + 3) ls (.int v :: st) I F R n
    | _ => none
  | .ldc2_w ix => match m_ctk (m_ox μ) ix with
    | some (_, .long v) => m_n True (pc + 3) ls (.long v :: st) I F R n
    | some (_, .double v) => m_n True (pc + 3) ls (.double v :: st) I F R n
    | _ => none
  | .iload_n k => match ls[k.val]? with
    | some (.int x) => m_n True (pc + 1) ls (.int x :: st) I F R n
    | _ => none
  | .iload k => match ls[k]? with
    | some (.int x) => m_n True (pc + 2) ls (.int x :: st) I F R n
    | _ => none
  | .lload_n k => match ls[k.val]? with
    | some (.long x) => m_n True (pc + 1) ls (.long x :: st) I F R n
    | _ => none
  | .lload k => match ls[k]? with
    | some (.long x) => m_n True (pc + 2) ls (.long x :: st) I F R n
    | _ => none
  | .fload_n k => match ls[k.val]? with
    | some (.float x) => m_n True (pc + 1) ls (.float x :: st) I F R n
    | _ => none
  | .fload k => match ls[k]? with
    | some (.float x) => m_n True (pc + 2) ls (.float x :: st) I F R n
    | _ => none
  | .dload_n k => match ls[k.val]? with
    | some (.double x) => m_n True (pc + 1) ls (.double x :: st) I F R n
    | _ => none
  | .dload k => match ls[k]? with
    | some (.double x) => m_n True (pc + 2) ls (.double x :: st) I F R n
    | _ => none
  | .aload_n k => match ls[k.val]? with
    | some (.ref x) => m_n True (pc + 1) ls (.ref x :: st) I F R n
    | some .null => m_n True (pc + 1) ls (.null :: st) I F R n
    | _ => none
  | .aload k => match ls[k]? with
    | some (.ref x) => m_n True (pc + 2) ls (.ref x :: st) I F R n
    | some .null => m_n True (pc + 2) ls (.null :: st) I F R n
    | _ => none
  | .istore_n k => match st with
    | .int x :: r => m_n (k.val < ls.length) (pc + 1) (m_s1 ls k.val (.int x)) r I F R n
    | _ => none
  | .istore k => match st with
    | .int x :: r => m_n (k < ls.length) (pc + 2) (m_s1 ls k (.int x)) r I F R n
    | _ => none
  | .fstore_n k => match st with
    | .float x :: r => m_n (k.val < ls.length) (pc + 1) (m_s1 ls k.val (.float x)) r I F R n
    | _ => none
  | .fstore k => match st with
    | .float x :: r => m_n (k < ls.length) (pc + 2) (m_s1 ls k (.float x)) r I F R n
    | _ => none
  | .astore_n k => match st with
    | .ref x :: r => m_n (k.val < ls.length) (pc + 1) (m_s1 ls k.val (.ref x)) r I F R n
    | .null :: r => m_n (k.val < ls.length) (pc + 1) (m_s1 ls k.val .null) r I F R n
    | _ => none
  | .astore k => match st with
    | .ref x :: r => m_n (k < ls.length) (pc + 2) (m_s1 ls k (.ref x)) r I F R n
    | .null :: r => m_n (k < ls.length) (pc + 2) (m_s1 ls k .null) r I F R n
    | _ => none
  | .lstore_n k => match st with
    | .long x :: r => m_n (k.val + 1 < ls.length) (pc + 1) (m_s2 ls k.val (.long x)) r I F R n
    | _ => none
  | .lstore k => match st with
    | .long x :: r => m_n (k + 1 < ls.length) (pc + 2) (m_s2 ls k (.long x)) r I F R n
    | _ => none
  | .dstore_n k => match st with
    | .double x :: r => m_n (k.val + 1 < ls.length) (pc + 1) (m_s2 ls k.val (.double x)) r I F R n
    | _ => none
  | .dstore k => match st with
    | .double x :: r => m_n (k + 1 < ls.length) (pc + 2) (m_s2 ls k (.double x)) r I F R n
    | _ => none
  | .iinc i k => match ls[i]? with
    | some (.int x) => m_n True (pc + 3) (m_s1 ls i (.int (x + Int32.ofInt k))) st I F R n
    | _ => none
  | .iadd => match st with
    | .int y :: .int x :: r => m_n True (pc + 1) ls (.int (x + y) :: r) I F R n
    | _ => none
  | .isub => match st with
    | .int y :: .int x :: r => m_n True (pc + 1) ls (.int (x - y) :: r) I F R n
    | _ => none
  | .imul => match st with
    | .int y :: .int x :: r => m_n True (pc + 1) ls (.int (x * y) :: r) I F R n
    | _ => none
  | .iand => match st with
    | .int y :: .int x :: r => m_n True (pc + 1) ls (.int (x &&& y) :: r) I F R n
    | _ => none
  | .ior => match st with
    | .int y :: .int x :: r => m_n True (pc + 1) ls (.int (x ||| y) :: r) I F R n
    | _ => none
  | .ixor => match st with
    | .int y :: .int x :: r => m_n True (pc + 1) ls (.int (x ^^^ y) :: r) I F R n
    | _ => none
  | .idiv => match st with
    | .int y :: .int x :: r => m_n (¬ y = 0) (pc + 1) ls (.int (x / y) :: r) I F R n
    | _ => none
  | .irem => match st with
    | .int y :: .int x :: r => m_n (¬ y = 0) (pc + 1) ls (.int (x - x / y * y) :: r) I F R n
    | _ => none
  | .ineg => match st with
    | .int x :: r => m_n True (pc + 1) ls (.int (-x) :: r) I F R n
    | _ => none
  | .ishl => match st with
    | .int y :: .int x :: r => m_n True (pc + 1) ls (.int (x <<< (y &&& 31)) :: r) I F R n
    | _ => none
  | .ishr => match st with
    | .int y :: .int x :: r => m_n True (pc + 1) ls (.int (x >>> (y &&& 31)) :: r) I F R n
    | _ => none
  | .iushr => match st with
    | .int y :: .int x :: r => m_n True (pc + 1) ls (.int (x.toUInt32 >>> (y.toUInt32 &&& Int32.toUInt32 31)).toInt32 :: r) I F R n
    | _ => none
  | .ladd => match st with
    | .long y :: .long x :: r => m_n True (pc + 1) ls (.long (x + y) :: r) I F R n
    | _ => none
  | .lsub => match st with
    | .long y :: .long x :: r => m_n True (pc + 1) ls (.long (x - y) :: r) I F R n
    | _ => none
  | .lmul => match st with
    | .long y :: .long x :: r => m_n True (pc + 1) ls (.long (x * y) :: r) I F R n
    | _ => none
  | .land => match st with
    | .long y :: .long x :: r => m_n True (pc + 1) ls (.long (x &&& y) :: r) I F R n
    | _ => none
  | .lor => match st with
    | .long y :: .long x :: r => m_n True (pc + 1) ls (.long (x ||| y) :: r) I F R n
    | _ => none
  | .lshl => match st with
    | .int y :: .long x :: r => m_n True (pc + 1) ls (.long (x <<< (y.toInt64 &&& 63)) :: r) I F R n
    | _ => none
  | .lshr => match st with
    | .int y :: .long x :: r => m_n True (pc + 1) ls (.long (x >>> (y.toInt64 &&& 63)) :: r) I F R n
    | _ => none
  | .lushr => match st with
    | .int y :: .long x :: r => m_n True (pc + 1) ls (.long (x.toUInt64 >>> (y.toInt64.toUInt64 &&& Int64.toUInt64 63)).toInt64 :: r) I F R n
    | _ => none
  | .lcmp => match st with
    | .long y :: .long x :: r => m_n True (pc + 1) ls (.int (lg_cmp x y) :: r) I F R n
    | _ => none
  | .i2l => match st with
    | .int x :: r => m_n True (pc + 1) ls (.long x.toInt64 :: r) I F R n
    | _ => none
  | .l2i => match st with
    | .long x :: r => m_n True (pc + 1) ls (.int x.toInt32 :: r) I F R n
    | _ => none
  | .i2c => match st with
    | .int x :: r => m_n True (pc + 1) ls (.int (x.toUInt32 % 65536).toInt32 :: r) I F R n
    | _ => none
  | .i2f => match st with
    | .int x :: r => m_n True (pc + 1) ls (.float (FP.i2f x) :: r) I F R n
    | _ => none
  | .i2d => match st with
    | .int x :: r => m_n True (pc + 1) ls (.double (FP.i2d x) :: r) I F R n
    | _ => none
  | .f2i => match st with
    | .float x :: r => m_n True (pc + 1) ls (.int (FP.f2i x) :: r) I F R n
    | _ => none
  | .d2i => match st with
    | .double x :: r => m_n True (pc + 1) ls (.int (FP.d2i x) :: r) I F R n
    | _ => none
  | .d2l => match st with
    | .double x :: r => m_n True (pc + 1) ls (.long (FP.d2l x) :: r) I F R n
    | _ => none
  | .f2d => match st with
    | .float x :: r => m_n (vf_n64 (FP.f2d x)) (pc + 1) ls (.double (FP.f2d x) :: r) I F R n
    | _ => none
  | .fadd => match st with
    | .float y :: .float x :: r => m_n (vf_n32 (FP.fadd x y)) (pc + 1) ls (.float (FP.fadd x y) :: r) I F R n
    | _ => none
  | .fsub => match st with
    | .float y :: .float x :: r => m_n (vf_n32 (FP.fsub x y)) (pc + 1) ls (.float (FP.fsub x y) :: r) I F R n
    | _ => none
  | .fmul => match st with
    | .float y :: .float x :: r => m_n (vf_n32 (FP.fmul x y)) (pc + 1) ls (.float (FP.fmul x y) :: r) I F R n
    | _ => none
  | .fdiv => match st with
    | .float y :: .float x :: r => m_n (vf_n32 (FP.fdiv x y)) (pc + 1) ls (.float (FP.fdiv x y) :: r) I F R n
    | _ => none
  | .dadd => match st with
    | .double y :: .double x :: r => m_n (vf_n64 (FP.dadd x y)) (pc + 1) ls (.double (FP.dadd x y) :: r) I F R n
    | _ => none
  | .dsub => match st with
    | .double y :: .double x :: r => m_n (vf_n64 (FP.dsub x y)) (pc + 1) ls (.double (FP.dsub x y) :: r) I F R n
    | _ => none
  | .dmul => match st with
    | .double y :: .double x :: r => m_n (vf_n64 (FP.dmul x y)) (pc + 1) ls (.double (FP.dmul x y) :: r) I F R n
    | _ => none
  | .ddiv => match st with
    | .double y :: .double x :: r => m_n (vf_n64 (FP.ddiv x y)) (pc + 1) ls (.double (FP.ddiv x y) :: r) I F R n
    | _ => none
  | .fcmp op => match st with
    | .float y :: .float x :: r => m_n True (pc + 1) ls (.int (Op.cmpValue (FP.fcmp x y) op) :: r) I F R n
    | _ => none
  | .dcmp op => match st with
    | .double y :: .double x :: r => m_n True (pc + 1) ls (.int (Op.cmpValue (FP.dcmp x y) op) :: r) I F R n
    | _ => none
  | .dup => match st with
    | v :: r => m_n (v.category = 1) (pc + 1) ls (v :: v :: r) I F R n
    | _ => none
  | .dup2 => match st with
    | v :: w :: r => m_n (v.category = 1 ∧ w.category = 1) (pc + 1) ls (v :: w :: v :: w :: r) I F R n
    | _ => none
  | .pop => match st with
    | v :: r => m_n (v.category = 1) (pc + 1) ls r I F R n
    | _ => none
  | .goto off => m_jmp pc off fun t => m_n True t ls st I F R n
  | .ifCond .eq off => match st with
    | .int x :: r => m_jmp pc off fun t => m_n True (if x = 0 then t else pc + 3) ls r I F R n
    | _ => none
  | .ifCond .ne off => match st with
    | .int x :: r => m_jmp pc off fun t => m_n True (if x = 0 then pc + 3 else t) ls r I F R n
    | _ => none
  | .ifCond .lt off => match st with
    | .int x :: r => m_jmp pc off fun t => m_n True (if x < 0 then t else pc + 3) ls r I F R n
    | _ => none
  | .ifCond .ge off => match st with
    | .int x :: r => m_jmp pc off fun t => m_n True (if 0 ≤ x then t else pc + 3) ls r I F R n
    | _ => none
  | .ifCond .gt off => match st with
    | .int x :: r => m_jmp pc off fun t => m_n True (if 0 < x then t else pc + 3) ls r I F R n
    | _ => none
  | .ifCond .le off => match st with
    | .int x :: r => m_jmp pc off fun t => m_n True (if x ≤ 0 then t else pc + 3) ls r I F R n
    | _ => none
  | .if_icmp .eq off => match st with
    | .int y :: .int x :: r => m_jmp pc off fun t => m_n True (if x = y then t else pc + 3) ls r I F R n
    | _ => none
  | .if_icmp .ne off => match st with
    | .int y :: .int x :: r => m_jmp pc off fun t => m_n True (if x = y then pc + 3 else t) ls r I F R n
    | _ => none
  | .if_icmp .lt off => match st with
    | .int y :: .int x :: r => m_jmp pc off fun t => m_n True (if x < y then t else pc + 3) ls r I F R n
    | _ => none
  | .if_icmp .ge off => match st with
    | .int y :: .int x :: r => m_jmp pc off fun t => m_n True (if y ≤ x then t else pc + 3) ls r I F R n
    | _ => none
  | .if_icmp .gt off => match st with
    | .int y :: .int x :: r => m_jmp pc off fun t => m_n True (if y < x then t else pc + 3) ls r I F R n
    | _ => none
  | .if_icmp .le off => match st with
    | .int y :: .int x :: r => m_jmp pc off fun t => m_n True (if x ≤ y then t else pc + 3) ls r I F R n
    | _ => none
  | .ifnull off => match st with
    | .null :: r => m_jmp pc off fun t => m_n True t ls r I F R n
    | .ref _ :: r => m_n True (pc + 3) ls r I F R n
    | _ => none
  | .ifnonnull off => match st with
    | .null :: r => m_n True (pc + 3) ls r I F R n
    | .ref _ :: r => m_jmp pc off fun t => m_n True t ls r I F R n
    | _ => none
  | .tableswitch df lo hi offs => match st with
    | .int x :: r => if x.toInt < lo ∨ hi < x.toInt then m_jmp pc df fun t => m_n True t ls r I F R n else match offs[(x.toInt - lo).toNat]? with
      | some off => m_jmp pc off fun t => m_n True t ls r I F R n
      | none => none
    | _ => none
  | .lookupswitch df ps => match st with
    | .int x :: r => m_jmp pc (Op.lookupswitch.offset ps.toList df x.toInt) fun t => m_n ((ps.toList.zip (ps.toList.drop 1)).all (fun (a, next) => a.1 < next.1) = true) t ls r I F R n
    | _ => none
  | .ireturn => match st with
    | [.int x] => match m_rt μ with
      | some .int => some (True, .inr (.inr (some (.int x))))
      | some t => some (narrow t (.int x) = .int x, .inr (.inr (some (.int x))))
      | none => none
    | _ => none
  | .lreturn => match st with
    | [.long x] => match m_rt μ with
      | some .long => some (True, .inr (.inr (some (.long x))))
      | _ => none
    | _ => none
  | .freturn => match st with
    | [.float x] => match m_rt μ with
      | some .float => some (True, .inr (.inr (some (.float x))))
      | _ => none
    | _ => none
  | .dreturn => match st with
    | [.double x] => match m_rt μ with
      | some .double => some (True, .inr (.inr (some (.double x))))
      | _ => none
    | _ => none
  | .return_ => match st with
    | [] => match m_rt μ with
      | none => some (True, .inr (.inr none))
      | _ => none
    | _ => none
  | .getfield ix => match st with
    | .ref a :: r => match m_flk (m_ox μ) ix with
      | some (_, ci, k, ty, _) => m_n (lay a = (5 + ci, 0)) (pc + 3) ls (m_fv ty I R a k :: r) I F R n
      | none => none
    | _ => none
  | .putfield ix => match st with
    | v :: .ref a :: r => match m_flk (m_ox μ) ix with
      | some (_, ci, k, ty, fin) => match fin && !(m_ini μ && ci == m_ox μ) with
        | true => none
        | false => match ty, v with
          | 0, .int x => m_n (lay a = (5 + ci, 0)) (pc + 3) ls r (m_up I a k x) F R n
          | 1, .int x => m_n (lay a = (5 + ci, 0) ∧ (x = 0 ∨ x = 1)) (pc + 3) ls r (m_up I a k x) F R n
          | 2, .int x => m_n (lay a = (5 + ci, 0) ∧ narrow .char (.int x) = .int x ∧ fits .char (.int x) = true) (pc + 3) ls r (m_up I a k x) F R n
          | 3, .null => m_n (lay a = (5 + ci, 0)) (pc + 3) ls r I F (m_up R a k 0) n
          | 3, .ref b => m_n (lay a = (5 + ci, 0) ∧ b ≠ 0) (pc + 3) ls r I F (m_up R a k b) n
          | _, _ => none
      | none => none
    | _ => none
  | .iaload => match st with
    | .int i :: .ref a :: r => m_n (m_in lay 0 a i) (pc + 1) ls (.int (I a i.toNatClampNeg) :: r) I F R n
    | _ => none
  | .faload => match st with
    | .int i :: .ref a :: r => m_n (m_in lay 1 a i) (pc + 1) ls (.float (F a i.toNatClampNeg) :: r) I F R n
    | _ => none
  | .baload => match st with
    | .int i :: .ref a :: r => m_n (m_in lay 2 a i) (pc + 1) ls (.int (I a i.toNatClampNeg) :: r) I F R n
    | _ => none
  | .caload => match st with
    | .int i :: .ref a :: r => m_n (m_in lay 3 a i) (pc + 1) ls (.int (I a i.toNatClampNeg) :: r) I F R n
    | _ => none
  | .aaload => match st with
    | .int i :: .ref a :: r => m_n (m_in lay 4 a i) (pc + 1) ls (m_rv (R a i.toNatClampNeg) :: r) I F R n
    | _ => none
  | .iastore => match st with
    | .int x :: .int i :: .ref a :: r => m_n (a ≠ 0 ∧ m_in lay 0 a i) (pc + 1) ls r (m_up I a i.toNatClampNeg x) F R n
    | _ => none
  | .fastore => match st with
    | .float x :: .int i :: .ref a :: r => m_n (m_in lay 1 a i) (pc + 1) ls r I (m_up F a i.toNatClampNeg x) R n
    | _ => none
  | .bastore => match st with
    | .int x :: .int i :: .ref a :: r => m_n (m_in lay 2 a i) (pc + 1) ls r (m_up I a i.toNatClampNeg (vp_nar .boolean x)) F R n
    | _ => none
  | .castore => match st with
    | .int x :: .int i :: .ref a :: r => m_n (m_in lay 3 a i) (pc + 1) ls r (m_up I a i.toNatClampNeg (vp_nar .char x)) F R n
    | _ => none
  | .aastore => match st with
    | .ref v :: .int i :: .ref a :: r => m_n (m_in lay 4 a i ∧ v ≠ 0 ∧ lay v = (11, 0)) (pc + 1) ls r I F (m_up R a i.toNatClampNeg v) n
    | _ => none
  | .arraylength => match st with
    | .ref a :: r => m_n ((lay a).1 < 5) (pc + 1) ls (.int (Int32.ofNat (lay a).2) :: r) I F R n
    | _ => none
  | .newarray t => match st with
    | .int c :: r => match t with
      | .int => m_n (¬ c < 0 ∧ c.toNatClampNeg ≤ 100000 ∧ lay n = (0, c.toNatClampNeg)) (pc + 2) ls (.ref n :: r) (m_row I n (fun _ => 0)) F R (n + 1)
      | .float => m_n (¬ c < 0 ∧ c.toNatClampNeg ≤ 100000 ∧ lay n = (1, c.toNatClampNeg)) (pc + 2) ls (.ref n :: r) I (m_row F n (fun _ => 0)) R (n + 1)
      | .boolean => m_n (¬ c < 0 ∧ c.toNatClampNeg ≤ 100000 ∧ lay n = (2, c.toNatClampNeg)) (pc + 2) ls (.ref n :: r) (m_row I n (fun _ => 0)) F R (n + 1)
      | .char => m_n (¬ c < 0 ∧ c.toNatClampNeg ≤ 100000 ∧ lay n = (3, c.toNatClampNeg)) (pc + 2) ls (.ref n :: r) (m_row I n (fun _ => 0)) F R (n + 1)
      | _ => none
    | _ => none
  | .anewarray ix => match st with
    | .int c :: r => match m_cnk (m_ox μ) ix with
      | some (_, 6) => m_n (¬ c < 0 ∧ c.toNatClampNeg ≤ 100000 ∧ lay n = (4, c.toNatClampNeg)) (pc + 3) ls (.ref n :: r) I F (m_row R n (fun _ => 0)) (n + 1)
      | _ => none
    | _ => none
  | .new ix => match m_cnk (m_ox μ) ix with
    | some (_, ci) => m_n (lay n = (5 + ci, 0)) (pc + 3) ls (.ref n :: st) (m_row I n (fun _ => 0)) F (m_row R n (fun _ => 0)) (n + 1)
    | none => none
  | .invokevirtual ix => match m_mtk (m_ox μ) ix with
    | some (_, 0, μ', k, ci) => match m_pop k [] st with
      | some (as, .ref a :: r) => match Nat.ble (m_sl (.ref a :: as)).length (m_ml μ') with
        | true => some (lay a = (5 + ci, 0) ∧ (r.length ≤ 4 ∨ (r.map fun v => v.category).sum ≤ 8) ∧ 1 ≤ d, .inr (.inl (μ', .ref a :: as, pc + 3, r)))
        | false => none
      | _ => none
    | _ => none
  | .invokestatic ix => match m_mtk (m_ox μ) ix with
    | some (_, 1, μ', k, _) => match m_pop k [] st with
      | some (as, r) => match Nat.ble (m_sl as).length (m_ml μ') with
        | true => some ((r.length ≤ 4 ∨ (r.map fun v => v.category).sum ≤ 8) ∧ 1 ≤ d, .inr (.inl (μ', as, pc + 3, r)))
        | false => none
      | none => none
    | some (_, 5, _, _, _) => match st with
      | .int m :: .int dp :: .ref b :: .int sp :: .ref a :: r => match (lay a).1 with
        | 0 => m_n (a ≠ 0 ∧ b ≠ 0 ∧ (lay b).1 = 0 ∧ (¬ sp < 0 ∧ ¬ dp < 0 ∧ ¬ m < 0) ∧ (sp.toNatClampNeg + m.toNatClampNeg ≤ (lay a).2 ∧ dp.toNatClampNeg + m.toNatClampNeg ≤ (lay b).2) ∧ (r.length ≤ 4 ∨ (r.map fun v => v.category).sum ≤ 8) ∧ 1 ≤ d) (pc + 3) ls r (m_row I b (va_cpy (I a) (I b) sp.toNatClampNeg dp.toNatClampNeg m.toNatClampNeg)) F R n
        | 1 => m_n ((lay b).1 = 1 ∧ (¬ sp < 0 ∧ ¬ dp < 0 ∧ ¬ m < 0) ∧ (sp.toNatClampNeg + m.toNatClampNeg ≤ (lay a).2 ∧ dp.toNatClampNeg + m.toNatClampNeg ≤ (lay b).2) ∧ (r.length ≤ 4 ∨ (r.map fun v => v.category).sum ≤ 8) ∧ 1 ≤ d) (pc + 3) ls r I (m_row F b (va_cpy (F a) (F b) sp.toNatClampNeg dp.toNatClampNeg m.toNatClampNeg)) R n
        | _ => none
      | _ => none
    | some (_, 6, _, _, _) => match st with
      | .int y :: .int x :: r => m_n ((r.length ≤ 4 ∨ (r.map fun v => v.category).sum ≤ 8) ∧ 1 ≤ d) (pc + 3) ls (.int (if x < y then y else x) :: r) I F R n
      | _ => none
    | some (_, 7, _, _, _) => match st with
      | .int y :: .int x :: r => m_n ((r.length ≤ 4 ∨ (r.map fun v => v.category).sum ≤ 8) ∧ 1 ≤ d) (pc + 3) ls (.int (if y < x then y else x) :: r) I F R n
      | _ => none
    | _ => none
  | .invokespecial ix => match m_mtk (m_ox μ) ix with
    | some (_, 2, μ', k, _) => match m_pop k [] st with
      | some (as, .ref a :: r) => match Nat.ble (m_sl (.ref a :: as)).length (m_ml μ') with
        | true => some ((r.length ≤ 4 ∨ (r.map fun v => v.category).sum ≤ 8) ∧ 1 ≤ d, .inr (.inl (μ', .ref a :: as, pc + 3, r)))
        | false => none
      | _ => none
    | some (_, 3, μ', k, _) => match m_pop k [] st with
      | some (as, .ref a :: r) => match Nat.ble (m_sl (.ref a :: as)).length (m_ml μ') with
        | true => some ((r.length ≤ 4 ∨ (r.map fun v => v.category).sum ≤ 8) ∧ 1 ≤ d, .inr (.inl (μ', .ref a :: as, pc + 3, r)))
        | false => none
      | _ => none
    | some (_, 4, _, _, _) => match st with
      | .ref _ :: r => m_n ((r.length ≤ 4 ∨ (r.map fun v => v.category).sum ≤ 8) ∧ 1 ≤ d) (pc + 3) ls r I F R n
      | _ => none
    | _ => none
  | _ => none
abbrev mX : Type := Nat → Nat → Nat → List Value → List Value → mI → mF → mR → Nat → mP → Prop
def m_mono (X : mX) : Prop := ∀ (d μ pc : Nat) (ls st : List Value) (I : mI) (F : mF) (R : mR) (n : Nat) (Q Q' : mP), (∀ v I F R n, Q v I F R n → Q' v I F R n) → X d μ pc ls st I F R n Q → X d μ pc ls st I F R n Q'
/-- what a step needs of what comes behind it -/
def m_do (X : mX) (d μ : Nat) (ls : List Value) (I : mI) (F : mF) (R : mR) (n : Nat) (Q : mP) (o : mO) : Prop := match o with
  | none => False
  | some (c, .inl (pc, ls, st, I, F, R, n)) => c ∧ X d μ pc ls st I F R n Q
  | some (c, .inr (.inl (μ', as, pc, r))) => c ∧ X (d - 1) μ' 0 (m_ent as (m_ml μ')) [] I F R n (fun v I F R n => X d μ pc ls (m_psh v r) I F R n Q)
  | some (c, .inr (.inr v)) => c ∧ Q v I F R n
def m_clo (lay : mL) (X : mX) : Prop := ∀ (d μ pc : Nat) (ls st : List Value) (I : mI) (F : mF) (R : mR) (n : Nat) (Q : mP), m_do X d μ ls I F R n Q (m_step lay d μ (m_cd μ pc) pc ls st I F R n) → X d μ pc ls st I F R n Q
def Ev (lay : mL) : mX := fun d μ pc ls st I F R n Q => ∀ X : mX, m_mono X → m_clo lay X → X d μ pc ls st I F R n Q
theorem m_do_mono {X : mX} (hX : m_mono X) {d μ : Nat} {ls : List Value} {I : mI} {F : mF} {R : mR} {n : Nat} {Q Q' : mP} (h : ∀ v I F R n, Q v I F R n → Q' v I F R n) {o : mO} (k : m_do X d μ ls I F R n Q o) : m_do X d μ ls I F R n Q' o := by
  match o, k with
  | some (c, .inl (pc, ls, st, I, F, R, n)), k => exact ⟨k.1, hX _ _ _ _ _ _ _ _ _ _ _ h k.2⟩
  | some (c, .inr (.inl (μ', as, pc, r))), k => exact ⟨k.1, hX _ _ _ _ _ _ _ _ _ _ _ (fun v I F R n => hX _ _ _ _ _ _ _ _ _ _ _ h) k.2⟩
  | some (c, .inr (.inr v)), k => exact ⟨k.1, h _ _ _ _ _ k.2⟩
theorem m_do_to {X Y : mX} (hX : m_mono X) (h : ∀ d μ pc ls st I F R n Q, Y d μ pc ls st I F R n Q → X d μ pc ls st I F R n Q) {d μ : Nat} {ls : List Value} {I : mI} {F : mF} {R : mR} {n : Nat} {Q : mP} {o : mO} (k : m_do Y d μ ls I F R n Q o) : m_do X d μ ls I F R n Q o := by
  match o, k with
  | some (c, .inl (pc, ls, st, I, F, R, n)), k => exact ⟨k.1, h _ _ _ _ _ _ _ _ _ _ k.2⟩
  | some (c, .inr (.inl (μ', as, pc, r))), k => exact ⟨k.1, hX _ _ _ _ _ _ _ _ _ _ _ (fun v I F R n => h _ _ _ _ _ _ _ _ _ _) (h _ _ _ _ _ _ _ _ _ _ k.2)⟩
  | some (c, .inr (.inr v)), k => exact k
theorem ev_mono (lay : mL) : m_mono (Ev lay) := fun _ _ _ _ _ _ _ _ _ _ _ h k X hX hc => hX _ _ _ _ _ _ _ _ _ _ _ h (k X hX hc)
theorem ev_clo (lay : mL) : m_clo lay (Ev lay) := fun _ _ _ _ _ _ _ _ _ _ k X hX hc => hc _ _ _ _ _ _ _ _ _ _ (m_do_to hX (fun _ _ _ _ _ _ _ _ _ _ e => e X hX hc) k)
theorem ev_iff (lay : mL) (d μ pc : Nat) (ls st : List Value) (I : mI) (F : mF) (R : mR) (n : Nat) (Q : mP) : Ev lay d μ pc ls st I F R n Q ↔ m_do (Ev lay) d μ ls I F R n Q (m_step lay d μ (m_cd μ pc) pc ls st I F R n) := by
  refine ⟨fun k => ?_, ev_clo lay _ _ _ _ _ _ _ _ _ _⟩
  refine k (fun d μ pc ls st I F R n Q => m_do (Ev lay) d μ ls I F R n Q (m_step lay d μ (m_cd μ pc) pc ls st I F R n)) (fun _ _ _ _ _ _ _ _ _ _ _ h => m_do_mono (ev_mono lay) h) (fun d μ pc ls st I F R n Q k => ?_)
  exact m_do_to (ev_mono lay) (fun _ _ _ _ _ _ _ _ _ _ => ev_clo lay _ _ _ _ _ _ _ _ _ _) k
section EV
variable {lay : mL} {d μ pc pc' n n' μ' : Nat} {ls st ls' st' as r : List Value} {I I' : mI} {F F' : mF} {R R' : mR} {Q : mP} {c : Prop} {v : Option Value}
theorem ev_n (h : m_step lay d μ (m_cd μ pc) pc ls st I F R n = some (True, .inl (pc', ls', st', I', F', R', n'))) : Ev lay d μ pc ls st I F R n Q ↔ Ev lay d μ pc' ls' st' I' F' R' n' Q := by
  rw [ev_iff, h]
  exact iff_of_eq (true_and _)
theorem ev_nc (h : m_step lay d μ (m_cd μ pc) pc ls st I F R n = some (c, .inl (pc', ls', st', I', F', R', n'))) : Ev lay d μ pc ls st I F R n Q ↔ (c ∧ Ev lay d μ pc' ls' st' I' F' R' n' Q) := by
  rw [ev_iff, h]
  exact Iff.rfl
theorem ev_c (h : m_step lay d μ (m_cd μ pc) pc ls st I F R n = some (c, .inr (.inl (μ', as, pc', r)))) (he : m_ent as (m_ml μ') = ls') : Ev lay d μ pc ls st I F R n Q ↔ (c ∧ Ev lay (d - 1) μ' 0 ls' [] I F R n (fun v I F R n => Ev lay d μ pc' ls (m_psh v r) I F R n Q)) := by
  subst he
  rw [ev_iff, h]
  exact Iff.rfl
theorem ev_r (h : m_step lay d μ (m_cd μ pc) pc ls st I F R n = some (True, .inr (.inr v))) : Ev lay d μ pc ls st I F R n Q ↔ Q v I F R n := by
  rw [ev_iff, h]
  exact iff_of_eq (true_and _)
theorem ev_rc (h : m_step lay d μ (m_cd μ pc) pc ls st I F R n = some (c, .inr (.inr v))) : Ev lay d μ pc ls st I F R n Q ↔ (c ∧ Q v I F R n) := by
  rw [ev_iff, h]
  exact Iff.rfl
theorem ev_if {p : Prop} (dp : Decidable p) {a b : Nat} : Ev lay d μ (@ite Nat p dp a b) ls st I F R n Q ↔ @ite Prop p dp (Ev lay d μ a ls st I F R n Q) (Ev lay d μ b ls st I F R n Q) := by
  by_cases h : p
  · rw [if_pos h, if_pos h]
  · rw [if_neg h, if_neg h]
theorem ev_to {Q' : mP} (k : Ev lay d μ pc ls st I F R n Q) (h : ∀ v I F R n, Q v I F R n → Q' v I F R n) : Ev lay d μ pc ls st I F R n Q' := ev_mono lay _ _ _ _ _ _ _ _ _ _ _ h k
end EV
