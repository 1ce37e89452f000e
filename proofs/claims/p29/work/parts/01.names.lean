-- ===== PART A: goes FIRST, ahead of the names: the tables' words, and 'selects' of the private methods out of them =====
/-- a private method of a class that the tables say can be made, by its rows of tables_1 -/
def lw_okq (q : MethodName × Nat) : Prop := (q.1.cls ≠ "java/lang/invoke/MethodHandle" ∧ q.1.cls ≠ "java/lang/invoke/VarHandle") ∧ Cond.instantiable q.1.cls q.2 ∈ tables_1 ∧ Cond.privateMethod q.1 ∈ tables_1 ∧ Cond.instanceMethod q.1 ∈ tables_1
theorem lw_p0 : lw_okq (⟨"ShelfSlots", "recorded", "(I)I"⟩, 8) := ⟨⟨by decide +kernel, by decide +kernel⟩, List.mem_of_getElem? (i := 15) (by decide +kernel), List.mem_of_getElem? (i := 315) (by decide +kernel), List.mem_of_getElem? (i := 316) (by decide +kernel)⟩
theorem lw_p1 : lw_okq (⟨"ShelfSlots$Shed", "stand", "(II)V"⟩, 16) := ⟨⟨by decide +kernel, by decide +kernel⟩, List.mem_of_getElem? (i := 23) (by decide +kernel), List.mem_of_getElem? (i := 340) (by decide +kernel), List.mem_of_getElem? (i := 341) (by decide +kernel)⟩
theorem lw_p2 : lw_okq (⟨"ShelfSlots$Shed", "countSwap", "(I)I"⟩, 16) := ⟨⟨by decide +kernel, by decide +kernel⟩, List.mem_of_getElem? (i := 23) (by decide +kernel), List.mem_of_getElem? (i := 344) (by decide +kernel), List.mem_of_getElem? (i := 345) (by decide +kernel)⟩
theorem lw_p3 : lw_okq (⟨"ShelfSlots$Walker", "listGoods", "(I)V"⟩, 2) := ⟨⟨by decide +kernel, by decide +kernel⟩, List.mem_of_getElem? (i := 122) (by decide +kernel), List.mem_of_getElem? (i := 394) (by decide +kernel), List.mem_of_getElem? (i := 395) (by decide +kernel)⟩
theorem lw_p4 : lw_okq (⟨"ShelfSlots$Walker", "moveUp", "(II)V"⟩, 2) := ⟨⟨by decide +kernel, by decide +kernel⟩, List.mem_of_getElem? (i := 122) (by decide +kernel), List.mem_of_getElem? (i := 403) (by decide +kernel), List.mem_of_getElem? (i := 404) (by decide +kernel)⟩
theorem lw_p5 : lw_okq (⟨"ShelfSlots", "pickBasket", "(I)I"⟩, 8) := ⟨⟨by decide +kernel, by decide +kernel⟩, List.mem_of_getElem? (i := 15) (by decide +kernel), List.mem_of_getElem? (i := 422) (by decide +kernel), List.mem_of_getElem? (i := 423) (by decide +kernel)⟩
theorem lw_p6 : lw_okq (⟨"ShelfSlots", "errorOfBasket", "(I)I"⟩, 8) := ⟨⟨by decide +kernel, by decide +kernel⟩, List.mem_of_getElem? (i := 15) (by decide +kernel), List.mem_of_getElem? (i := 426) (by decide +kernel), List.mem_of_getElem? (i := 427) (by decide +kernel)⟩
theorem lw_p7 : lw_okq (⟨"ShelfSlots$Walker", "lastPlace", "(LShelfSlots$Shed;I)I"⟩, 2) := ⟨⟨by decide +kernel, by decide +kernel⟩, List.mem_of_getElem? (i := 122) (by decide +kernel), List.mem_of_getElem? (i := 548) (by decide +kernel), List.mem_of_getElem? (i := 549) (by decide +kernel)⟩
def lw_privs_1 : List (MethodName × Nat) := [(⟨"ShelfSlots", "recorded", "(I)I"⟩, 8), (⟨"ShelfSlots$Shed", "stand", "(II)V"⟩, 16), (⟨"ShelfSlots$Shed", "countSwap", "(I)I"⟩, 16), (⟨"ShelfSlots$Walker", "listGoods", "(I)V"⟩, 2), (⟨"ShelfSlots$Walker", "moveUp", "(II)V"⟩, 2), (⟨"ShelfSlots", "pickBasket", "(I)I"⟩, 8), (⟨"ShelfSlots", "errorOfBasket", "(I)I"⟩, 8), (⟨"ShelfSlots$Walker", "lastPlace", "(LShelfSlots$Shed;I)I"⟩, 2)]
theorem lw_r1 : ∀ q ∈ lw_privs_1, lw_okq q := List.forall_mem_cons.mpr ⟨lw_p0, List.forall_mem_cons.mpr ⟨lw_p1, List.forall_mem_cons.mpr ⟨lw_p2, List.forall_mem_cons.mpr ⟨lw_p3, List.forall_mem_cons.mpr ⟨lw_p4, List.forall_mem_cons.mpr ⟨lw_p5, List.forall_mem_cons.mpr ⟨lw_p6, List.forall_mem_cons.mpr ⟨lw_p7, fun _ h => absurd h List.not_mem_nil⟩⟩⟩⟩⟩⟩⟩⟩
def lw_privs : List (MethodName × Nat) := lw_privs_1
def lw_tbl : List Cond := k2_sels lw_privs ++ tables_1
theorem lw_privs_ok : ∀ q ∈ lw_privs, lw_okq q := lw_r1
/-- the streams that the claim lets the run draw from -/
abbrev lw_cs : List Choice := [Jvm.Choice.named "NaN.bits"]
theorem lw_bits : nanBits ∈ lw_cs := by first | decide | exact List.mem_cons_self | simp [lw_cs, nanBits]
def RX0 : String := "ShelfSlots$Bits"
def TX0 : u_T := fun k => match k with
  | _ => ("", "", "", false)
def tyX0 : Nat → FieldType := fun k => match k with
  | _ => .int
abbrev wsX00 : List Cond := u_ws RX0 TX0 0
theorem nmX0 : ∀ a, a < 0 → ∀ b, b < 0 → a ≠ b → (TX0 a).2.1 ≠ (TX0 b).2.1 := by decide +kernel
theorem tyX0_ok : ∀ k, k < 0 → parseFieldDescriptor (TX0 k).2.2.1 = some (tyX0 k) := by decide +kernel
abbrev cX0_ofFloat : ByteArray := prog_2_method_2_code
def yX0_ofFloat : MethodName := ⟨RX0, "ofFloat", "(F)I"⟩
abbrev cX0_ofDouble : ByteArray := prog_2_method_3_code
def yX0_ofDouble : MethodName := ⟨RX0, "ofDouble", "(D)J"⟩
abbrev cX0_exponentOf : ByteArray := prog_2_method_4_code
def yX0_exponentOf : MethodName := ⟨RX0, "exponentOf", "(D)I"⟩
abbrev cX0_scaled : ByteArray := prog_2_method_5_code
def yX0_scaled : MethodName := ⟨RX0, "scaled", "(DI)D"⟩
def RX1 : String := "ShelfSlots$Day"
def TX1 : u_T := fun k => match k with
  | 0 => ("ShelfSlots$Day", "baskets", "[I", true)
  | 1 => ("ShelfSlots$Day", "lengths", "[I", true)
  | _ => ("ShelfSlots$Day", "many", "I", false)
def tyX1 : Nat → FieldType := fun k => match k with
  | 0 => .array .int
  | 1 => .array .int
  | _ => .int
abbrev wsX10 : List Cond := u_ws RX1 TX1 3
theorem nmX1 : ∀ a, a < 3 → ∀ b, b < 3 → a ≠ b → (TX1 a).2.1 ≠ (TX1 b).2.1 := by decide +kernel
theorem tyX1_ok : ∀ k, k < 3 → parseFieldDescriptor (TX1 k).2.2.1 = some (tyX1 k) := by decide +kernel
abbrev cX1_init : ByteArray := prog_3_method_1_code
def yX1_init : MethodName := ⟨RX1, "<init>", "()V"⟩
abbrev cX1_copyFrom : ByteArray := prog_3_method_2_code
def yX1_copyFrom : MethodName := ⟨RX1, "copyFrom", "(LShelfSlots$Day;)V"⟩
abbrev cX1_add : ByteArray := prog_3_method_3_code
def yX1_add : MethodName := ⟨RX1, "add", "(II)V"⟩
abbrev cX1_together : ByteArray := prog_3_method_4_code
def yX1_together : MethodName := ⟨RX1, "together", "()I"⟩
def RX2 : String := "ShelfSlots$Grammar"
def TX2 : u_T := fun k => match k with
  | 0 => ("ShelfSlots$Grammar", "due", "I", false)
  | 1 => ("ShelfSlots$Grammar", "numberMark", "C", false)
  | _ => ("ShelfSlots$Grammar", "mayEnd", "Z", false)
def tyX2 : Nat → FieldType := fun k => match k with
  | 0 => .int
  | 1 => .char
  | _ => .boolean
abbrev wsX20 : List Cond := u_ws RX2 TX2 3
theorem nmX2 : ∀ a, a < 3 → ∀ b, b < 3 → a ≠ b → (TX2 a).2.1 ≠ (TX2 b).2.1 := by decide +kernel
theorem tyX2_ok : ∀ k, k < 3 → parseFieldDescriptor (TX2 k).2.2.1 = some (tyX2 k) := by decide +kernel
abbrev cX2_init : ByteArray := prog_4_method_1_code
def yX2_init : MethodName := ⟨RX2, "<init>", "()V"⟩
def RX3 : String := "ShelfSlots$History"
def TX3 : u_T := fun k => match k with
  | 0 => ("ShelfSlots$History", "rows", "[LShelfSlots$Shed;", true)
  | 1 => ("ShelfSlots$History", "next", "I", false)
  | _ => ("ShelfSlots$History", "kept", "I", false)
def tyX3 : Nat → FieldType := fun k => match k with
  | 0 => .array (.object "ShelfSlots$Shed")
  | 1 => .int
  | _ => .int
abbrev wsX30 : List Cond := u_ws RX3 TX3 3
theorem nmX3 : ∀ a, a < 3 → ∀ b, b < 3 → a ≠ b → (TX3 a).2.1 ≠ (TX3 b).2.1 := by decide +kernel
theorem tyX3_ok : ∀ k, k < 3 → parseFieldDescriptor (TX3 k).2.2.1 = some (tyX3 k) := by decide +kernel
abbrev cX3_init : ByteArray := prog_5_method_1_code
def yX3_init : MethodName := ⟨RX3, "<init>", "()V"⟩
abbrev cX3_note : ByteArray := prog_5_method_2_code
def yX3_note : MethodName := ⟨RX3, "note", "(LShelfSlots$Shed;)V"⟩
abbrev cX3_keepNote : ByteArray := prog_5_method_3_code
def yX3_keepNote : MethodName := ⟨RX3, "keepNote", "()V"⟩
abbrev cX3_takeBack : ByteArray := prog_5_method_4_code
def yX3_takeBack : MethodName := ⟨RX3, "takeBack", "(LShelfSlots$Shed;)I"⟩
def RX4 : String := "ShelfSlots$Mover"
def TX4 : u_T := fun k => match k with
  | 0 => ("ShelfSlots$Mover", "walker", "LShelfSlots$Walker;", true)
  | 1 => ("ShelfSlots$Mover", "lower", "I", false)
  | _ => ("ShelfSlots$Mover", "higher", "I", false)
def tyX4 : Nat → FieldType := fun k => match k with
  | 0 => .object "ShelfSlots$Walker"
  | 1 => .int
  | _ => .int
abbrev wsX40 : List Cond := u_ws RX4 TX4 3
theorem nmX4 : ∀ a, a < 3 → ∀ b, b < 3 → a ≠ b → (TX4 a).2.1 ≠ (TX4 b).2.1 := by decide +kernel
theorem tyX4_ok : ∀ k, k < 3 → parseFieldDescriptor (TX4 k).2.2.1 = some (tyX4 k) := by decide +kernel
abbrev cX4_init : ByteArray := prog_6_method_1_code
def yX4_init : MethodName := ⟨RX4, "<init>", "(LShelfSlots$Walker;)V"⟩
abbrev cX4_passNight : ByteArray := prog_6_method_2_code
def yX4_passNight : MethodName := ⟨RX4, "passNight", "(LShelfSlots$Shed;)I"⟩
abbrev cX4_findSwap : ByteArray := prog_6_method_3_code
def yX4_findSwap : MethodName := ⟨RX4, "findSwap", "(LShelfSlots$Shed;)Z"⟩
def RX5 : String := "ShelfSlots$Pad"
def TX5 : u_T := fun k => match k with
  | 0 => ("ShelfSlots$Pad", "signs", "[C", true)
  | 1 => ("ShelfSlots$Pad", "grammar", "LShelfSlots$Grammar;", true)
  | 2 => ("ShelfSlots$Pad", "at", "I", false)
  | _ => ("ShelfSlots$Pad", "length", "I", false)
def tyX5 : Nat → FieldType := fun k => match k with
  | 0 => .array .char
  | 1 => .object "ShelfSlots$Grammar"
  | 2 => .int
  | _ => .int
abbrev wsX50 : List Cond := u_ws RX5 TX5 4
theorem nmX5 : ∀ a, a < 4 → ∀ b, b < 4 → a ≠ b → (TX5 a).2.1 ≠ (TX5 b).2.1 := by decide +kernel
theorem tyX5_ok : ∀ k, k < 4 → parseFieldDescriptor (TX5 k).2.2.1 = some (tyX5 k) := by decide +kernel
abbrev cX5_init : ByteArray := prog_7_method_1_code
def yX5_init : MethodName := ⟨RX5, "<init>", "()V"⟩
def RX6 : String := "ShelfSlots$Picked"
def TX6 : u_T := fun k => match k with
  | 0 => ("ShelfSlots$Picked", "basket", "I", true)
  | 1 => ("ShelfSlots$Picked", "times", "I", true)
  | 2 => ("ShelfSlots$Picked", "unlike", "I", true)
  | _ => ("ShelfSlots$Picked", "before", "LShelfSlots$Picked;", true)
def tyX6 : Nat → FieldType := fun k => match k with
  | 0 => .int
  | 1 => .int
  | 2 => .int
  | _ => .object "ShelfSlots$Picked"
abbrev wsX60 : List Cond := u_ws RX6 TX6 4
theorem nmX6 : ∀ a, a < 4 → ∀ b, b < 4 → a ≠ b → (TX6 a).2.1 ≠ (TX6 b).2.1 := by decide +kernel
theorem tyX6_ok : ∀ k, k < 4 → parseFieldDescriptor (TX6 k).2.2.1 = some (tyX6 k) := by decide +kernel
abbrev cX6_init : ByteArray := prog_8_method_1_code
def yX6_init : MethodName := ⟨RX6, "<init>", "(IIILShelfSlots$Picked;)V"⟩
def RX7 : String := "ShelfSlots$Shed"
def TX7 : u_T := fun k => match k with
  | 0 => ("ShelfSlots$Shed", "settings", "[I", true)
  | 1 => ("ShelfSlots$Shed", "slotOf", "[I", true)
  | 2 => ("ShelfSlots$Shed", "goodIn", "[I", true)
  | 3 => ("ShelfSlots$Shed", "speed", "[F", true)
  | 4 => ("ShelfSlots$Shed", "pickedToday", "[I", true)
  | 5 => ("ShelfSlots$Shed", "pickedSoFar", "[I", true)
  | 6 => ("ShelfSlots$Shed", "swapped", "[I", true)
  | 7 => ("ShelfSlots$Shed", "today", "LShelfSlots$Day;", true)
  | 8 => ("ShelfSlots$Shed", "yesterday", "LShelfSlots$Day;", true)
  | 9 => ("ShelfSlots$Shed", "lastPicked", "LShelfSlots$Picked;", false)
  | 10 => ("ShelfSlots$Shed", "picks", "I", false)
  | 11 => ("ShelfSlots$Shed", "goods", "I", false)
  | 12 => ("ShelfSlots$Shed", "closed", "I", false)
  | 13 => ("ShelfSlots$Shed", "nights", "I", false)
  | 14 => ("ShelfSlots$Shed", "walksSoFar", "I", false)
  | _ => ("ShelfSlots$Shed", "nightSwaps", "I", false)
def tyX7 : Nat → FieldType := fun k => match k with
  | 0 => .array .int
  | 1 => .array .int
  | 2 => .array .int
  | 3 => .array .float
  | 4 => .array .int
  | 5 => .array .int
  | 6 => .array .int
  | 7 => .object "ShelfSlots$Day"
  | 8 => .object "ShelfSlots$Day"
  | 9 => .object "ShelfSlots$Picked"
  | 10 => .int
  | 11 => .int
  | 12 => .int
  | 13 => .int
  | 14 => .int
  | _ => .int
abbrev wsX70 : List Cond := u_ws RX7 TX7 16
theorem nmX7 : ∀ a, a < 16 → ∀ b, b < 16 → a ≠ b → (TX7 a).2.1 ≠ (TX7 b).2.1 := by decide +kernel
theorem tyX7_ok : ∀ k, k < 16 → parseFieldDescriptor (TX7 k).2.2.1 = some (tyX7 k) := by decide +kernel
abbrev cX7_init : ByteArray := prog_9_method_1_code
def yX7_init : MethodName := ⟨RX7, "<init>", "()V"⟩
abbrev cX7_copyFrom : ByteArray := prog_9_method_2_code
def yX7_copyFrom : MethodName := ⟨RX7, "copyFrom", "(LShelfSlots$Shed;)V"⟩
abbrev cX7_isSlot : ByteArray := prog_9_method_3_code
def yX7_isSlot : MethodName := ⟨RX7, "isSlot", "(I)Z"⟩
abbrev cX7_isClosed : ByteArray := prog_9_method_4_code
def yX7_isClosed : MethodName := ⟨RX7, "isClosed", "(I)Z"⟩
abbrev cX7_changeSetting : ByteArray := prog_9_method_5_code
def yX7_changeSetting : MethodName := ⟨RX7, "changeSetting", "(II)I"⟩
abbrev cX7_bringGood : ByteArray := prog_9_method_6_code
def yX7_bringGood : MethodName := ⟨RX7, "bringGood", "(I)I"⟩
abbrev cX7_swapByHand : ByteArray := prog_9_method_7_code
def yX7_swapByHand : MethodName := ⟨RX7, "swapByHand", "(II)I"⟩
abbrev cX7_closeOrOpen : ByteArray := prog_9_method_8_code
def yX7_closeOrOpen : MethodName := ⟨RX7, "closeOrOpen", "(I)I"⟩
abbrev cX7_swapCounted : ByteArray := prog_9_method_9_code
def yX7_swapCounted : MethodName := ⟨RX7, "swapCounted", "(II)I"⟩
abbrev cX7_countSwap : ByteArray := prog_9_method_10_code
def yX7_countSwap : MethodName := ⟨RX7, "countSwap", "(I)I"⟩
abbrev cX7_exchange : ByteArray := prog_9_method_11_code
def yX7_exchange : MethodName := ⟨RX7, "exchange", "(II)V"⟩
abbrev cX7_stand : ByteArray := prog_9_method_12_code
def yX7_stand : MethodName := ⟨RX7, "stand", "(II)V"⟩
abbrev cX7_mayMoveByNight : ByteArray := prog_9_method_13_code
def yX7_mayMoveByNight : MethodName := ⟨RX7, "mayMoveByNight", "(II)Z"⟩
abbrev cX7_stepsBetween : ByteArray := prog_9_method_14_code
def yX7_stepsBetween : MethodName := ⟨RX7, "stepsBetween", "(II)I"⟩
abbrev cX7_deskSteps : ByteArray := prog_9_method_15_code
def yX7_deskSteps : MethodName := ⟨RX7, "deskSteps", "(I)I"⟩
abbrev cX7_weight : ByteArray := prog_9_method_16_code
def yX7_weight : MethodName := ⟨RX7, "weight", "()F"⟩
abbrev cX7_mean : ByteArray := prog_9_method_17_code
def yX7_mean : MethodName := ⟨RX7, "mean", "()D"⟩
abbrev cX7_fastest : ByteArray := prog_9_method_18_code
def yX7_fastest : MethodName := ⟨RX7, "fastest", "()I"⟩
abbrev cX7_notePicked : ByteArray := prog_9_method_20_code
def yX7_notePicked : MethodName := ⟨RX7, "notePicked", "(II)V"⟩
abbrev cX7_timesPicked : ByteArray := prog_9_method_21_code
def yX7_timesPicked : MethodName := ⟨RX7, "timesPicked", "(I)I"⟩
abbrev cX7_unlikeBaskets : ByteArray := prog_9_method_22_code
def yX7_unlikeBaskets : MethodName := ⟨RX7, "unlikeBaskets", "()I"⟩
abbrev cX7_ageSpeeds : ByteArray := prog_9_method_23_code
def yX7_ageSpeeds : MethodName := ⟨RX7, "ageSpeeds", "()V"⟩
abbrev cX7_endDay : ByteArray := prog_9_method_24_code
def yX7_endDay : MethodName := ⟨RX7, "endDay", "()V"⟩
def RX8 : String := "ShelfSlots$Walker"
def TX8 : u_T := fun k => match k with
  | 0 => ("ShelfSlots$Walker", "stops", "[I", true)
  | _ => ("ShelfSlots$Walker", "many", "I", false)
def tyX8 : Nat → FieldType := fun k => match k with
  | 0 => .array .int
  | _ => .int
abbrev wsX80 : List Cond := u_ws RX8 TX8 2
theorem nmX8 : ∀ a, a < 2 → ∀ b, b < 2 → a ≠ b → (TX8 a).2.1 ≠ (TX8 b).2.1 := by decide +kernel
theorem tyX8_ok : ∀ k, k < 2 → parseFieldDescriptor (TX8 k).2.2.1 = some (tyX8 k) := by decide +kernel
abbrev cX8_init : ByteArray := prog_10_method_1_code
def yX8_init : MethodName := ⟨RX8, "<init>", "()V"⟩
abbrev cX8_lengthOf : ByteArray := prog_10_method_2_code
def yX8_lengthOf : MethodName := ⟨RX8, "lengthOf", "(LShelfSlots$Shed;I)I"⟩
abbrev cX8_goodAt : ByteArray := prog_10_method_3_code
def yX8_goodAt : MethodName := ⟨RX8, "goodAt", "(I)I"⟩
abbrev cX8_togetherOf : ByteArray := prog_10_method_4_code
def yX8_togetherOf : MethodName := ⟨RX8, "togetherOf", "(LShelfSlots$Shed;)I"⟩
abbrev cX8_listGoods : ByteArray := prog_10_method_5_code
def yX8_listGoods : MethodName := ⟨RX8, "listGoods", "(I)V"⟩
abbrev cX8_moveUp : ByteArray := prog_10_method_6_code
def yX8_moveUp : MethodName := ⟨RX8, "moveUp", "(II)V"⟩
abbrev cX8_shortestOf : ByteArray := prog_10_method_7_code
def yX8_shortestOf : MethodName := ⟨RX8, "shortestOf", "(LShelfSlots$Shed;I)I"⟩
abbrev cX8_lastPlace : ByteArray := prog_10_method_8_code
def yX8_lastPlace : MethodName := ⟨RX8, "lastPlace", "(LShelfSlots$Shed;I)I"⟩
def RX9 : String := "ShelfSlots"
def TX9 : u_T := fun k => match k with
  | 0 => ("ShelfSlots", "now", "LShelfSlots$Shed;", true)
  | 1 => ("ShelfSlots", "trial", "LShelfSlots$Shed;", true)
  | 2 => ("ShelfSlots", "walker", "LShelfSlots$Walker;", true)
  | 3 => ("ShelfSlots", "mover", "LShelfSlots$Mover;", true)
  | 4 => ("ShelfSlots", "pad", "LShelfSlots$Pad;", true)
  | 5 => ("ShelfSlots", "history", "LShelfSlots$History;", true)
  | 6 => ("ShelfSlots", "saved", "[LShelfSlots$Shed;", true)
  | _ => ("ShelfSlots", "wasSaved", "[Z", true)
def tyX9 : Nat → FieldType := fun k => match k with
  | 0 => .object "ShelfSlots$Shed"
  | 1 => .object "ShelfSlots$Shed"
  | 2 => .object "ShelfSlots$Walker"
  | 3 => .object "ShelfSlots$Mover"
  | 4 => .object "ShelfSlots$Pad"
  | 5 => .object "ShelfSlots$History"
  | 6 => .array (.object "ShelfSlots$Shed")
  | _ => .array .boolean
abbrev wsX90 : List Cond := u_ws RX9 TX9 8
theorem nmX9 : ∀ a, a < 8 → ∀ b, b < 8 → a ≠ b → (TX9 a).2.1 ≠ (TX9 b).2.1 := by decide +kernel
theorem tyX9_ok : ∀ k, k < 8 → parseFieldDescriptor (TX9 k).2.2.1 = some (tyX9 k) := by decide +kernel
abbrev cX9_init : ByteArray := prog_1_method_1_code
def yX9_init : MethodName := ⟨RX9, "<init>", "()V"⟩
abbrev cX9_set : ByteArray := prog_1_method_2_code
def yX9_set : MethodName := ⟨RX9, "set", "(II)I"⟩
abbrev cX9_good : ByteArray := prog_1_method_3_code
def yX9_good : MethodName := ⟨RX9, "good", "(I)I"⟩
abbrev cX9_swap : ByteArray := prog_1_method_4_code
def yX9_swap : MethodName := ⟨RX9, "swap", "(II)I"⟩
abbrev cX9_close : ByteArray := prog_1_method_5_code
def yX9_close : MethodName := ⟨RX9, "close", "(I)I"⟩
abbrev cX9_pick : ByteArray := prog_1_method_6_code
def yX9_pick : MethodName := ⟨RX9, "pick", "(I)I"⟩
abbrev cX9_night : ByteArray := prog_1_method_7_code
def yX9_night : MethodName := ⟨RX9, "night", "()I"⟩
abbrev cX9_of : ByteArray := prog_1_method_8_code
def yX9_of : MethodName := ⟨RX9, "of", "(II)I"⟩
abbrev cX9_ofSlot : ByteArray := prog_1_method_9_code
def yX9_ofSlot : MethodName := ⟨RX9, "ofSlot", "(II)I"⟩
abbrev cX9_steps : ByteArray := prog_1_method_10_code
def yX9_steps : MethodName := ⟨RX9, "steps", "(II)I"⟩
abbrev cX9_basket : ByteArray := prog_1_method_11_code
def yX9_basket : MethodName := ⟨RX9, "basket", "(III)I"⟩
abbrev cX9_often : ByteArray := prog_1_method_12_code
def yX9_often : MethodName := ⟨RX9, "often", "(I)I"⟩
abbrev cX9_count : ByteArray := prog_1_method_13_code
def yX9_count : MethodName := ⟨RX9, "count", "(I)I"⟩
abbrev cX9_meanSpeed : ByteArray := prog_1_method_14_code
def yX9_meanSpeed : MethodName := ⟨RX9, "meanSpeed", "()J"⟩
abbrev cX9_walk : ByteArray := prog_1_method_15_code
def yX9_walk : MethodName := ⟨RX9, "walk", "(I)I"⟩
abbrev cX9_stop : ByteArray := prog_1_method_16_code
def yX9_stop : MethodName := ⟨RX9, "stop", "(II)I"⟩
abbrev cX9_shortest : ByteArray := prog_1_method_17_code
def yX9_shortest : MethodName := ⟨RX9, "shortest", "(I)I"⟩
abbrev cX9_bestSwap : ByteArray := prog_1_method_18_code
def yX9_bestSwap : MethodName := ⟨RX9, "bestSwap", "(I)I"⟩
abbrev cX9_ifSwapped : ByteArray := prog_1_method_19_code
def yX9_ifSwapped : MethodName := ⟨RX9, "ifSwapped", "(II)I"⟩
abbrev cX9_undo : ByteArray := prog_1_method_25_code
def yX9_undo : MethodName := ⟨RX9, "undo", "()I"⟩
abbrev cX9_recorded : ByteArray := prog_1_method_28_code
def yX9_recorded : MethodName := ⟨RX9, "recorded", "(I)I"⟩
abbrev cX9_errorOfBasket : ByteArray := prog_1_method_29_code
def yX9_errorOfBasket : MethodName := ⟨RX9, "errorOfBasket", "(I)I"⟩
abbrev cX9_pickBasket : ByteArray := prog_1_method_30_code
def yX9_pickBasket : MethodName := ⟨RX9, "pickBasket", "(I)I"⟩
def RX10 : String := "ShelfSlotsModel"
def TX10 : u_T := fun k => match k with
  | _ => ("", "", "", false)
def tyX10 : Nat → FieldType := fun k => match k with
  | _ => .int
abbrev wsX100 : List Cond := u_ws RX10 TX10 0
theorem nmX10 : ∀ a, a < 0 → ∀ b, b < 0 → a ≠ b → (TX10 a).2.1 ≠ (TX10 b).2.1 := by decide +kernel
theorem tyX10_ok : ∀ k, k < 0 → parseFieldDescriptor (TX10 k).2.2.1 = some (tyX10 k) := by decide +kernel
def RJ6 : String := "java/lang/Integer"
def TJ6 : u_T := fun k => match k with
  | _ => ("", "", "", false)
def tyJ6 : Nat → FieldType := fun k => match k with
  | _ => .int
abbrev wsJ60 : List Cond := u_ws RJ6 TJ6 0
theorem nmJ6 : ∀ a, a < 0 → ∀ b, b < 0 → a ≠ b → (TJ6 a).2.1 ≠ (TJ6 b).2.1 := by decide +kernel
theorem tyJ6_ok : ∀ k, k < 0 → parseFieldDescriptor (TJ6 k).2.2.1 = some (tyJ6 k) := by decide +kernel
abbrev cJ6_bitCount_0f7a4 : ByteArray := prog_13_method_49_code
def yJ6_bitCount_0f7a4 : MethodName := ⟨RJ6, "bitCount", "(I)I"⟩
def RJ9 : String := "java/lang/Math"
def TJ9 : u_T := fun k => match k with
  | _ => ("", "", "", false)
def tyJ9 : Nat → FieldType := fun k => match k with
  | _ => .int
abbrev wsJ90 : List Cond := u_ws RJ9 TJ9 0
theorem nmJ9 : ∀ a, a < 0 → ∀ b, b < 0 → a ≠ b → (TJ9 a).2.1 ≠ (TJ9 b).2.1 := by decide +kernel
theorem tyJ9_ok : ∀ k, k < 0 → parseFieldDescriptor (TJ9 k).2.2.1 = some (tyJ9 k) := by decide +kernel
abbrev cJ9_max_7cf53 : ByteArray := prog_14_method_65_code
def yJ9_max_7cf53 : MethodName := ⟨RJ9, "max", "(II)I"⟩
abbrev cJ9_min_7cf53 : ByteArray := prog_14_method_69_code
def yJ9_min_7cf53 : MethodName := ⟨RJ9, "min", "(II)I"⟩
def RJ10 : String := "java/lang/System"
def TJ10 : u_T := fun k => match k with
  | _ => ("", "", "", false)
def tyJ10 : Nat → FieldType := fun k => match k with
  | _ => .int
abbrev wsJ100 : List Cond := u_ws RJ10 TJ10 0
theorem nmJ10 : ∀ a, a < 0 → ∀ b, b < 0 → a ≠ b → (TJ10 a).2.1 ≠ (TJ10 b).2.1 := by decide +kernel
theorem tyJ10_ok : ∀ k, k < 0 → parseFieldDescriptor (TJ10 k).2.2.1 = some (tyJ10 k) := by decide +kernel
def RL : String := "ShelfSlotsLaw"
abbrev cL_cell : ByteArray := method_2_code
def yL_cell : MethodName := ⟨RL, "cell", "([II)I"⟩
abbrev cL_low : ByteArray := method_3_code
def yL_low : MethodName := ⟨RL, "low", "(II)I"⟩
abbrev cL_act : ByteArray := method_4_code
def yL_act : MethodName := ⟨RL, "act", "(LShelfSlots;I)I"⟩
abbrev cL_areAlike : ByteArray := method_5_code
def yL_areAlike : MethodName := ⟨RL, "areAlike", "(LShelfSlots;LShelfSlots;)Z"⟩
abbrev cL_areSums : ByteArray := method_6_code
def yL_areSums : MethodName := ⟨RL, "areSums", "(LShelfSlots;)Z"⟩
abbrev cL_isNightSo : ByteArray := method_7_code
def yL_isNightSo : MethodName := ⟨RL, "isNightSo", "(LShelfSlots;)Z"⟩
abbrev cL_areWalksSo : ByteArray := method_8_code
def yL_areWalksSo : MethodName := ⟨RL, "areWalksSo", "(LShelfSlots;I)Z"⟩
abbrev cL_law : ByteArray := code
def yL_law : MethodName := ⟨RL, "law", "([I)Z"⟩
abbrev vwCl : List vw_C := [(RX1, TX1, 3), (RX2, TX2, 3), (RX3, TX3, 3), (RX4, TX4, 3), (RX5, TX5, 4), (RX6, TX6, 4), (RX7, TX7, 16), (RX8, TX8, 2), (RX9, TX9, 8)]
