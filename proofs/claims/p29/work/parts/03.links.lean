-- what the methods' links name, and that the tables say so (written by wip/p29/emit_tables.py)
def m_wt : List Cond := lw_tbl.filter goodWord
theorem m_wt_good : ∀ w ∈ m_wt, goodWord w = true := fun _ h => (List.mem_filter.mp h).2
def m_mask {α : Type} : List Bool → List α → List α
  | b :: bs, a :: l => match b with
    | true => a :: m_mask bs l
    | false => m_mask bs l
  | _, _ => []
theorem m_mask_mem {α : Type} {a : α} : ∀ {bs : List Bool} {l : List α}, a ∈ m_mask bs l → a ∈ l
  | true :: bs, x :: l, h => by
    simp only [m_mask] at h
    rcases List.mem_cons.mp h with rfl | h
    · exact List.mem_cons_self
    · exact List.mem_cons_of_mem _ (m_mask_mem h)
  | false :: bs, x :: l, h => by
    simp only [m_mask] at h
    exact List.mem_cons_of_mem _ (m_mask_mem h)
  | [], _, h => by simp [m_mask] at h
  | _ :: _, [], h => by simp [m_mask] at h

def m_p0 : List Cond := [.selects "ShelfSlots" ⟨"ShelfSlots", "recorded", "(I)I"⟩ ⟨"ShelfSlots", "recorded", "(I)I"⟩,
  .selects "ShelfSlots$Shed" ⟨"ShelfSlots$Shed", "stand", "(II)V"⟩ ⟨"ShelfSlots$Shed", "stand", "(II)V"⟩,
  .selects "ShelfSlots$Shed" ⟨"ShelfSlots$Shed", "countSwap", "(I)I"⟩ ⟨"ShelfSlots$Shed", "countSwap", "(I)I"⟩,
  .selects "ShelfSlots$Walker" ⟨"ShelfSlots$Walker", "listGoods", "(I)V"⟩ ⟨"ShelfSlots$Walker", "listGoods", "(I)V"⟩,
  .selects "ShelfSlots$Walker" ⟨"ShelfSlots$Walker", "moveUp", "(II)V"⟩ ⟨"ShelfSlots$Walker", "moveUp", "(II)V"⟩,
  .selects "ShelfSlots" ⟨"ShelfSlots", "pickBasket", "(I)I"⟩ ⟨"ShelfSlots", "pickBasket", "(I)I"⟩,
  .selects "ShelfSlots" ⟨"ShelfSlots", "errorOfBasket", "(I)I"⟩ ⟨"ShelfSlots", "errorOfBasket", "(I)I"⟩,
  .selects "ShelfSlots$Walker" ⟨"ShelfSlots$Walker", "lastPlace", "(LShelfSlots$Shed;I)I"⟩ ⟨"ShelfSlots$Walker", "lastPlace", "(LShelfSlots$Shed;I)I"⟩]
set_option maxRecDepth 100000 in
theorem m_p0_eq : m_mask [true, true, true, true, true, true, true, true] (k2_sels lw_privs) = m_p0 := rfl
theorem m_p0_good : m_p0.all goodWord = true := by decide +kernel
def m_p1 : List Cond := [.initialized "ShelfSlotsLaw",
  .initialized "ShelfSlots",
  .initialized "ShelfSlots$Shed",
  .initialized "ShelfSlots$Day",
  .initialized "ShelfSlots$Walker",
  .initialized "ShelfSlots$Mover",
  .initialized "ShelfSlots$Pad",
  .initialized "ShelfSlots$Grammar",
  .initialized "ShelfSlots$History",
  .initialized "ShelfSlots$Bits",
  .initialized "java/lang/Math",
  .initialized "java/lang/System",
  .initialized "java/lang/Integer",
  .initialized "ShelfSlots$Picked",
  .classLink "ShelfSlotsLaw" 15 "ShelfSlots",
  .instantiable "ShelfSlots" 8,
  .methodLink "ShelfSlotsLaw" 77 ⟨"ShelfSlots", "<init>", "()V"⟩,
  .instanceMethod ⟨"ShelfSlots", "<init>", "()V"⟩,
  .code ⟨"ShelfSlots", "<init>", "()V"⟩ prog_1_method_1_code 2 (none),
  .methodLink "ShelfSlots" 1 ⟨"java/lang/Object", "<init>", "()V"⟩,
  .instanceMethod ⟨"java/lang/Object", "<init>", "()V"⟩,
  .code ⟨"java/lang/Object", "<init>", "()V"⟩ object_method_1_code 1 (none),
  .classLink "ShelfSlots" 7 "ShelfSlots$Shed",
  .instantiable "ShelfSlots$Shed" 16,
  .methodLink "ShelfSlots" 9 ⟨"ShelfSlots$Shed", "<init>", "()V"⟩,
  .instanceMethod ⟨"ShelfSlots$Shed", "<init>", "()V"⟩,
  .code ⟨"ShelfSlots$Shed", "<init>", "()V"⟩ prog_9_method_1_code 2 (none),
  .methodLink "ShelfSlots$Shed" 3 ⟨"java/lang/Object", "<init>", "()V"⟩,
  .classLink "ShelfSlots$Shed" 34 "ShelfSlots$Day",
  .instantiable "ShelfSlots$Day" 3,
  .instanceMethod ⟨"ShelfSlots$Day", "<init>", "()V"⟩,
  .code ⟨"ShelfSlots$Day", "<init>", "()V"⟩ prog_3_method_1_code 1 (none),
  .methodLink "ShelfSlots$Day" 3 ⟨"java/lang/Object", "<init>", "()V"⟩,
  .fieldLink "ShelfSlots$Day" 9 "ShelfSlots$Day" "baskets" "[I",
  .fieldLink "ShelfSlots$Walker" 48 "ShelfSlots$Day" "baskets" "[I",
  .fieldLink "ShelfSlots" 140 "ShelfSlots$Day" "baskets" "[I",
  .fieldLink "ShelfSlots$Day" 15 "ShelfSlots$Day" "lengths" "[I",
  .fieldLink "ShelfSlots" 143 "ShelfSlots$Day" "lengths" "[I",
  .fieldLink "ShelfSlots$Day" 24 "ShelfSlots$Day" "many" "I",
  .fieldLink "ShelfSlots$Walker" 45 "ShelfSlots$Day" "many" "I",
  .fieldLink "ShelfSlots" 135 "ShelfSlots$Day" "many" "I",
  .fieldLink "ShelfSlots$Shed" 130 "ShelfSlots$Day" "many" "I",
  .laysFinal "ShelfSlots$Day" "ShelfSlots$Day" "baskets" "[I",
  .laysFinal "ShelfSlots$Day" "ShelfSlots$Day" "lengths" "[I",
  .lays "ShelfSlots$Day" "ShelfSlots$Day" "many" "I",
  .arrayClass .int,
  .arrayClass .float,
  .fieldLink "ShelfSlots$Shed" 9 "ShelfSlots$Shed" "settings" "[I",
  .fieldLink "ShelfSlots$Mover" 24 "ShelfSlots$Shed" "settings" "[I",
  .fieldLink "ShelfSlots$Walker" 58 "ShelfSlots$Shed" "settings" "[I",
  .fieldLink "ShelfSlots" 182 "ShelfSlots$Shed" "settings" "[I",
  .fieldLink "ShelfSlots$Shed" 15 "ShelfSlots$Shed" "slotOf" "[I",
  .fieldLink "ShelfSlots$Walker" 24 "ShelfSlots$Shed" "slotOf" "[I",
  .fieldLink "ShelfSlots" 89 "ShelfSlots$Shed" "slotOf" "[I",
  .fieldLink "ShelfSlots$Shed" 18 "ShelfSlots$Shed" "goodIn" "[I",
  .fieldLink "ShelfSlots" 119 "ShelfSlots$Shed" "goodIn" "[I",
  .fieldLink "ShelfSlots$Shed" 21 "ShelfSlots$Shed" "speed" "[F",
  .fieldLink "ShelfSlots" 93 "ShelfSlots$Shed" "speed" "[F",
  .fieldLink "ShelfSlots$Shed" 25 "ShelfSlots$Shed" "pickedToday" "[I",
  .fieldLink "ShelfSlots" 103 "ShelfSlots$Shed" "pickedToday" "[I",
  .fieldLink "ShelfSlots$Shed" 28 "ShelfSlots$Shed" "pickedSoFar" "[I",
  .fieldLink "ShelfSlots" 106 "ShelfSlots$Shed" "pickedSoFar" "[I",
  .fieldLink "ShelfSlots$Shed" 31 "ShelfSlots$Shed" "swapped" "[I",
  .fieldLink "ShelfSlots" 112 "ShelfSlots$Shed" "swapped" "[I",
  .fieldLink "ShelfSlots$Shed" 37 "ShelfSlots$Shed" "today" "LShelfSlots$Day;",
  .fieldLink "ShelfSlots$Walker" 41 "ShelfSlots$Shed" "today" "LShelfSlots$Day;",
  .fieldLink "ShelfSlots" 128 "ShelfSlots$Shed" "today" "LShelfSlots$Day;",
  .fieldLink "ShelfSlots$Shed" 41 "ShelfSlots$Shed" "yesterday" "LShelfSlots$Day;",
  .fieldLink "ShelfSlots" 132 "ShelfSlots$Shed" "yesterday" "LShelfSlots$Day;",
  .fieldLink "ShelfSlots$Shed" 54 "ShelfSlots$Shed" "lastPicked" "LShelfSlots$Picked;",
  .fieldLink "ShelfSlots$Shed" 58 "ShelfSlots$Shed" "picks" "I",
  .fieldLink "ShelfSlots$Shed" 62 "ShelfSlots$Shed" "goods" "I",
  .fieldLink "ShelfSlots" 85 "ShelfSlots$Shed" "goods" "I",
  .fieldLink "ShelfSlots$Shed" 65 "ShelfSlots$Shed" "closed" "I",
  .fieldLink "ShelfSlots" 173 "ShelfSlots$Shed" "closed" "I",
  .fieldLink "ShelfSlots$Mover" 15 "ShelfSlots$Shed" "nights" "I",
  .fieldLink "ShelfSlots$Shed" 68 "ShelfSlots$Shed" "nights" "I",
  .fieldLink "ShelfSlots" 156 "ShelfSlots$Shed" "nights" "I",
  .fieldLink "ShelfSlots$Shed" 71 "ShelfSlots$Shed" "walksSoFar" "I",
  .fieldLink "ShelfSlots" 163 "ShelfSlots$Shed" "walksSoFar" "I",
  .fieldLink "ShelfSlots$Mover" 42 "ShelfSlots$Shed" "nightSwaps" "I",
  .fieldLink "ShelfSlots$Shed" 74 "ShelfSlots$Shed" "nightSwaps" "I",
  .fieldLink "ShelfSlots" 166 "ShelfSlots$Shed" "nightSwaps" "I",
  .laysFinal "ShelfSlots$Shed" "ShelfSlots$Shed" "settings" "[I",
  .laysFinal "ShelfSlots$Shed" "ShelfSlots$Shed" "slotOf" "[I",
  .laysFinal "ShelfSlots$Shed" "ShelfSlots$Shed" "goodIn" "[I",
  .laysFinal "ShelfSlots$Shed" "ShelfSlots$Shed" "speed" "[F",
  .laysFinal "ShelfSlots$Shed" "ShelfSlots$Shed" "pickedToday" "[I",
  .laysFinal "ShelfSlots$Shed" "ShelfSlots$Shed" "pickedSoFar" "[I",
  .laysFinal "ShelfSlots$Shed" "ShelfSlots$Shed" "swapped" "[I",
  .laysFinal "ShelfSlots$Shed" "ShelfSlots$Shed" "today" "LShelfSlots$Day;",
  .laysFinal "ShelfSlots$Shed" "ShelfSlots$Shed" "yesterday" "LShelfSlots$Day;",
  .lays "ShelfSlots$Shed" "ShelfSlots$Shed" "lastPicked" "LShelfSlots$Picked;",
  .lays "ShelfSlots$Shed" "ShelfSlots$Shed" "picks" "I",
  .lays "ShelfSlots$Shed" "ShelfSlots$Shed" "goods" "I",
  .lays "ShelfSlots$Shed" "ShelfSlots$Shed" "closed" "I",
  .lays "ShelfSlots$Shed" "ShelfSlots$Shed" "nights" "I",
  .lays "ShelfSlots$Shed" "ShelfSlots$Shed" "walksSoFar" "I",
  .lays "ShelfSlots$Shed" "ShelfSlots$Shed" "nightSwaps" "I",
  .classLink "ShelfSlots" 19 "ShelfSlots$Walker",
  .instantiable "ShelfSlots$Walker" 2,
  .instanceMethod ⟨"ShelfSlots$Walker", "<init>", "()V"⟩,
  .code ⟨"ShelfSlots$Walker", "<init>", "()V"⟩ prog_10_method_1_code 1 (none),
  .methodLink "ShelfSlots$Walker" 3 ⟨"java/lang/Object", "<init>", "()V"⟩,
  .fieldLink "ShelfSlots$Walker" 9 "ShelfSlots$Walker" "stops" "[I",
  .fieldLink "ShelfSlots$Walker" 19 "ShelfSlots$Walker" "many" "I",
  .laysFinal "ShelfSlots$Walker" "ShelfSlots$Walker" "stops" "[I",
  .lays "ShelfSlots$Walker" "ShelfSlots$Walker" "many" "I",
  .classLink "ShelfSlots" 26 "ShelfSlots$Mover",
  .instantiable "ShelfSlots$Mover" 3,
  .methodLink "ShelfSlots" 28 ⟨"ShelfSlots$Mover", "<init>", "(LShelfSlots$Walker;)V"⟩,
  .instanceMethod ⟨"ShelfSlots$Mover", "<init>", "(LShelfSlots$Walker;)V"⟩,
  .code ⟨"ShelfSlots$Mover", "<init>", "(LShelfSlots$Walker;)V"⟩ prog_6_method_1_code 2 (none),
  .methodLink "ShelfSlots$Mover" 3 ⟨"java/lang/Object", "<init>", "()V"⟩,
  .fieldLink "ShelfSlots$Mover" 9 "ShelfSlots$Mover" "walker" "LShelfSlots$Walker;",
  .fieldLink "ShelfSlots$Mover" 32 "ShelfSlots$Mover" "lower" "I",
  .fieldLink "ShelfSlots" 215 "ShelfSlots$Mover" "lower" "I",
  .fieldLink "ShelfSlots$Mover" 35 "ShelfSlots$Mover" "higher" "I",
  .fieldLink "ShelfSlots" 218 "ShelfSlots$Mover" "higher" "I",
  .laysFinal "ShelfSlots$Mover" "ShelfSlots$Mover" "walker" "LShelfSlots$Walker;",
  .lays "ShelfSlots$Mover" "ShelfSlots$Mover" "lower" "I",
  .lays "ShelfSlots$Mover" "ShelfSlots$Mover" "higher" "I",
  .classLink "ShelfSlots" 35 "ShelfSlots$Pad",
  .instantiable "ShelfSlots$Pad" 4,
  .instanceMethod ⟨"ShelfSlots$Pad", "<init>", "()V"⟩,
  .code ⟨"ShelfSlots$Pad", "<init>", "()V"⟩ prog_7_method_1_code 1 (none),
  .methodLink "ShelfSlots$Pad" 3 ⟨"java/lang/Object", "<init>", "()V"⟩,
  .classLink "ShelfSlots$Pad" 15 "ShelfSlots$Grammar",
  .instantiable "ShelfSlots$Grammar" 3,
  .instanceMethod ⟨"ShelfSlots$Grammar", "<init>", "()V"⟩,
  .code ⟨"ShelfSlots$Grammar", "<init>", "()V"⟩ prog_4_method_1_code 1 (none),
  .methodLink "ShelfSlots$Grammar" 1 ⟨"java/lang/Object", "<init>", "()V"⟩,
  .lays "ShelfSlots$Grammar" "ShelfSlots$Grammar" "due" "I",
  .lays "ShelfSlots$Grammar" "ShelfSlots$Grammar" "numberMark" "C",
  .lays "ShelfSlots$Grammar" "ShelfSlots$Grammar" "mayEnd" "Z",
  .arrayClass .char,
  .fieldLink "ShelfSlots$Pad" 9 "ShelfSlots$Pad" "signs" "[C",
  .fieldLink "ShelfSlots$Pad" 18 "ShelfSlots$Pad" "grammar" "LShelfSlots$Grammar;",
  .fieldLink "ShelfSlots" 185 "ShelfSlots$Pad" "length" "I",
  .laysFinal "ShelfSlots$Pad" "ShelfSlots$Pad" "signs" "[C",
  .laysFinal "ShelfSlots$Pad" "ShelfSlots$Pad" "grammar" "LShelfSlots$Grammar;",
  .lays "ShelfSlots$Pad" "ShelfSlots$Pad" "at" "I",
  .lays "ShelfSlots$Pad" "ShelfSlots$Pad" "length" "I",
  .classLink "ShelfSlots" 42 "ShelfSlots$History",
  .instantiable "ShelfSlots$History" 3,
  .methodLink "ShelfSlots" 44 ⟨"ShelfSlots$History", "<init>", "()V"⟩,
  .instanceMethod ⟨"ShelfSlots$History", "<init>", "()V"⟩,
  .code ⟨"ShelfSlots$History", "<init>", "()V"⟩ prog_5_method_1_code 2 (none),
  .methodLink "ShelfSlots$History" 3 ⟨"java/lang/Object", "<init>", "()V"⟩,
  .classLink "ShelfSlots$History" 11 "ShelfSlots$Shed",
  .methodLink "ShelfSlots$History" 17 ⟨"ShelfSlots$Shed", "<init>", "()V"⟩,
  .fieldLink "ShelfSlots$History" 13 "ShelfSlots$History" "rows" "[LShelfSlots$Shed;",
  .fieldLink "ShelfSlots$History" 18 "ShelfSlots$History" "next" "I",
  .fieldLink "ShelfSlots$History" 26 "ShelfSlots$History" "kept" "I",
  .fieldLink "ShelfSlots" 188 "ShelfSlots$History" "kept" "I",
  .laysFinal "ShelfSlots$History" "ShelfSlots$History" "rows" "[LShelfSlots$Shed;",
  .lays "ShelfSlots$History" "ShelfSlots$History" "next" "I",
  .lays "ShelfSlots$History" "ShelfSlots$History" "kept" "I",
  .fieldLink "ShelfSlots" 10 "ShelfSlots" "now" "LShelfSlots$Shed;",
  .fieldLink "ShelfSlots" 16 "ShelfSlots" "trial" "LShelfSlots$Shed;",
  .fieldLink "ShelfSlots" 22 "ShelfSlots" "walker" "LShelfSlots$Walker;",
  .fieldLink "ShelfSlots" 31 "ShelfSlots" "mover" "LShelfSlots$Mover;",
  .fieldLink "ShelfSlots" 38 "ShelfSlots" "pad" "LShelfSlots$Pad;",
  .fieldLink "ShelfSlots" 45 "ShelfSlots" "history" "LShelfSlots$History;",
  .fieldLink "ShelfSlots" 49 "ShelfSlots" "saved" "[LShelfSlots$Shed;",
  .fieldLink "ShelfSlots" 53 "ShelfSlots" "wasSaved" "[Z",
  .laysFinal "ShelfSlots" "ShelfSlots" "now" "LShelfSlots$Shed;",
  .laysFinal "ShelfSlots" "ShelfSlots" "trial" "LShelfSlots$Shed;",
  .laysFinal "ShelfSlots" "ShelfSlots" "walker" "LShelfSlots$Walker;",
  .laysFinal "ShelfSlots" "ShelfSlots" "mover" "LShelfSlots$Mover;",
  .laysFinal "ShelfSlots" "ShelfSlots" "pad" "LShelfSlots$Pad;",
  .laysFinal "ShelfSlots" "ShelfSlots" "history" "LShelfSlots$History;",
  .laysFinal "ShelfSlots" "ShelfSlots" "saved" "[LShelfSlots$Shed;",
  .laysFinal "ShelfSlots" "ShelfSlots" "wasSaved" "[Z",
  .arrayClass .boolean,
  .methodLink "ShelfSlotsLaw" 14 ⟨"ShelfSlots", "count", "(I)I"⟩,
  .instanceMethod ⟨"ShelfSlots", "count", "(I)I"⟩,
  .selects "ShelfSlots" ⟨"ShelfSlots", "count", "(I)I"⟩ ⟨"ShelfSlots", "count", "(I)I"⟩,
  .code ⟨"ShelfSlots", "count", "(I)I"⟩ prog_1_method_13_code 2 (some .int),
  .methodLink "ShelfSlots" 159 ⟨"ShelfSlots$Day", "together", "()I"⟩,
  .instanceMethod ⟨"ShelfSlots$Day", "together", "()I"⟩,
  .selects "ShelfSlots$Day" ⟨"ShelfSlots$Day", "together", "()I"⟩ ⟨"ShelfSlots$Day", "together", "()I"⟩,
  .code ⟨"ShelfSlots$Day", "together", "()I"⟩ prog_3_method_4_code 3 (some .int),
  .methodLink "ShelfSlots" 169 ⟨"ShelfSlots$Shed", "weight", "()F"⟩,
  .instanceMethod ⟨"ShelfSlots$Shed", "weight", "()F"⟩]
set_option maxRecDepth 100000 in
theorem m_p1_eq : m_mask [true, true, true, true, true, true, true, true, true, true, true, true, true, true, true, true, true, true, true, true, true, true, true, true, true, true, true, true, true, true, false, true, true, true, true, true, true, true, true, true, true, true, true, true, false, true, false, true, false, false, true, true, true, true, true, true, true, true, true, true, true, true, true, true, true, true, true, true, true, true, true, true, true, true, true, true, true, true, true, true, true, true, true, true, true, true, true, true, true, false, true, false, true, false, true, false, true, false, true, false, true, false, true, false, true, false, true, false, true, false, true, false, true, false, true, false, true, false, true, false, false, true, true, false, true, true, true, true, true, true, false, true, false, false, true, true, true, true, true, true, true, true, true, true, true, true, false, true, false, true, false, false, true, true, false, true, true, true, true, true, false, true, true, true, true, false, true, false, true, false, false, true, true, true, true, true, false, true, false, true, false, true, false, false, true, true, true, true, true, true, true, false, true, true, true, true, true, true, false, true, false, true, false, false, true, true, true, true, true, true, true, true, true, false, true, false, true, false, true, false, true, false, true, false, true, false, true, false, false, true, true, true, true, true, true, true, true, true, true, true] (tables_1_1) = m_p1 := rfl
theorem m_p1_good : m_p1.all goodWord = true := by decide +kernel
def m_p2 : List Cond := [.selects "ShelfSlots$Shed" ⟨"ShelfSlots$Shed", "weight", "()F"⟩ ⟨"ShelfSlots$Shed", "weight", "()F"⟩,
  .code ⟨"ShelfSlots$Shed", "weight", "()F"⟩ prog_9_method_16_code 3 (some .float),
  .methodLink "ShelfSlots$Shed" 99 ⟨"ShelfSlots$Shed", "deskSteps", "(I)I"⟩,
  .instanceMethod ⟨"ShelfSlots$Shed", "deskSteps", "(I)I"⟩,
  .selects "ShelfSlots$Shed" ⟨"ShelfSlots$Shed", "deskSteps", "(I)I"⟩ ⟨"ShelfSlots$Shed", "deskSteps", "(I)I"⟩,
  .code ⟨"ShelfSlots$Shed", "deskSteps", "(I)I"⟩ prog_9_method_15_code 2 (some .int),
  .methodLink "ShelfSlots" 97 ⟨"ShelfSlots$Bits", "ofFloat", "(F)I"⟩,
  .static ⟨"ShelfSlots$Bits", "ofFloat", "(F)I"⟩,
  .code ⟨"ShelfSlots$Bits", "ofFloat", "(F)I"⟩ prog_2_method_2_code 3 (some .int),
  .methodLink "ShelfSlots$Bits" 7 ⟨"ShelfSlots$Bits", "exponentOf", "(D)I"⟩,
  .static ⟨"ShelfSlots$Bits", "exponentOf", "(D)I"⟩,
  .code ⟨"ShelfSlots$Bits", "exponentOf", "(D)I"⟩ prog_2_method_4_code 5 (some .int),
  .constantDouble "ShelfSlots$Bits" 30 4611686018427387904,
  .methodLink "ShelfSlots$Bits" 13 ⟨"ShelfSlots$Bits", "scaled", "(DI)D"⟩,
  .static ⟨"ShelfSlots$Bits", "scaled", "(DI)D"⟩,
  .code ⟨"ShelfSlots$Bits", "scaled", "(DI)D"⟩ prog_2_method_5_code 6 (some .double),
  .constantDouble "ShelfSlots$Bits" 17 4710765210229538816,
  .methodLink "ShelfSlots$Bits" 19 ⟨"java/lang/Math", "min", "(II)I"⟩,
  .static ⟨"java/lang/Math", "min", "(II)I"⟩,
  .code ⟨"java/lang/Math", "min", "(II)I"⟩ prog_14_method_69_code 2 (some .int),
  .constant "ShelfSlots$Bits" 25 8388608,
  .methodLink "ShelfSlots" 176 ⟨"ShelfSlots$Shed", "fastest", "()I"⟩,
  .instanceMethod ⟨"ShelfSlots$Shed", "fastest", "()I"⟩,
  .selects "ShelfSlots$Shed" ⟨"ShelfSlots$Shed", "fastest", "()I"⟩ ⟨"ShelfSlots$Shed", "fastest", "()I"⟩,
  .code ⟨"ShelfSlots$Shed", "fastest", "()I"⟩ prog_9_method_18_code 3 (some .int),
  .methodLink "ShelfSlots" 179 ⟨"ShelfSlots$Shed", "unlikeBaskets", "()I"⟩,
  .instanceMethod ⟨"ShelfSlots$Shed", "unlikeBaskets", "()I"⟩,
  .selects "ShelfSlots$Shed" ⟨"ShelfSlots$Shed", "unlikeBaskets", "()I"⟩ ⟨"ShelfSlots$Shed", "unlikeBaskets", "()I"⟩,
  .code ⟨"ShelfSlots$Shed", "unlikeBaskets", "()I"⟩ prog_9_method_22_code 1 (some .int),
  .methodLink "ShelfSlotsLaw" 68 ⟨"ShelfSlots", "undo", "()I"⟩,
  .instanceMethod ⟨"ShelfSlots", "undo", "()I"⟩,
  .selects "ShelfSlots" ⟨"ShelfSlots", "undo", "()I"⟩ ⟨"ShelfSlots", "undo", "()I"⟩,
  .code ⟨"ShelfSlots", "undo", "()I"⟩ prog_1_method_25_code 1 (some .int),
  .methodLink "ShelfSlots" 251 ⟨"ShelfSlots$History", "takeBack", "(LShelfSlots$Shed;)I"⟩,
  .instanceMethod ⟨"ShelfSlots$History", "takeBack", "(LShelfSlots$Shed;)I"⟩,
  .selects "ShelfSlots$History" ⟨"ShelfSlots$History", "takeBack", "(LShelfSlots$Shed;)I"⟩ ⟨"ShelfSlots$History", "takeBack", "(LShelfSlots$Shed;)I"⟩,
  .code ⟨"ShelfSlots$History", "takeBack", "(LShelfSlots$Shed;)I"⟩ prog_5_method_4_code 2 (some .int),
  .methodLink "ShelfSlots$History" 22 ⟨"ShelfSlots$Shed", "copyFrom", "(LShelfSlots$Shed;)V"⟩,
  .instanceMethod ⟨"ShelfSlots$Shed", "copyFrom", "(LShelfSlots$Shed;)V"⟩,
  .selects "ShelfSlots$Shed" ⟨"ShelfSlots$Shed", "copyFrom", "(LShelfSlots$Shed;)V"⟩ ⟨"ShelfSlots$Shed", "copyFrom", "(LShelfSlots$Shed;)V"⟩,
  .code ⟨"ShelfSlots$Shed", "copyFrom", "(LShelfSlots$Shed;)V"⟩ prog_9_method_2_code 2 (none),
  .methodLink "ShelfSlots$Shed" 44 ⟨"java/lang/System", "arraycopy", "(Ljava/lang/Object;ILjava/lang/Object;II)V"⟩,
  .static ⟨"java/lang/System", "arraycopy", "(Ljava/lang/Object;ILjava/lang/Object;II)V"⟩,
  .native ⟨"java/lang/System", "arraycopy", "(Ljava/lang/Object;ILjava/lang/Object;II)V"⟩,
  .methodLink "ShelfSlots$Shed" 50 ⟨"ShelfSlots$Day", "copyFrom", "(LShelfSlots$Day;)V"⟩,
  .instanceMethod ⟨"ShelfSlots$Day", "copyFrom", "(LShelfSlots$Day;)V"⟩,
  .selects "ShelfSlots$Day" ⟨"ShelfSlots$Day", "copyFrom", "(LShelfSlots$Day;)V"⟩ ⟨"ShelfSlots$Day", "copyFrom", "(LShelfSlots$Day;)V"⟩,
  .code ⟨"ShelfSlots$Day", "copyFrom", "(LShelfSlots$Day;)V"⟩ prog_3_method_2_code 2 (none),
  .methodLink "ShelfSlots$Day" 18 ⟨"java/lang/System", "arraycopy", "(Ljava/lang/Object;ILjava/lang/Object;II)V"⟩,
  .methodLink "ShelfSlotsLaw" 78 ⟨"ShelfSlotsLaw", "cell", "([II)I"⟩,
  .static ⟨"ShelfSlotsLaw", "cell", "([II)I"⟩,
  .code ⟨"ShelfSlotsLaw", "cell", "([II)I"⟩ method_2_code 2 (some .int),
  .methodLink "ShelfSlotsLaw" 82 ⟨"ShelfSlotsLaw", "act", "(LShelfSlots;I)I"⟩,
  .static ⟨"ShelfSlotsLaw", "act", "(LShelfSlots;I)I"⟩,
  .code ⟨"ShelfSlotsLaw", "act", "(LShelfSlots;I)I"⟩ method_4_code 7 (some .int),
  .methodLink "ShelfSlotsLaw" 8 ⟨"ShelfSlotsLaw", "low", "(II)I"⟩,
  .static ⟨"ShelfSlotsLaw", "low", "(II)I"⟩,
  .code ⟨"ShelfSlotsLaw", "low", "(II)I"⟩ method_3_code 2 (some .int),
  .constant "ShelfSlotsLaw" 7 2147483647,
  .methodLink "ShelfSlotsLaw" 20 ⟨"ShelfSlots", "good", "(I)I"⟩,
  .instanceMethod ⟨"ShelfSlots", "good", "(I)I"⟩,
  .selects "ShelfSlots" ⟨"ShelfSlots", "good", "(I)I"⟩ ⟨"ShelfSlots", "good", "(I)I"⟩,
  .code ⟨"ShelfSlots", "good", "(I)I"⟩ prog_1_method_3_code 2 (some .int),
  .methodLink "ShelfSlots" 57 ⟨"ShelfSlots$History", "note", "(LShelfSlots$Shed;)V"⟩,
  .instanceMethod ⟨"ShelfSlots$History", "note", "(LShelfSlots$Shed;)V"⟩,
  .selects "ShelfSlots$History" ⟨"ShelfSlots$History", "note", "(LShelfSlots$Shed;)V"⟩ ⟨"ShelfSlots$History", "note", "(LShelfSlots$Shed;)V"⟩,
  .code ⟨"ShelfSlots$History", "note", "(LShelfSlots$Shed;)V"⟩ prog_5_method_2_code 2 (none),
  .methodLink "ShelfSlots" 69 ⟨"ShelfSlots$Shed", "bringGood", "(I)I"⟩,
  .instanceMethod ⟨"ShelfSlots$Shed", "bringGood", "(I)I"⟩,
  .selects "ShelfSlots$Shed" ⟨"ShelfSlots$Shed", "bringGood", "(I)I"⟩ ⟨"ShelfSlots$Shed", "bringGood", "(I)I"⟩,
  .code ⟨"ShelfSlots$Shed", "bringGood", "(I)I"⟩ prog_9_method_6_code 3 (some .int),
  .methodLink "ShelfSlots$Shed" 77 ⟨"ShelfSlots$Shed", "isSlot", "(I)Z"⟩,
  .static ⟨"ShelfSlots$Shed", "isSlot", "(I)Z"⟩,
  .code ⟨"ShelfSlots$Shed", "isSlot", "(I)Z"⟩ prog_9_method_3_code 1 (some .boolean),
  .methodLink "ShelfSlots" 65 ⟨"ShelfSlots", "recorded", "(I)I"⟩,
  .instanceMethod ⟨"ShelfSlots", "recorded", "(I)I"⟩,
  .code ⟨"ShelfSlots", "recorded", "(I)I"⟩ prog_1_method_28_code 2 (some .int),
  .methodLink "ShelfSlots" 254 ⟨"ShelfSlots$History", "keepNote", "()V"⟩,
  .instanceMethod ⟨"ShelfSlots$History", "keepNote", "()V"⟩,
  .selects "ShelfSlots$History" ⟨"ShelfSlots$History", "keepNote", "()V"⟩ ⟨"ShelfSlots$History", "keepNote", "()V"⟩,
  .code ⟨"ShelfSlots$History", "keepNote", "()V"⟩ prog_5_method_3_code 1 (none),
  .methodLink "ShelfSlots$History" 29 ⟨"java/lang/Math", "min", "(II)I"⟩,
  .methodLink "ShelfSlotsLaw" 23 ⟨"ShelfSlots", "swap", "(II)I"⟩,
  .instanceMethod ⟨"ShelfSlots", "swap", "(II)I"⟩,
  .selects "ShelfSlots" ⟨"ShelfSlots", "swap", "(II)I"⟩ ⟨"ShelfSlots", "swap", "(II)I"⟩,
  .code ⟨"ShelfSlots", "swap", "(II)I"⟩ prog_1_method_4_code 3 (some .int),
  .methodLink "ShelfSlots" 72 ⟨"ShelfSlots$Shed", "swapByHand", "(II)I"⟩,
  .instanceMethod ⟨"ShelfSlots$Shed", "swapByHand", "(II)I"⟩,
  .selects "ShelfSlots$Shed" ⟨"ShelfSlots$Shed", "swapByHand", "(II)I"⟩ ⟨"ShelfSlots$Shed", "swapByHand", "(II)I"⟩,
  .code ⟨"ShelfSlots$Shed", "swapByHand", "(II)I"⟩ prog_9_method_7_code 3 (some .int),
  .methodLink "ShelfSlots$Shed" 81 ⟨"ShelfSlots$Shed", "swapCounted", "(II)I"⟩,
  .instanceMethod ⟨"ShelfSlots$Shed", "swapCounted", "(II)I"⟩,
  .selects "ShelfSlots$Shed" ⟨"ShelfSlots$Shed", "swapCounted", "(II)I"⟩ ⟨"ShelfSlots$Shed", "swapCounted", "(II)I"⟩,
  .code ⟨"ShelfSlots$Shed", "swapCounted", "(II)I"⟩ prog_9_method_9_code 3 (some .int),
  .methodLink "ShelfSlots$Shed" 88 ⟨"ShelfSlots$Shed", "exchange", "(II)V"⟩,
  .instanceMethod ⟨"ShelfSlots$Shed", "exchange", "(II)V"⟩,
  .selects "ShelfSlots$Shed" ⟨"ShelfSlots$Shed", "exchange", "(II)V"⟩ ⟨"ShelfSlots$Shed", "exchange", "(II)V"⟩,
  .code ⟨"ShelfSlots$Shed", "exchange", "(II)V"⟩ prog_9_method_11_code 4 (none),
  .methodLink "ShelfSlots$Shed" 96 ⟨"ShelfSlots$Shed", "stand", "(II)V"⟩,
  .instanceMethod ⟨"ShelfSlots$Shed", "stand", "(II)V"⟩,
  .code ⟨"ShelfSlots$Shed", "stand", "(II)V"⟩ prog_9_method_12_code 3 (none),
  .methodLink "ShelfSlots$Shed" 92 ⟨"ShelfSlots$Shed", "countSwap", "(I)I"⟩,
  .instanceMethod ⟨"ShelfSlots$Shed", "countSwap", "(I)I"⟩,
  .code ⟨"ShelfSlots$Shed", "countSwap", "(I)I"⟩ prog_9_method_10_code 2 (some .int),
  .methodLink "ShelfSlotsLaw" 26 ⟨"ShelfSlots", "close", "(I)I"⟩,
  .instanceMethod ⟨"ShelfSlots", "close", "(I)I"⟩,
  .selects "ShelfSlots" ⟨"ShelfSlots", "close", "(I)I"⟩ ⟨"ShelfSlots", "close", "(I)I"⟩,
  .code ⟨"ShelfSlots", "close", "(I)I"⟩ prog_1_method_5_code 2 (some .int),
  .methodLink "ShelfSlots" 75 ⟨"ShelfSlots$Shed", "closeOrOpen", "(I)I"⟩,
  .instanceMethod ⟨"ShelfSlots$Shed", "closeOrOpen", "(I)I"⟩,
  .selects "ShelfSlots$Shed" ⟨"ShelfSlots$Shed", "closeOrOpen", "(I)I"⟩ ⟨"ShelfSlots$Shed", "closeOrOpen", "(I)I"⟩,
  .code ⟨"ShelfSlots$Shed", "closeOrOpen", "(I)I"⟩ prog_9_method_8_code 2 (some .int),
  .methodLink "ShelfSlots$Shed" 85 ⟨"ShelfSlots$Shed", "isClosed", "(I)Z"⟩,
  .instanceMethod ⟨"ShelfSlots$Shed", "isClosed", "(I)Z"⟩,
  .selects "ShelfSlots$Shed" ⟨"ShelfSlots$Shed", "isClosed", "(I)Z"⟩ ⟨"ShelfSlots$Shed", "isClosed", "(I)Z"⟩,
  .code ⟨"ShelfSlots$Shed", "isClosed", "(I)Z"⟩ prog_9_method_4_code 2 (some .boolean),
  .methodLink "ShelfSlotsLaw" 29 ⟨"ShelfSlots", "set", "(II)I"⟩,
  .instanceMethod ⟨"ShelfSlots", "set", "(II)I"⟩,
  .selects "ShelfSlots" ⟨"ShelfSlots", "set", "(II)I"⟩ ⟨"ShelfSlots", "set", "(II)I"⟩,
  .code ⟨"ShelfSlots", "set", "(II)I"⟩ prog_1_method_2_code 3 (some .int),
  .methodLink "ShelfSlots" 61 ⟨"ShelfSlots$Shed", "changeSetting", "(II)I"⟩,
  .instanceMethod ⟨"ShelfSlots$Shed", "changeSetting", "(II)I"⟩,
  .selects "ShelfSlots$Shed" ⟨"ShelfSlots$Shed", "changeSetting", "(II)I"⟩ ⟨"ShelfSlots$Shed", "changeSetting", "(II)I"⟩,
  .code ⟨"ShelfSlots$Shed", "changeSetting", "(II)I"⟩ prog_9_method_5_code 6 (some .int),
  .methodLink "ShelfSlotsLaw" 32 ⟨"ShelfSlots", "night", "()I"⟩,
  .instanceMethod ⟨"ShelfSlots", "night", "()I"⟩,
  .selects "ShelfSlots" ⟨"ShelfSlots", "night", "()I"⟩ ⟨"ShelfSlots", "night", "()I"⟩,
  .code ⟨"ShelfSlots", "night", "()I"⟩ prog_1_method_7_code 1 (some .int),
  .methodLink "ShelfSlots" 81 ⟨"ShelfSlots$Mover", "passNight", "(LShelfSlots$Shed;)I"⟩,
  .instanceMethod ⟨"ShelfSlots$Mover", "passNight", "(LShelfSlots$Shed;)I"⟩,
  .selects "ShelfSlots$Mover" ⟨"ShelfSlots$Mover", "passNight", "(LShelfSlots$Shed;)I"⟩ ⟨"ShelfSlots$Mover", "passNight", "(LShelfSlots$Shed;)I"⟩,
  .code ⟨"ShelfSlots$Mover", "passNight", "(LShelfSlots$Shed;)I"⟩ prog_6_method_2_code 3 (some .int),
  .methodLink "ShelfSlots$Mover" 21 ⟨"ShelfSlots$Shed", "ageSpeeds", "()V"⟩,
  .instanceMethod ⟨"ShelfSlots$Shed", "ageSpeeds", "()V"⟩,
  .selects "ShelfSlots$Shed" ⟨"ShelfSlots$Shed", "ageSpeeds", "()V"⟩ ⟨"ShelfSlots$Shed", "ageSpeeds", "()V"⟩,
  .code ⟨"ShelfSlots$Shed", "ageSpeeds", "()V"⟩ prog_9_method_23_code 4 (none),
  .constantFloat "ShelfSlots$Shed" 129 1120403456,
  .methodLink "ShelfSlots$Mover" 28 ⟨"ShelfSlots$Mover", "findSwap", "(LShelfSlots$Shed;)Z"⟩,
  .instanceMethod ⟨"ShelfSlots$Mover", "findSwap", "(LShelfSlots$Shed;)Z"⟩,
  .selects "ShelfSlots$Mover" ⟨"ShelfSlots$Mover", "findSwap", "(LShelfSlots$Shed;)Z"⟩ ⟨"ShelfSlots$Mover", "findSwap", "(LShelfSlots$Shed;)Z"⟩,
  .code ⟨"ShelfSlots$Mover", "findSwap", "(LShelfSlots$Shed;)Z"⟩ prog_6_method_3_code 7 (some .boolean),
  .methodLink "ShelfSlots$Mover" 48 ⟨"ShelfSlots$Shed", "weight", "()F"⟩,
  .methodLink "ShelfSlots$Mover" 52 ⟨"ShelfSlots$Walker", "togetherOf", "(LShelfSlots$Shed;)I"⟩,
  .instanceMethod ⟨"ShelfSlots$Walker", "togetherOf", "(LShelfSlots$Shed;)I"⟩,
  .selects "ShelfSlots$Walker" ⟨"ShelfSlots$Walker", "togetherOf", "(LShelfSlots$Shed;)I"⟩ ⟨"ShelfSlots$Walker", "togetherOf", "(LShelfSlots$Shed;)I"⟩,
  .code ⟨"ShelfSlots$Walker", "togetherOf", "(LShelfSlots$Shed;)I"⟩ prog_10_method_4_code 4 (some .int),
  .methodLink "ShelfSlots$Walker" 51 ⟨"ShelfSlots$Walker", "lengthOf", "(LShelfSlots$Shed;I)I"⟩,
  .instanceMethod ⟨"ShelfSlots$Walker", "lengthOf", "(LShelfSlots$Shed;I)I"⟩,
  .selects "ShelfSlots$Walker" ⟨"ShelfSlots$Walker", "lengthOf", "(LShelfSlots$Shed;I)I"⟩ ⟨"ShelfSlots$Walker", "lengthOf", "(LShelfSlots$Shed;I)I"⟩,
  .code ⟨"ShelfSlots$Walker", "lengthOf", "(LShelfSlots$Shed;I)I"⟩ prog_10_method_2_code 10 (some .int),
  .methodLink "ShelfSlots$Walker" 15 ⟨"ShelfSlots$Walker", "listGoods", "(I)V"⟩,
  .instanceMethod ⟨"ShelfSlots$Walker", "listGoods", "(I)V"⟩,
  .code ⟨"ShelfSlots$Walker", "listGoods", "(I)V"⟩ prog_10_method_5_code 3 (none),
  .constant "ShelfSlots$Walker" 23 1000000,
  .methodLink "ShelfSlots$Walker" 29 ⟨"ShelfSlots$Shed", "stepsBetween", "(II)I"⟩,
  .instanceMethod ⟨"ShelfSlots$Shed", "stepsBetween", "(II)I"⟩,
  .selects "ShelfSlots$Shed" ⟨"ShelfSlots$Shed", "stepsBetween", "(II)I"⟩ ⟨"ShelfSlots$Shed", "stepsBetween", "(II)I"⟩,
  .code ⟨"ShelfSlots$Shed", "stepsBetween", "(II)I"⟩ prog_9_method_14_code 4 (some .int),
  .methodLink "ShelfSlots$Walker" 33 ⟨"ShelfSlots$Walker", "moveUp", "(II)V"⟩,
  .instanceMethod ⟨"ShelfSlots$Walker", "moveUp", "(II)V"⟩,
  .code ⟨"ShelfSlots$Walker", "moveUp", "(II)V"⟩ prog_10_method_6_code 5 (none),
  .methodLink "ShelfSlots$Walker" 37 ⟨"ShelfSlots$Shed", "deskSteps", "(I)I"⟩,
  .methodLink "ShelfSlots$Mover" 58 ⟨"ShelfSlots$Shed", "mayMoveByNight", "(II)Z"⟩,
  .instanceMethod ⟨"ShelfSlots$Shed", "mayMoveByNight", "(II)Z"⟩,
  .selects "ShelfSlots$Shed" ⟨"ShelfSlots$Shed", "mayMoveByNight", "(II)Z"⟩ ⟨"ShelfSlots$Shed", "mayMoveByNight", "(II)Z"⟩,
  .code ⟨"ShelfSlots$Shed", "mayMoveByNight", "(II)Z"⟩ prog_9_method_13_code 4 (some .boolean),
  .methodLink "ShelfSlots$Mover" 62 ⟨"ShelfSlots$Shed", "exchange", "(II)V"⟩,
  .methodLink "ShelfSlots$Mover" 38 ⟨"ShelfSlots$Shed", "swapCounted", "(II)I"⟩,
  .methodLink "ShelfSlots$Mover" 45 ⟨"ShelfSlots$Shed", "endDay", "()V"⟩,
  .instanceMethod ⟨"ShelfSlots$Shed", "endDay", "()V"⟩,
  .selects "ShelfSlots$Shed" ⟨"ShelfSlots$Shed", "endDay", "()V"⟩ ⟨"ShelfSlots$Shed", "endDay", "()V"⟩,
  .code ⟨"ShelfSlots$Shed", "endDay", "()V"⟩ prog_9_method_24_code 2 (none),
  .methodLink "ShelfSlotsLaw" 36 ⟨"ShelfSlots", "pick", "(I)I"⟩,
  .instanceMethod ⟨"ShelfSlots", "pick", "(I)I"⟩,
  .selects "ShelfSlots" ⟨"ShelfSlots", "pick", "(I)I"⟩ ⟨"ShelfSlots", "pick", "(I)I"⟩,
  .code ⟨"ShelfSlots", "pick", "(I)I"⟩ prog_1_method_6_code 2 (some .int),
  .methodLink "ShelfSlots" 78 ⟨"ShelfSlots", "pickBasket", "(I)I"⟩,
  .instanceMethod ⟨"ShelfSlots", "pickBasket", "(I)I"⟩,
  .code ⟨"ShelfSlots", "pickBasket", "(I)I"⟩ prog_1_method_30_code 4 (some .int),
  .methodLink "ShelfSlots" 150 ⟨"ShelfSlots", "errorOfBasket", "(I)I"⟩,
  .instanceMethod ⟨"ShelfSlots", "errorOfBasket", "(I)I"⟩,
  .code ⟨"ShelfSlots", "errorOfBasket", "(I)I"⟩ prog_1_method_29_code 3 (some .int),
  .methodLink "ShelfSlots" 257 ⟨"java/lang/Integer", "bitCount", "(I)I"⟩,
  .static ⟨"java/lang/Integer", "bitCount", "(I)I"⟩,
  .code ⟨"java/lang/Integer", "bitCount", "(I)I"⟩ prog_13_method_49_code 1 (some .int),
  .constant "java/lang/Integer" 265 1431655765,
  .constant "java/lang/Integer" 266 858993459,
  .constant "java/lang/Integer" 267 252645135,
  .methodLink "ShelfSlots" 146 ⟨"ShelfSlots$Walker", "lengthOf", "(LShelfSlots$Shed;I)I"⟩,
  .methodLink "ShelfSlots" 262 ⟨"ShelfSlots$Shed", "notePicked", "(II)V"⟩,
  .instanceMethod ⟨"ShelfSlots$Shed", "notePicked", "(II)V"⟩,
  .selects "ShelfSlots$Shed" ⟨"ShelfSlots$Shed", "notePicked", "(II)V"⟩ ⟨"ShelfSlots$Shed", "notePicked", "(II)V"⟩,
  .code ⟨"ShelfSlots$Shed", "notePicked", "(II)V"⟩ prog_9_method_20_code 5 (none),
  .classLink "ShelfSlots$Shed" 102 "ShelfSlots$Picked",
  .instantiable "ShelfSlots$Picked" 4,
  .methodLink "ShelfSlots$Shed" 104 ⟨"ShelfSlots$Shed", "timesPicked", "(I)I"⟩,
  .instanceMethod ⟨"ShelfSlots$Shed", "timesPicked", "(I)I"⟩,
  .selects "ShelfSlots$Shed" ⟨"ShelfSlots$Shed", "timesPicked", "(I)I"⟩ ⟨"ShelfSlots$Shed", "timesPicked", "(I)I"⟩,
  .code ⟨"ShelfSlots$Shed", "timesPicked", "(I)I"⟩ prog_9_method_21_code 3 (some .int),
  .methodLink "ShelfSlots$Shed" 107 ⟨"ShelfSlots$Shed", "unlikeBaskets", "()I"⟩,
  .methodLink "ShelfSlots$Shed" 111 ⟨"ShelfSlots$Picked", "<init>", "(IIILShelfSlots$Picked;)V"⟩,
  .instanceMethod ⟨"ShelfSlots$Picked", "<init>", "(IIILShelfSlots$Picked;)V"⟩,
  .code ⟨"ShelfSlots$Picked", "<init>", "(IIILShelfSlots$Picked;)V"⟩ prog_8_method_1_code 5 (none),
  .methodLink "ShelfSlots$Picked" 1 ⟨"java/lang/Object", "<init>", "()V"⟩,
  .fieldLink "ShelfSlots$Picked" 7 "ShelfSlots$Picked" "basket" "I",
  .fieldLink "ShelfSlots$Shed" 117 "ShelfSlots$Picked" "basket" "I",
  .fieldLink "ShelfSlots$Picked" 13 "ShelfSlots$Picked" "times" "I",
  .fieldLink "ShelfSlots$Shed" 120 "ShelfSlots$Picked" "times" "I",
  .fieldLink "ShelfSlots$Picked" 16 "ShelfSlots$Picked" "unlike" "I",
  .fieldLink "ShelfSlots$Shed" 126 "ShelfSlots$Picked" "unlike" "I",
  .fieldLink "ShelfSlots$Picked" 19 "ShelfSlots$Picked" "before" "LShelfSlots$Picked;",
  .fieldLink "ShelfSlots$Shed" 123 "ShelfSlots$Picked" "before" "LShelfSlots$Picked;",
  .laysFinal "ShelfSlots$Picked" "ShelfSlots$Picked" "basket" "I",
  .laysFinal "ShelfSlots$Picked" "ShelfSlots$Picked" "times" "I",
  .laysFinal "ShelfSlots$Picked" "ShelfSlots$Picked" "unlike" "I",
  .laysFinal "ShelfSlots$Picked" "ShelfSlots$Picked" "before" "LShelfSlots$Picked;",
  .methodLink "ShelfSlots$Shed" 114 ⟨"ShelfSlots$Day", "add", "(II)V"⟩,
  .instanceMethod ⟨"ShelfSlots$Day", "add", "(II)V"⟩,
  .selects "ShelfSlots$Day" ⟨"ShelfSlots$Day", "add", "(II)V"⟩ ⟨"ShelfSlots$Day", "add", "(II)V"⟩,
  .code ⟨"ShelfSlots$Day", "add", "(II)V"⟩ prog_3_method_3_code 3 (none),
  .methodLink "ShelfSlotsLaw" 86 ⟨"ShelfSlotsLaw", "areAlike", "(LShelfSlots;LShelfSlots;)Z"⟩,
  .static ⟨"ShelfSlotsLaw", "areAlike", "(LShelfSlots;LShelfSlots;)Z"⟩,
  .code ⟨"ShelfSlotsLaw", "areAlike", "(LShelfSlots;LShelfSlots;)Z"⟩ method_5_code 4 (some .boolean),
  .methodLink "ShelfSlotsLaw" 39 ⟨"ShelfSlots", "meanSpeed", "()J"⟩,
  .instanceMethod ⟨"ShelfSlots", "meanSpeed", "()J"⟩,
  .selects "ShelfSlots" ⟨"ShelfSlots", "meanSpeed", "()J"⟩ ⟨"ShelfSlots", "meanSpeed", "()J"⟩,
  .code ⟨"ShelfSlots", "meanSpeed", "()J"⟩ prog_1_method_14_code 1 (some .long),
  .methodLink "ShelfSlots" 191 ⟨"ShelfSlots$Shed", "mean", "()D"⟩]
set_option maxRecDepth 100000 in
theorem m_p2_eq : m_mask [true, true, true, true, true, true, true, true, true, true, true, true, true, true, true, true, true, true, true, true, true, true, true, true, true, true, true, true, true, true, true, true, true, true, true, true, true, true, true, true, true, true, true, true, true, true, true, true, true, true, true, true, true, true, true, true, true, true, true, true, true, true, true, true, true, true, true, true, true, true, true, true, true, true, true, false, true, true, true, true, true, true, true, true, true, true, true, true, true, true, true, true, true, true, true, true, true, true, true, true, false, true, true, true, false, true, true, true, true, true, true, true, true, true, true, true, true, true, true, true, true, true, true, true, true, true, true, true, true, true, true, true, true, true, true, true, true, true, true, true, true, true, true, true, true, true, true, true, true, true, true, true, true, true, false, true, true, true, true, true, true, true, true, false, true, true, true, true, true, true, true, true, true, true, true, true, true, true, true, true, true, true, false, true, true, true, false, true, true, true, true, true, true, true, true, true, true, true, true, true, true, true, true, true, true, true, true, true, true, true, true, true, true, true, true, true, true, true, true, true, false, true, false, true, false, true, false, false, true, true, true, true, true, true, true, true, true, true, true, true] (tables_1_2) = m_p2 := rfl
theorem m_p2_good : m_p2.all goodWord = true := by decide +kernel
def m_p3 : List Cond := [.instanceMethod ⟨"ShelfSlots$Shed", "mean", "()D"⟩,
  .selects "ShelfSlots$Shed" ⟨"ShelfSlots$Shed", "mean", "()D"⟩ ⟨"ShelfSlots$Shed", "mean", "()D"⟩,
  .code ⟨"ShelfSlots$Shed", "mean", "()D"⟩ prog_9_method_17_code 4 (some .double),
  .methodLink "ShelfSlots" 195 ⟨"ShelfSlots$Bits", "ofDouble", "(D)J"⟩,
  .static ⟨"ShelfSlots$Bits", "ofDouble", "(D)J"⟩,
  .code ⟨"ShelfSlots$Bits", "ofDouble", "(D)J"⟩ prog_2_method_3_code 5 (some .long),
  .constantDouble "ShelfSlots$Bits" 26 4841369599423283200,
  .constantLong "ShelfSlots$Bits" 28 4503599627370496,
  .methodLink "ShelfSlotsLaw" 43 ⟨"ShelfSlots", "of", "(II)I"⟩,
  .instanceMethod ⟨"ShelfSlots", "of", "(II)I"⟩,
  .selects "ShelfSlots" ⟨"ShelfSlots", "of", "(II)I"⟩ ⟨"ShelfSlots", "of", "(II)I"⟩,
  .code ⟨"ShelfSlots", "of", "(II)I"⟩ prog_1_method_8_code 3 (some .int),
  .methodLink "ShelfSlots" 109 ⟨"ShelfSlots$Shed", "deskSteps", "(I)I"⟩,
  .methodLink "ShelfSlotsLaw" 46 ⟨"ShelfSlots", "basket", "(III)I"⟩,
  .instanceMethod ⟨"ShelfSlots", "basket", "(III)I"⟩,
  .selects "ShelfSlots" ⟨"ShelfSlots", "basket", "(III)I"⟩ ⟨"ShelfSlots", "basket", "(III)I"⟩,
  .code ⟨"ShelfSlots", "basket", "(III)I"⟩ prog_1_method_11_code 5 (some .int),
  .methodLink "ShelfSlotsLaw" 90 ⟨"ShelfSlotsLaw", "areSums", "(LShelfSlots;)Z"⟩,
  .static ⟨"ShelfSlotsLaw", "areSums", "(LShelfSlots;)Z"⟩,
  .code ⟨"ShelfSlotsLaw", "areSums", "(LShelfSlots;)Z"⟩ method_6_code 10 (some .boolean),
  .methodLink "ShelfSlotsLaw" 50 ⟨"ShelfSlots", "ofSlot", "(II)I"⟩,
  .instanceMethod ⟨"ShelfSlots", "ofSlot", "(II)I"⟩,
  .selects "ShelfSlots" ⟨"ShelfSlots", "ofSlot", "(II)I"⟩ ⟨"ShelfSlots", "ofSlot", "(II)I"⟩,
  .code ⟨"ShelfSlots", "ofSlot", "(II)I"⟩ prog_1_method_9_code 3 (some .int),
  .methodLink "ShelfSlots" 115 ⟨"ShelfSlots$Shed", "isSlot", "(I)Z"⟩,
  .methodLink "ShelfSlots" 122 ⟨"ShelfSlots$Shed", "isClosed", "(I)Z"⟩,
  .methodLink "ShelfSlotsLaw" 53 ⟨"ShelfSlots", "steps", "(II)I"⟩,
  .instanceMethod ⟨"ShelfSlots", "steps", "(II)I"⟩,
  .selects "ShelfSlots" ⟨"ShelfSlots", "steps", "(II)I"⟩ ⟨"ShelfSlots", "steps", "(II)I"⟩,
  .code ⟨"ShelfSlots", "steps", "(II)I"⟩ prog_1_method_10_code 3 (some .int),
  .methodLink "ShelfSlots" 125 ⟨"ShelfSlots$Shed", "stepsBetween", "(II)I"⟩,
  .methodLink "ShelfSlotsLaw" 56 ⟨"ShelfSlots", "often", "(I)I"⟩,
  .instanceMethod ⟨"ShelfSlots", "often", "(I)I"⟩,
  .selects "ShelfSlots" ⟨"ShelfSlots", "often", "(I)I"⟩ ⟨"ShelfSlots", "often", "(I)I"⟩,
  .code ⟨"ShelfSlots", "often", "(I)I"⟩ prog_1_method_12_code 3 (some .int),
  .methodLink "ShelfSlots" 153 ⟨"ShelfSlots$Shed", "timesPicked", "(I)I"⟩,
  .methodLink "ShelfSlotsLaw" 59 ⟨"ShelfSlots", "walk", "(I)I"⟩,
  .instanceMethod ⟨"ShelfSlots", "walk", "(I)I"⟩,
  .selects "ShelfSlots" ⟨"ShelfSlots", "walk", "(I)I"⟩ ⟨"ShelfSlots", "walk", "(I)I"⟩,
  .code ⟨"ShelfSlots", "walk", "(I)I"⟩ prog_1_method_15_code 3 (some .int),
  .methodLink "ShelfSlotsLaw" 98 ⟨"ShelfSlotsLaw", "isNightSo", "(LShelfSlots;)Z"⟩,
  .static ⟨"ShelfSlotsLaw", "isNightSo", "(LShelfSlots;)Z"⟩,
  .code ⟨"ShelfSlotsLaw", "isNightSo", "(LShelfSlots;)Z"⟩ method_7_code 15 (some .boolean),
  .methodLink "ShelfSlotsLaw" 62 ⟨"ShelfSlots", "bestSwap", "(I)I"⟩,
  .instanceMethod ⟨"ShelfSlots", "bestSwap", "(I)I"⟩,
  .selects "ShelfSlots" ⟨"ShelfSlots", "bestSwap", "(I)I"⟩ ⟨"ShelfSlots", "bestSwap", "(I)I"⟩,
  .code ⟨"ShelfSlots", "bestSwap", "(I)I"⟩ prog_1_method_18_code 2 (some .int),
  .methodLink "ShelfSlots" 205 ⟨"ShelfSlots$Shed", "copyFrom", "(LShelfSlots$Shed;)V"⟩,
  .methodLink "ShelfSlots" 208 ⟨"ShelfSlots$Shed", "ageSpeeds", "()V"⟩,
  .methodLink "ShelfSlots" 211 ⟨"ShelfSlots$Mover", "findSwap", "(LShelfSlots$Shed;)Z"⟩,
  .methodLink "ShelfSlotsLaw" 65 ⟨"ShelfSlots", "ifSwapped", "(II)I"⟩,
  .instanceMethod ⟨"ShelfSlots", "ifSwapped", "(II)I"⟩,
  .selects "ShelfSlots" ⟨"ShelfSlots", "ifSwapped", "(II)I"⟩ ⟨"ShelfSlots", "ifSwapped", "(II)I"⟩,
  .code ⟨"ShelfSlots", "ifSwapped", "(II)I"⟩ prog_1_method_19_code 3 (some .int),
  .methodLink "ShelfSlots" 221 ⟨"ShelfSlots$Shed", "exchange", "(II)V"⟩,
  .methodLink "ShelfSlots" 225 ⟨"ShelfSlots$Walker", "togetherOf", "(LShelfSlots$Shed;)I"⟩,
  .methodLink "ShelfSlotsLaw" 94 ⟨"ShelfSlotsLaw", "areWalksSo", "(LShelfSlots;I)Z"⟩,
  .static ⟨"ShelfSlotsLaw", "areWalksSo", "(LShelfSlots;I)Z"⟩,
  .code ⟨"ShelfSlotsLaw", "areWalksSo", "(LShelfSlots;I)Z"⟩ method_8_code 9 (some .boolean),
  .methodLink "ShelfSlotsLaw" 71 ⟨"ShelfSlots", "shortest", "(I)I"⟩,
  .instanceMethod ⟨"ShelfSlots", "shortest", "(I)I"⟩,
  .selects "ShelfSlots" ⟨"ShelfSlots", "shortest", "(I)I"⟩ ⟨"ShelfSlots", "shortest", "(I)I"⟩,
  .code ⟨"ShelfSlots", "shortest", "(I)I"⟩ prog_1_method_17_code 3 (some .int),
  .methodLink "ShelfSlots" 202 ⟨"ShelfSlots$Walker", "shortestOf", "(LShelfSlots$Shed;I)I"⟩,
  .instanceMethod ⟨"ShelfSlots$Walker", "shortestOf", "(LShelfSlots$Shed;I)I"⟩,
  .selects "ShelfSlots$Walker" ⟨"ShelfSlots$Walker", "shortestOf", "(LShelfSlots$Shed;I)I"⟩ ⟨"ShelfSlots$Walker", "shortestOf", "(LShelfSlots$Shed;I)I"⟩,
  .code ⟨"ShelfSlots$Walker", "shortestOf", "(LShelfSlots$Shed;I)I"⟩ prog_10_method_7_code 7 (some .int),
  .methodLink "ShelfSlots$Walker" 55 ⟨"ShelfSlots$Walker", "lastPlace", "(LShelfSlots$Shed;I)I"⟩,
  .instanceMethod ⟨"ShelfSlots$Walker", "lastPlace", "(LShelfSlots$Shed;I)I"⟩,
  .code ⟨"ShelfSlots$Walker", "lastPlace", "(LShelfSlots$Shed;I)I"⟩ prog_10_method_8_code 6 (some .int),
  .methodLink "ShelfSlots$Walker" 61 ⟨"java/lang/Math", "max", "(II)I"⟩,
  .static ⟨"java/lang/Math", "max", "(II)I"⟩,
  .code ⟨"java/lang/Math", "max", "(II)I"⟩ prog_14_method_65_code 2 (some .int),
  .methodLink "ShelfSlotsLaw" 74 ⟨"ShelfSlots", "stop", "(II)I"⟩,
  .instanceMethod ⟨"ShelfSlots", "stop", "(II)I"⟩,
  .selects "ShelfSlots" ⟨"ShelfSlots", "stop", "(II)I"⟩ ⟨"ShelfSlots", "stop", "(II)I"⟩,
  .code ⟨"ShelfSlots", "stop", "(II)I"⟩ prog_1_method_16_code 4 (some .int),
  .methodLink "ShelfSlots" 199 ⟨"ShelfSlots$Walker", "goodAt", "(I)I"⟩,
  .instanceMethod ⟨"ShelfSlots$Walker", "goodAt", "(I)I"⟩,
  .selects "ShelfSlots$Walker" ⟨"ShelfSlots$Walker", "goodAt", "(I)I"⟩ ⟨"ShelfSlots$Walker", "goodAt", "(I)I"⟩,
  .code ⟨"ShelfSlots$Walker", "goodAt", "(I)I"⟩ prog_10_method_3_code 2 (some .int)]
set_option maxRecDepth 100000 in
theorem m_p3_eq : m_mask [true, true, true, true, true, true, true, true, true, true, true, true, true, true, true, true, true, true, true, true, true, true, true, true, true, true, true, true, true, true, true, true, true, true, true, true, true, true, true, true, true, true, true, true, true, true, true, true, true, true, true, true, true, true, true, true, true, true, true, true, true, true, true, true, true, true, true, true, false, true, true, true, true, true, true, true, true, true, true, true, true, true] (tables_1_3) = m_p3 := rfl
theorem m_p3_good : m_p3.all goodWord = true := by decide +kernel
theorem m_p0_in {w : Cond} (h : w ∈ k2_sels lw_privs) : w ∈ lw_tbl := List.mem_append_left _ h
theorem m_p0_wt {j : Nat} {w : Cond} (h : m_p0[j]? = some w) : w ∈ m_wt := by
  have h2 := List.mem_of_getElem? h
  refine List.mem_filter.mpr ⟨m_p0_in ?_, List.all_eq_true.mp m_p0_good w h2⟩
  rw [← m_p0_eq] at h2
  exact m_mask_mem h2
theorem m_p1_in {w : Cond} (h : w ∈ tables_1_1) : w ∈ lw_tbl := List.mem_append_right _ (List.mem_append_left _ h)
theorem m_p1_wt {j : Nat} {w : Cond} (h : m_p1[j]? = some w) : w ∈ m_wt := by
  have h2 := List.mem_of_getElem? h
  refine List.mem_filter.mpr ⟨m_p1_in ?_, List.all_eq_true.mp m_p1_good w h2⟩
  rw [← m_p1_eq] at h2
  exact m_mask_mem h2
theorem m_p2_in {w : Cond} (h : w ∈ tables_1_2) : w ∈ lw_tbl := List.mem_append_right _ (List.mem_append_right _ (List.mem_append_left _ h))
theorem m_p2_wt {j : Nat} {w : Cond} (h : m_p2[j]? = some w) : w ∈ m_wt := by
  have h2 := List.mem_of_getElem? h
  refine List.mem_filter.mpr ⟨m_p2_in ?_, List.all_eq_true.mp m_p2_good w h2⟩
  rw [← m_p2_eq] at h2
  exact m_mask_mem h2
theorem m_p3_in {w : Cond} (h : w ∈ tables_1_3) : w ∈ lw_tbl := List.mem_append_right _ (List.mem_append_right _ (List.mem_append_right _ (h)))
theorem m_p3_wt {j : Nat} {w : Cond} (h : m_p3[j]? = some w) : w ∈ m_wt := by
  have h2 := List.mem_of_getElem? h
  refine List.mem_filter.mpr ⟨m_p3_in ?_, List.all_eq_true.mp m_p3_good w h2⟩
  rw [← m_p3_eq] at h2
  exact m_mask_mem h2
theorem m_w0 : Cond.selects "ShelfSlots" ⟨"ShelfSlots", "recorded", "(I)I"⟩ ⟨"ShelfSlots", "recorded", "(I)I"⟩ ∈ m_wt := m_p0_wt (j := 0) rfl
theorem m_w1 : Cond.selects "ShelfSlots$Shed" ⟨"ShelfSlots$Shed", "stand", "(II)V"⟩ ⟨"ShelfSlots$Shed", "stand", "(II)V"⟩ ∈ m_wt := m_p0_wt (j := 1) rfl
theorem m_w2 : Cond.selects "ShelfSlots$Shed" ⟨"ShelfSlots$Shed", "countSwap", "(I)I"⟩ ⟨"ShelfSlots$Shed", "countSwap", "(I)I"⟩ ∈ m_wt := m_p0_wt (j := 2) rfl
theorem m_w3 : Cond.selects "ShelfSlots$Walker" ⟨"ShelfSlots$Walker", "listGoods", "(I)V"⟩ ⟨"ShelfSlots$Walker", "listGoods", "(I)V"⟩ ∈ m_wt := m_p0_wt (j := 3) rfl
theorem m_w4 : Cond.selects "ShelfSlots$Walker" ⟨"ShelfSlots$Walker", "moveUp", "(II)V"⟩ ⟨"ShelfSlots$Walker", "moveUp", "(II)V"⟩ ∈ m_wt := m_p0_wt (j := 4) rfl
theorem m_w5 : Cond.selects "ShelfSlots" ⟨"ShelfSlots", "pickBasket", "(I)I"⟩ ⟨"ShelfSlots", "pickBasket", "(I)I"⟩ ∈ m_wt := m_p0_wt (j := 5) rfl
theorem m_w6 : Cond.selects "ShelfSlots" ⟨"ShelfSlots", "errorOfBasket", "(I)I"⟩ ⟨"ShelfSlots", "errorOfBasket", "(I)I"⟩ ∈ m_wt := m_p0_wt (j := 6) rfl
theorem m_w7 : Cond.selects "ShelfSlots$Walker" ⟨"ShelfSlots$Walker", "lastPlace", "(LShelfSlots$Shed;I)I"⟩ ⟨"ShelfSlots$Walker", "lastPlace", "(LShelfSlots$Shed;I)I"⟩ ∈ m_wt := m_p0_wt (j := 7) rfl
theorem m_w8 : Cond.initialized "ShelfSlotsLaw" ∈ m_wt := m_p1_wt (j := 0) rfl
theorem m_w9 : Cond.initialized "ShelfSlots" ∈ m_wt := m_p1_wt (j := 1) rfl
theorem m_w10 : Cond.initialized "ShelfSlots$Shed" ∈ m_wt := m_p1_wt (j := 2) rfl
theorem m_w11 : Cond.initialized "ShelfSlots$Day" ∈ m_wt := m_p1_wt (j := 3) rfl
theorem m_w12 : Cond.initialized "ShelfSlots$Walker" ∈ m_wt := m_p1_wt (j := 4) rfl
theorem m_w13 : Cond.initialized "ShelfSlots$Mover" ∈ m_wt := m_p1_wt (j := 5) rfl
theorem m_w14 : Cond.initialized "ShelfSlots$Pad" ∈ m_wt := m_p1_wt (j := 6) rfl
theorem m_w15 : Cond.initialized "ShelfSlots$Grammar" ∈ m_wt := m_p1_wt (j := 7) rfl
theorem m_w16 : Cond.initialized "ShelfSlots$History" ∈ m_wt := m_p1_wt (j := 8) rfl
theorem m_w17 : Cond.initialized "ShelfSlots$Bits" ∈ m_wt := m_p1_wt (j := 9) rfl
theorem m_w18 : Cond.initialized "java/lang/Math" ∈ m_wt := m_p1_wt (j := 10) rfl
theorem m_w19 : Cond.initialized "java/lang/System" ∈ m_wt := m_p1_wt (j := 11) rfl
theorem m_w20 : Cond.initialized "java/lang/Integer" ∈ m_wt := m_p1_wt (j := 12) rfl
theorem m_w21 : Cond.initialized "ShelfSlots$Picked" ∈ m_wt := m_p1_wt (j := 13) rfl
theorem m_w22 : Cond.classLink "ShelfSlotsLaw" 15 "ShelfSlots" ∈ m_wt := m_p1_wt (j := 14) rfl
theorem m_w23 : Cond.instantiable "ShelfSlots" 8 ∈ m_wt := m_p1_wt (j := 15) rfl
theorem m_w24 : Cond.methodLink "ShelfSlotsLaw" 77 ⟨"ShelfSlots", "<init>", "()V"⟩ ∈ m_wt := m_p1_wt (j := 16) rfl
theorem m_w25 : Cond.instanceMethod ⟨"ShelfSlots", "<init>", "()V"⟩ ∈ m_wt := m_p1_wt (j := 17) rfl
theorem m_w26 : Cond.code ⟨"ShelfSlots", "<init>", "()V"⟩ prog_1_method_1_code 2 (none) ∈ m_wt := m_p1_wt (j := 18) rfl
theorem m_w27 : Cond.methodLink "ShelfSlots" 1 ⟨"java/lang/Object", "<init>", "()V"⟩ ∈ m_wt := m_p1_wt (j := 19) rfl
theorem m_w28 : Cond.instanceMethod ⟨"java/lang/Object", "<init>", "()V"⟩ ∈ m_wt := m_p1_wt (j := 20) rfl
theorem m_w29 : Cond.code ⟨"java/lang/Object", "<init>", "()V"⟩ object_method_1_code 1 (none) ∈ m_wt := m_p1_wt (j := 21) rfl
theorem m_w30 : Cond.classLink "ShelfSlots" 7 "ShelfSlots$Shed" ∈ m_wt := m_p1_wt (j := 22) rfl
theorem m_w31 : Cond.instantiable "ShelfSlots$Shed" 16 ∈ m_wt := m_p1_wt (j := 23) rfl
theorem m_w32 : Cond.methodLink "ShelfSlots" 9 ⟨"ShelfSlots$Shed", "<init>", "()V"⟩ ∈ m_wt := m_p1_wt (j := 24) rfl
theorem m_w33 : Cond.instanceMethod ⟨"ShelfSlots$Shed", "<init>", "()V"⟩ ∈ m_wt := m_p1_wt (j := 25) rfl
theorem m_w34 : Cond.code ⟨"ShelfSlots$Shed", "<init>", "()V"⟩ prog_9_method_1_code 2 (none) ∈ m_wt := m_p1_wt (j := 26) rfl
theorem m_w35 : Cond.methodLink "ShelfSlots$Shed" 3 ⟨"java/lang/Object", "<init>", "()V"⟩ ∈ m_wt := m_p1_wt (j := 27) rfl
theorem m_w36 : Cond.classLink "ShelfSlots$Shed" 34 "ShelfSlots$Day" ∈ m_wt := m_p1_wt (j := 28) rfl
theorem m_w37 : Cond.instantiable "ShelfSlots$Day" 3 ∈ m_wt := m_p1_wt (j := 29) rfl
theorem m_w39 : Cond.instanceMethod ⟨"ShelfSlots$Day", "<init>", "()V"⟩ ∈ m_wt := m_p1_wt (j := 30) rfl
theorem m_w40 : Cond.code ⟨"ShelfSlots$Day", "<init>", "()V"⟩ prog_3_method_1_code 1 (none) ∈ m_wt := m_p1_wt (j := 31) rfl
theorem m_w41 : Cond.methodLink "ShelfSlots$Day" 3 ⟨"java/lang/Object", "<init>", "()V"⟩ ∈ m_wt := m_p1_wt (j := 32) rfl
theorem m_w42 : Cond.fieldLink "ShelfSlots$Day" 9 "ShelfSlots$Day" "baskets" "[I" ∈ m_wt := m_p1_wt (j := 33) rfl
theorem m_w43 : Cond.fieldLink "ShelfSlots$Walker" 48 "ShelfSlots$Day" "baskets" "[I" ∈ m_wt := m_p1_wt (j := 34) rfl
theorem m_w44 : Cond.fieldLink "ShelfSlots" 140 "ShelfSlots$Day" "baskets" "[I" ∈ m_wt := m_p1_wt (j := 35) rfl
theorem m_w45 : Cond.fieldLink "ShelfSlots$Day" 15 "ShelfSlots$Day" "lengths" "[I" ∈ m_wt := m_p1_wt (j := 36) rfl
theorem m_w46 : Cond.fieldLink "ShelfSlots" 143 "ShelfSlots$Day" "lengths" "[I" ∈ m_wt := m_p1_wt (j := 37) rfl
theorem m_w47 : Cond.fieldLink "ShelfSlots$Day" 24 "ShelfSlots$Day" "many" "I" ∈ m_wt := m_p1_wt (j := 38) rfl
theorem m_w48 : Cond.fieldLink "ShelfSlots$Walker" 45 "ShelfSlots$Day" "many" "I" ∈ m_wt := m_p1_wt (j := 39) rfl
theorem m_w49 : Cond.fieldLink "ShelfSlots" 135 "ShelfSlots$Day" "many" "I" ∈ m_wt := m_p1_wt (j := 40) rfl
theorem m_w50 : Cond.fieldLink "ShelfSlots$Shed" 130 "ShelfSlots$Day" "many" "I" ∈ m_wt := m_p1_wt (j := 41) rfl
theorem m_w51 : Cond.laysFinal "ShelfSlots$Day" "ShelfSlots$Day" "baskets" "[I" ∈ m_wt := m_p1_wt (j := 42) rfl
theorem m_w53 : Cond.laysFinal "ShelfSlots$Day" "ShelfSlots$Day" "lengths" "[I" ∈ m_wt := m_p1_wt (j := 43) rfl
theorem m_w55 : Cond.lays "ShelfSlots$Day" "ShelfSlots$Day" "many" "I" ∈ m_wt := m_p1_wt (j := 44) rfl
theorem m_w58 : Cond.arrayClass .int ∈ m_wt := m_p1_wt (j := 45) rfl
theorem m_w59 : Cond.arrayClass .float ∈ m_wt := m_p1_wt (j := 46) rfl
theorem m_w60 : Cond.fieldLink "ShelfSlots$Shed" 9 "ShelfSlots$Shed" "settings" "[I" ∈ m_wt := m_p1_wt (j := 47) rfl
theorem m_w61 : Cond.fieldLink "ShelfSlots$Mover" 24 "ShelfSlots$Shed" "settings" "[I" ∈ m_wt := m_p1_wt (j := 48) rfl
theorem m_w62 : Cond.fieldLink "ShelfSlots$Walker" 58 "ShelfSlots$Shed" "settings" "[I" ∈ m_wt := m_p1_wt (j := 49) rfl
theorem m_w63 : Cond.fieldLink "ShelfSlots" 182 "ShelfSlots$Shed" "settings" "[I" ∈ m_wt := m_p1_wt (j := 50) rfl
theorem m_w64 : Cond.fieldLink "ShelfSlots$Shed" 15 "ShelfSlots$Shed" "slotOf" "[I" ∈ m_wt := m_p1_wt (j := 51) rfl
theorem m_w65 : Cond.fieldLink "ShelfSlots$Walker" 24 "ShelfSlots$Shed" "slotOf" "[I" ∈ m_wt := m_p1_wt (j := 52) rfl
theorem m_w66 : Cond.fieldLink "ShelfSlots" 89 "ShelfSlots$Shed" "slotOf" "[I" ∈ m_wt := m_p1_wt (j := 53) rfl
theorem m_w67 : Cond.fieldLink "ShelfSlots$Shed" 18 "ShelfSlots$Shed" "goodIn" "[I" ∈ m_wt := m_p1_wt (j := 54) rfl
theorem m_w68 : Cond.fieldLink "ShelfSlots" 119 "ShelfSlots$Shed" "goodIn" "[I" ∈ m_wt := m_p1_wt (j := 55) rfl
theorem m_w69 : Cond.fieldLink "ShelfSlots$Shed" 21 "ShelfSlots$Shed" "speed" "[F" ∈ m_wt := m_p1_wt (j := 56) rfl
theorem m_w70 : Cond.fieldLink "ShelfSlots" 93 "ShelfSlots$Shed" "speed" "[F" ∈ m_wt := m_p1_wt (j := 57) rfl
theorem m_w71 : Cond.fieldLink "ShelfSlots$Shed" 25 "ShelfSlots$Shed" "pickedToday" "[I" ∈ m_wt := m_p1_wt (j := 58) rfl
theorem m_w72 : Cond.fieldLink "ShelfSlots" 103 "ShelfSlots$Shed" "pickedToday" "[I" ∈ m_wt := m_p1_wt (j := 59) rfl
theorem m_w73 : Cond.fieldLink "ShelfSlots$Shed" 28 "ShelfSlots$Shed" "pickedSoFar" "[I" ∈ m_wt := m_p1_wt (j := 60) rfl
theorem m_w74 : Cond.fieldLink "ShelfSlots" 106 "ShelfSlots$Shed" "pickedSoFar" "[I" ∈ m_wt := m_p1_wt (j := 61) rfl
theorem m_w75 : Cond.fieldLink "ShelfSlots$Shed" 31 "ShelfSlots$Shed" "swapped" "[I" ∈ m_wt := m_p1_wt (j := 62) rfl
theorem m_w76 : Cond.fieldLink "ShelfSlots" 112 "ShelfSlots$Shed" "swapped" "[I" ∈ m_wt := m_p1_wt (j := 63) rfl
theorem m_w77 : Cond.fieldLink "ShelfSlots$Shed" 37 "ShelfSlots$Shed" "today" "LShelfSlots$Day;" ∈ m_wt := m_p1_wt (j := 64) rfl
theorem m_w78 : Cond.fieldLink "ShelfSlots$Walker" 41 "ShelfSlots$Shed" "today" "LShelfSlots$Day;" ∈ m_wt := m_p1_wt (j := 65) rfl
theorem m_w79 : Cond.fieldLink "ShelfSlots" 128 "ShelfSlots$Shed" "today" "LShelfSlots$Day;" ∈ m_wt := m_p1_wt (j := 66) rfl
theorem m_w80 : Cond.fieldLink "ShelfSlots$Shed" 41 "ShelfSlots$Shed" "yesterday" "LShelfSlots$Day;" ∈ m_wt := m_p1_wt (j := 67) rfl
theorem m_w81 : Cond.fieldLink "ShelfSlots" 132 "ShelfSlots$Shed" "yesterday" "LShelfSlots$Day;" ∈ m_wt := m_p1_wt (j := 68) rfl
theorem m_w82 : Cond.fieldLink "ShelfSlots$Shed" 54 "ShelfSlots$Shed" "lastPicked" "LShelfSlots$Picked;" ∈ m_wt := m_p1_wt (j := 69) rfl
theorem m_w83 : Cond.fieldLink "ShelfSlots$Shed" 58 "ShelfSlots$Shed" "picks" "I" ∈ m_wt := m_p1_wt (j := 70) rfl
theorem m_w84 : Cond.fieldLink "ShelfSlots$Shed" 62 "ShelfSlots$Shed" "goods" "I" ∈ m_wt := m_p1_wt (j := 71) rfl
theorem m_w85 : Cond.fieldLink "ShelfSlots" 85 "ShelfSlots$Shed" "goods" "I" ∈ m_wt := m_p1_wt (j := 72) rfl
theorem m_w86 : Cond.fieldLink "ShelfSlots$Shed" 65 "ShelfSlots$Shed" "closed" "I" ∈ m_wt := m_p1_wt (j := 73) rfl
theorem m_w87 : Cond.fieldLink "ShelfSlots" 173 "ShelfSlots$Shed" "closed" "I" ∈ m_wt := m_p1_wt (j := 74) rfl
theorem m_w88 : Cond.fieldLink "ShelfSlots$Mover" 15 "ShelfSlots$Shed" "nights" "I" ∈ m_wt := m_p1_wt (j := 75) rfl
theorem m_w89 : Cond.fieldLink "ShelfSlots$Shed" 68 "ShelfSlots$Shed" "nights" "I" ∈ m_wt := m_p1_wt (j := 76) rfl
theorem m_w90 : Cond.fieldLink "ShelfSlots" 156 "ShelfSlots$Shed" "nights" "I" ∈ m_wt := m_p1_wt (j := 77) rfl
theorem m_w91 : Cond.fieldLink "ShelfSlots$Shed" 71 "ShelfSlots$Shed" "walksSoFar" "I" ∈ m_wt := m_p1_wt (j := 78) rfl
theorem m_w92 : Cond.fieldLink "ShelfSlots" 163 "ShelfSlots$Shed" "walksSoFar" "I" ∈ m_wt := m_p1_wt (j := 79) rfl
theorem m_w93 : Cond.fieldLink "ShelfSlots$Mover" 42 "ShelfSlots$Shed" "nightSwaps" "I" ∈ m_wt := m_p1_wt (j := 80) rfl
theorem m_w94 : Cond.fieldLink "ShelfSlots$Shed" 74 "ShelfSlots$Shed" "nightSwaps" "I" ∈ m_wt := m_p1_wt (j := 81) rfl
theorem m_w95 : Cond.fieldLink "ShelfSlots" 166 "ShelfSlots$Shed" "nightSwaps" "I" ∈ m_wt := m_p1_wt (j := 82) rfl
theorem m_w96 : Cond.laysFinal "ShelfSlots$Shed" "ShelfSlots$Shed" "settings" "[I" ∈ m_wt := m_p1_wt (j := 83) rfl
theorem m_w98 : Cond.laysFinal "ShelfSlots$Shed" "ShelfSlots$Shed" "slotOf" "[I" ∈ m_wt := m_p1_wt (j := 84) rfl
theorem m_w100 : Cond.laysFinal "ShelfSlots$Shed" "ShelfSlots$Shed" "goodIn" "[I" ∈ m_wt := m_p1_wt (j := 85) rfl
theorem m_w102 : Cond.laysFinal "ShelfSlots$Shed" "ShelfSlots$Shed" "speed" "[F" ∈ m_wt := m_p1_wt (j := 86) rfl
theorem m_w104 : Cond.laysFinal "ShelfSlots$Shed" "ShelfSlots$Shed" "pickedToday" "[I" ∈ m_wt := m_p1_wt (j := 87) rfl
theorem m_w106 : Cond.laysFinal "ShelfSlots$Shed" "ShelfSlots$Shed" "pickedSoFar" "[I" ∈ m_wt := m_p1_wt (j := 88) rfl
theorem m_w108 : Cond.laysFinal "ShelfSlots$Shed" "ShelfSlots$Shed" "swapped" "[I" ∈ m_wt := m_p1_wt (j := 89) rfl
theorem m_w110 : Cond.laysFinal "ShelfSlots$Shed" "ShelfSlots$Shed" "today" "LShelfSlots$Day;" ∈ m_wt := m_p1_wt (j := 90) rfl
theorem m_w112 : Cond.laysFinal "ShelfSlots$Shed" "ShelfSlots$Shed" "yesterday" "LShelfSlots$Day;" ∈ m_wt := m_p1_wt (j := 91) rfl
theorem m_w114 : Cond.lays "ShelfSlots$Shed" "ShelfSlots$Shed" "lastPicked" "LShelfSlots$Picked;" ∈ m_wt := m_p1_wt (j := 92) rfl
theorem m_w116 : Cond.lays "ShelfSlots$Shed" "ShelfSlots$Shed" "picks" "I" ∈ m_wt := m_p1_wt (j := 93) rfl
theorem m_w118 : Cond.lays "ShelfSlots$Shed" "ShelfSlots$Shed" "goods" "I" ∈ m_wt := m_p1_wt (j := 94) rfl
theorem m_w120 : Cond.lays "ShelfSlots$Shed" "ShelfSlots$Shed" "closed" "I" ∈ m_wt := m_p1_wt (j := 95) rfl
theorem m_w122 : Cond.lays "ShelfSlots$Shed" "ShelfSlots$Shed" "nights" "I" ∈ m_wt := m_p1_wt (j := 96) rfl
theorem m_w124 : Cond.lays "ShelfSlots$Shed" "ShelfSlots$Shed" "walksSoFar" "I" ∈ m_wt := m_p1_wt (j := 97) rfl
theorem m_w126 : Cond.lays "ShelfSlots$Shed" "ShelfSlots$Shed" "nightSwaps" "I" ∈ m_wt := m_p1_wt (j := 98) rfl
theorem m_w129 : Cond.classLink "ShelfSlots" 19 "ShelfSlots$Walker" ∈ m_wt := m_p1_wt (j := 99) rfl
theorem m_w130 : Cond.instantiable "ShelfSlots$Walker" 2 ∈ m_wt := m_p1_wt (j := 100) rfl
theorem m_w132 : Cond.instanceMethod ⟨"ShelfSlots$Walker", "<init>", "()V"⟩ ∈ m_wt := m_p1_wt (j := 101) rfl
theorem m_w133 : Cond.code ⟨"ShelfSlots$Walker", "<init>", "()V"⟩ prog_10_method_1_code 1 (none) ∈ m_wt := m_p1_wt (j := 102) rfl
theorem m_w134 : Cond.methodLink "ShelfSlots$Walker" 3 ⟨"java/lang/Object", "<init>", "()V"⟩ ∈ m_wt := m_p1_wt (j := 103) rfl
theorem m_w135 : Cond.fieldLink "ShelfSlots$Walker" 9 "ShelfSlots$Walker" "stops" "[I" ∈ m_wt := m_p1_wt (j := 104) rfl
theorem m_w136 : Cond.fieldLink "ShelfSlots$Walker" 19 "ShelfSlots$Walker" "many" "I" ∈ m_wt := m_p1_wt (j := 105) rfl
theorem m_w137 : Cond.laysFinal "ShelfSlots$Walker" "ShelfSlots$Walker" "stops" "[I" ∈ m_wt := m_p1_wt (j := 106) rfl
theorem m_w139 : Cond.lays "ShelfSlots$Walker" "ShelfSlots$Walker" "many" "I" ∈ m_wt := m_p1_wt (j := 107) rfl
theorem m_w142 : Cond.classLink "ShelfSlots" 26 "ShelfSlots$Mover" ∈ m_wt := m_p1_wt (j := 108) rfl
theorem m_w143 : Cond.instantiable "ShelfSlots$Mover" 3 ∈ m_wt := m_p1_wt (j := 109) rfl
theorem m_w144 : Cond.methodLink "ShelfSlots" 28 ⟨"ShelfSlots$Mover", "<init>", "(LShelfSlots$Walker;)V"⟩ ∈ m_wt := m_p1_wt (j := 110) rfl
theorem m_w145 : Cond.instanceMethod ⟨"ShelfSlots$Mover", "<init>", "(LShelfSlots$Walker;)V"⟩ ∈ m_wt := m_p1_wt (j := 111) rfl
theorem m_w146 : Cond.code ⟨"ShelfSlots$Mover", "<init>", "(LShelfSlots$Walker;)V"⟩ prog_6_method_1_code 2 (none) ∈ m_wt := m_p1_wt (j := 112) rfl
theorem m_w147 : Cond.methodLink "ShelfSlots$Mover" 3 ⟨"java/lang/Object", "<init>", "()V"⟩ ∈ m_wt := m_p1_wt (j := 113) rfl
theorem m_w148 : Cond.fieldLink "ShelfSlots$Mover" 9 "ShelfSlots$Mover" "walker" "LShelfSlots$Walker;" ∈ m_wt := m_p1_wt (j := 114) rfl
theorem m_w149 : Cond.fieldLink "ShelfSlots$Mover" 32 "ShelfSlots$Mover" "lower" "I" ∈ m_wt := m_p1_wt (j := 115) rfl
theorem m_w150 : Cond.fieldLink "ShelfSlots" 215 "ShelfSlots$Mover" "lower" "I" ∈ m_wt := m_p1_wt (j := 116) rfl
theorem m_w151 : Cond.fieldLink "ShelfSlots$Mover" 35 "ShelfSlots$Mover" "higher" "I" ∈ m_wt := m_p1_wt (j := 117) rfl
theorem m_w152 : Cond.fieldLink "ShelfSlots" 218 "ShelfSlots$Mover" "higher" "I" ∈ m_wt := m_p1_wt (j := 118) rfl
theorem m_w153 : Cond.laysFinal "ShelfSlots$Mover" "ShelfSlots$Mover" "walker" "LShelfSlots$Walker;" ∈ m_wt := m_p1_wt (j := 119) rfl
theorem m_w155 : Cond.lays "ShelfSlots$Mover" "ShelfSlots$Mover" "lower" "I" ∈ m_wt := m_p1_wt (j := 120) rfl
theorem m_w157 : Cond.lays "ShelfSlots$Mover" "ShelfSlots$Mover" "higher" "I" ∈ m_wt := m_p1_wt (j := 121) rfl
theorem m_w160 : Cond.classLink "ShelfSlots" 35 "ShelfSlots$Pad" ∈ m_wt := m_p1_wt (j := 122) rfl
theorem m_w161 : Cond.instantiable "ShelfSlots$Pad" 4 ∈ m_wt := m_p1_wt (j := 123) rfl
theorem m_w163 : Cond.instanceMethod ⟨"ShelfSlots$Pad", "<init>", "()V"⟩ ∈ m_wt := m_p1_wt (j := 124) rfl
theorem m_w164 : Cond.code ⟨"ShelfSlots$Pad", "<init>", "()V"⟩ prog_7_method_1_code 1 (none) ∈ m_wt := m_p1_wt (j := 125) rfl
theorem m_w165 : Cond.methodLink "ShelfSlots$Pad" 3 ⟨"java/lang/Object", "<init>", "()V"⟩ ∈ m_wt := m_p1_wt (j := 126) rfl
theorem m_w166 : Cond.classLink "ShelfSlots$Pad" 15 "ShelfSlots$Grammar" ∈ m_wt := m_p1_wt (j := 127) rfl
theorem m_w167 : Cond.instantiable "ShelfSlots$Grammar" 3 ∈ m_wt := m_p1_wt (j := 128) rfl
theorem m_w169 : Cond.instanceMethod ⟨"ShelfSlots$Grammar", "<init>", "()V"⟩ ∈ m_wt := m_p1_wt (j := 129) rfl
theorem m_w170 : Cond.code ⟨"ShelfSlots$Grammar", "<init>", "()V"⟩ prog_4_method_1_code 1 (none) ∈ m_wt := m_p1_wt (j := 130) rfl
theorem m_w171 : Cond.methodLink "ShelfSlots$Grammar" 1 ⟨"java/lang/Object", "<init>", "()V"⟩ ∈ m_wt := m_p1_wt (j := 131) rfl
theorem m_w172 : Cond.lays "ShelfSlots$Grammar" "ShelfSlots$Grammar" "due" "I" ∈ m_wt := m_p1_wt (j := 132) rfl
theorem m_w174 : Cond.lays "ShelfSlots$Grammar" "ShelfSlots$Grammar" "numberMark" "C" ∈ m_wt := m_p1_wt (j := 133) rfl
theorem m_w176 : Cond.lays "ShelfSlots$Grammar" "ShelfSlots$Grammar" "mayEnd" "Z" ∈ m_wt := m_p1_wt (j := 134) rfl
theorem m_w179 : Cond.arrayClass .char ∈ m_wt := m_p1_wt (j := 135) rfl
theorem m_w180 : Cond.fieldLink "ShelfSlots$Pad" 9 "ShelfSlots$Pad" "signs" "[C" ∈ m_wt := m_p1_wt (j := 136) rfl
theorem m_w181 : Cond.fieldLink "ShelfSlots$Pad" 18 "ShelfSlots$Pad" "grammar" "LShelfSlots$Grammar;" ∈ m_wt := m_p1_wt (j := 137) rfl
theorem m_w182 : Cond.fieldLink "ShelfSlots" 185 "ShelfSlots$Pad" "length" "I" ∈ m_wt := m_p1_wt (j := 138) rfl
theorem m_w183 : Cond.laysFinal "ShelfSlots$Pad" "ShelfSlots$Pad" "signs" "[C" ∈ m_wt := m_p1_wt (j := 139) rfl
theorem m_w185 : Cond.laysFinal "ShelfSlots$Pad" "ShelfSlots$Pad" "grammar" "LShelfSlots$Grammar;" ∈ m_wt := m_p1_wt (j := 140) rfl
theorem m_w187 : Cond.lays "ShelfSlots$Pad" "ShelfSlots$Pad" "at" "I" ∈ m_wt := m_p1_wt (j := 141) rfl
theorem m_w189 : Cond.lays "ShelfSlots$Pad" "ShelfSlots$Pad" "length" "I" ∈ m_wt := m_p1_wt (j := 142) rfl
theorem m_w192 : Cond.classLink "ShelfSlots" 42 "ShelfSlots$History" ∈ m_wt := m_p1_wt (j := 143) rfl
theorem m_w193 : Cond.instantiable "ShelfSlots$History" 3 ∈ m_wt := m_p1_wt (j := 144) rfl
theorem m_w194 : Cond.methodLink "ShelfSlots" 44 ⟨"ShelfSlots$History", "<init>", "()V"⟩ ∈ m_wt := m_p1_wt (j := 145) rfl
theorem m_w195 : Cond.instanceMethod ⟨"ShelfSlots$History", "<init>", "()V"⟩ ∈ m_wt := m_p1_wt (j := 146) rfl
theorem m_w196 : Cond.code ⟨"ShelfSlots$History", "<init>", "()V"⟩ prog_5_method_1_code 2 (none) ∈ m_wt := m_p1_wt (j := 147) rfl
theorem m_w197 : Cond.methodLink "ShelfSlots$History" 3 ⟨"java/lang/Object", "<init>", "()V"⟩ ∈ m_wt := m_p1_wt (j := 148) rfl
theorem m_w198 : Cond.classLink "ShelfSlots$History" 11 "ShelfSlots$Shed" ∈ m_wt := m_p1_wt (j := 149) rfl
theorem m_w200 : Cond.methodLink "ShelfSlots$History" 17 ⟨"ShelfSlots$Shed", "<init>", "()V"⟩ ∈ m_wt := m_p1_wt (j := 150) rfl
theorem m_w201 : Cond.fieldLink "ShelfSlots$History" 13 "ShelfSlots$History" "rows" "[LShelfSlots$Shed;" ∈ m_wt := m_p1_wt (j := 151) rfl
theorem m_w202 : Cond.fieldLink "ShelfSlots$History" 18 "ShelfSlots$History" "next" "I" ∈ m_wt := m_p1_wt (j := 152) rfl
theorem m_w203 : Cond.fieldLink "ShelfSlots$History" 26 "ShelfSlots$History" "kept" "I" ∈ m_wt := m_p1_wt (j := 153) rfl
theorem m_w204 : Cond.fieldLink "ShelfSlots" 188 "ShelfSlots$History" "kept" "I" ∈ m_wt := m_p1_wt (j := 154) rfl
theorem m_w205 : Cond.laysFinal "ShelfSlots$History" "ShelfSlots$History" "rows" "[LShelfSlots$Shed;" ∈ m_wt := m_p1_wt (j := 155) rfl
theorem m_w207 : Cond.lays "ShelfSlots$History" "ShelfSlots$History" "next" "I" ∈ m_wt := m_p1_wt (j := 156) rfl
theorem m_w209 : Cond.lays "ShelfSlots$History" "ShelfSlots$History" "kept" "I" ∈ m_wt := m_p1_wt (j := 157) rfl
theorem m_w212 : Cond.fieldLink "ShelfSlots" 10 "ShelfSlots" "now" "LShelfSlots$Shed;" ∈ m_wt := m_p1_wt (j := 158) rfl
theorem m_w213 : Cond.fieldLink "ShelfSlots" 16 "ShelfSlots" "trial" "LShelfSlots$Shed;" ∈ m_wt := m_p1_wt (j := 159) rfl
theorem m_w214 : Cond.fieldLink "ShelfSlots" 22 "ShelfSlots" "walker" "LShelfSlots$Walker;" ∈ m_wt := m_p1_wt (j := 160) rfl
theorem m_w215 : Cond.fieldLink "ShelfSlots" 31 "ShelfSlots" "mover" "LShelfSlots$Mover;" ∈ m_wt := m_p1_wt (j := 161) rfl
theorem m_w216 : Cond.fieldLink "ShelfSlots" 38 "ShelfSlots" "pad" "LShelfSlots$Pad;" ∈ m_wt := m_p1_wt (j := 162) rfl
theorem m_w217 : Cond.fieldLink "ShelfSlots" 45 "ShelfSlots" "history" "LShelfSlots$History;" ∈ m_wt := m_p1_wt (j := 163) rfl
theorem m_w218 : Cond.fieldLink "ShelfSlots" 49 "ShelfSlots" "saved" "[LShelfSlots$Shed;" ∈ m_wt := m_p1_wt (j := 164) rfl
theorem m_w219 : Cond.fieldLink "ShelfSlots" 53 "ShelfSlots" "wasSaved" "[Z" ∈ m_wt := m_p1_wt (j := 165) rfl
theorem m_w220 : Cond.laysFinal "ShelfSlots" "ShelfSlots" "now" "LShelfSlots$Shed;" ∈ m_wt := m_p1_wt (j := 166) rfl
theorem m_w222 : Cond.laysFinal "ShelfSlots" "ShelfSlots" "trial" "LShelfSlots$Shed;" ∈ m_wt := m_p1_wt (j := 167) rfl
theorem m_w224 : Cond.laysFinal "ShelfSlots" "ShelfSlots" "walker" "LShelfSlots$Walker;" ∈ m_wt := m_p1_wt (j := 168) rfl
theorem m_w226 : Cond.laysFinal "ShelfSlots" "ShelfSlots" "mover" "LShelfSlots$Mover;" ∈ m_wt := m_p1_wt (j := 169) rfl
theorem m_w228 : Cond.laysFinal "ShelfSlots" "ShelfSlots" "pad" "LShelfSlots$Pad;" ∈ m_wt := m_p1_wt (j := 170) rfl
theorem m_w230 : Cond.laysFinal "ShelfSlots" "ShelfSlots" "history" "LShelfSlots$History;" ∈ m_wt := m_p1_wt (j := 171) rfl
theorem m_w232 : Cond.laysFinal "ShelfSlots" "ShelfSlots" "saved" "[LShelfSlots$Shed;" ∈ m_wt := m_p1_wt (j := 172) rfl
theorem m_w234 : Cond.laysFinal "ShelfSlots" "ShelfSlots" "wasSaved" "[Z" ∈ m_wt := m_p1_wt (j := 173) rfl
theorem m_w237 : Cond.arrayClass .boolean ∈ m_wt := m_p1_wt (j := 174) rfl
theorem m_w238 : Cond.methodLink "ShelfSlotsLaw" 14 ⟨"ShelfSlots", "count", "(I)I"⟩ ∈ m_wt := m_p1_wt (j := 175) rfl
theorem m_w239 : Cond.instanceMethod ⟨"ShelfSlots", "count", "(I)I"⟩ ∈ m_wt := m_p1_wt (j := 176) rfl
theorem m_w240 : Cond.selects "ShelfSlots" ⟨"ShelfSlots", "count", "(I)I"⟩ ⟨"ShelfSlots", "count", "(I)I"⟩ ∈ m_wt := m_p1_wt (j := 177) rfl
theorem m_w241 : Cond.code ⟨"ShelfSlots", "count", "(I)I"⟩ prog_1_method_13_code 2 (some .int) ∈ m_wt := m_p1_wt (j := 178) rfl
theorem m_w242 : Cond.methodLink "ShelfSlots" 159 ⟨"ShelfSlots$Day", "together", "()I"⟩ ∈ m_wt := m_p1_wt (j := 179) rfl
theorem m_w243 : Cond.instanceMethod ⟨"ShelfSlots$Day", "together", "()I"⟩ ∈ m_wt := m_p1_wt (j := 180) rfl
theorem m_w244 : Cond.selects "ShelfSlots$Day" ⟨"ShelfSlots$Day", "together", "()I"⟩ ⟨"ShelfSlots$Day", "together", "()I"⟩ ∈ m_wt := m_p1_wt (j := 181) rfl
theorem m_w245 : Cond.code ⟨"ShelfSlots$Day", "together", "()I"⟩ prog_3_method_4_code 3 (some .int) ∈ m_wt := m_p1_wt (j := 182) rfl
theorem m_w246 : Cond.methodLink "ShelfSlots" 169 ⟨"ShelfSlots$Shed", "weight", "()F"⟩ ∈ m_wt := m_p1_wt (j := 183) rfl
theorem m_w247 : Cond.instanceMethod ⟨"ShelfSlots$Shed", "weight", "()F"⟩ ∈ m_wt := m_p1_wt (j := 184) rfl
theorem m_w248 : Cond.selects "ShelfSlots$Shed" ⟨"ShelfSlots$Shed", "weight", "()F"⟩ ⟨"ShelfSlots$Shed", "weight", "()F"⟩ ∈ m_wt := m_p2_wt (j := 0) rfl
theorem m_w249 : Cond.code ⟨"ShelfSlots$Shed", "weight", "()F"⟩ prog_9_method_16_code 3 (some .float) ∈ m_wt := m_p2_wt (j := 1) rfl
theorem m_w250 : Cond.methodLink "ShelfSlots$Shed" 99 ⟨"ShelfSlots$Shed", "deskSteps", "(I)I"⟩ ∈ m_wt := m_p2_wt (j := 2) rfl
theorem m_w251 : Cond.instanceMethod ⟨"ShelfSlots$Shed", "deskSteps", "(I)I"⟩ ∈ m_wt := m_p2_wt (j := 3) rfl
theorem m_w252 : Cond.selects "ShelfSlots$Shed" ⟨"ShelfSlots$Shed", "deskSteps", "(I)I"⟩ ⟨"ShelfSlots$Shed", "deskSteps", "(I)I"⟩ ∈ m_wt := m_p2_wt (j := 4) rfl
theorem m_w253 : Cond.code ⟨"ShelfSlots$Shed", "deskSteps", "(I)I"⟩ prog_9_method_15_code 2 (some .int) ∈ m_wt := m_p2_wt (j := 5) rfl
theorem m_w254 : Cond.methodLink "ShelfSlots" 97 ⟨"ShelfSlots$Bits", "ofFloat", "(F)I"⟩ ∈ m_wt := m_p2_wt (j := 6) rfl
theorem m_w255 : Cond.static ⟨"ShelfSlots$Bits", "ofFloat", "(F)I"⟩ ∈ m_wt := m_p2_wt (j := 7) rfl
theorem m_w256 : Cond.code ⟨"ShelfSlots$Bits", "ofFloat", "(F)I"⟩ prog_2_method_2_code 3 (some .int) ∈ m_wt := m_p2_wt (j := 8) rfl
theorem m_w257 : Cond.methodLink "ShelfSlots$Bits" 7 ⟨"ShelfSlots$Bits", "exponentOf", "(D)I"⟩ ∈ m_wt := m_p2_wt (j := 9) rfl
theorem m_w258 : Cond.static ⟨"ShelfSlots$Bits", "exponentOf", "(D)I"⟩ ∈ m_wt := m_p2_wt (j := 10) rfl
theorem m_w259 : Cond.code ⟨"ShelfSlots$Bits", "exponentOf", "(D)I"⟩ prog_2_method_4_code 5 (some .int) ∈ m_wt := m_p2_wt (j := 11) rfl
theorem m_w260 : Cond.constantDouble "ShelfSlots$Bits" 30 4611686018427387904 ∈ m_wt := m_p2_wt (j := 12) rfl
theorem m_w261 : Cond.methodLink "ShelfSlots$Bits" 13 ⟨"ShelfSlots$Bits", "scaled", "(DI)D"⟩ ∈ m_wt := m_p2_wt (j := 13) rfl
theorem m_w262 : Cond.static ⟨"ShelfSlots$Bits", "scaled", "(DI)D"⟩ ∈ m_wt := m_p2_wt (j := 14) rfl
theorem m_w263 : Cond.code ⟨"ShelfSlots$Bits", "scaled", "(DI)D"⟩ prog_2_method_5_code 6 (some .double) ∈ m_wt := m_p2_wt (j := 15) rfl
theorem m_w264 : Cond.constantDouble "ShelfSlots$Bits" 17 4710765210229538816 ∈ m_wt := m_p2_wt (j := 16) rfl
theorem m_w265 : Cond.methodLink "ShelfSlots$Bits" 19 ⟨"java/lang/Math", "min", "(II)I"⟩ ∈ m_wt := m_p2_wt (j := 17) rfl
theorem m_w266 : Cond.static ⟨"java/lang/Math", "min", "(II)I"⟩ ∈ m_wt := m_p2_wt (j := 18) rfl
theorem m_w267 : Cond.code ⟨"java/lang/Math", "min", "(II)I"⟩ prog_14_method_69_code 2 (some .int) ∈ m_wt := m_p2_wt (j := 19) rfl
theorem m_w268 : Cond.constant "ShelfSlots$Bits" 25 8388608 ∈ m_wt := m_p2_wt (j := 20) rfl
theorem m_w269 : Cond.methodLink "ShelfSlots" 176 ⟨"ShelfSlots$Shed", "fastest", "()I"⟩ ∈ m_wt := m_p2_wt (j := 21) rfl
theorem m_w270 : Cond.instanceMethod ⟨"ShelfSlots$Shed", "fastest", "()I"⟩ ∈ m_wt := m_p2_wt (j := 22) rfl
theorem m_w271 : Cond.selects "ShelfSlots$Shed" ⟨"ShelfSlots$Shed", "fastest", "()I"⟩ ⟨"ShelfSlots$Shed", "fastest", "()I"⟩ ∈ m_wt := m_p2_wt (j := 23) rfl
theorem m_w272 : Cond.code ⟨"ShelfSlots$Shed", "fastest", "()I"⟩ prog_9_method_18_code 3 (some .int) ∈ m_wt := m_p2_wt (j := 24) rfl
theorem m_w273 : Cond.methodLink "ShelfSlots" 179 ⟨"ShelfSlots$Shed", "unlikeBaskets", "()I"⟩ ∈ m_wt := m_p2_wt (j := 25) rfl
theorem m_w274 : Cond.instanceMethod ⟨"ShelfSlots$Shed", "unlikeBaskets", "()I"⟩ ∈ m_wt := m_p2_wt (j := 26) rfl
theorem m_w275 : Cond.selects "ShelfSlots$Shed" ⟨"ShelfSlots$Shed", "unlikeBaskets", "()I"⟩ ⟨"ShelfSlots$Shed", "unlikeBaskets", "()I"⟩ ∈ m_wt := m_p2_wt (j := 27) rfl
theorem m_w276 : Cond.code ⟨"ShelfSlots$Shed", "unlikeBaskets", "()I"⟩ prog_9_method_22_code 1 (some .int) ∈ m_wt := m_p2_wt (j := 28) rfl
theorem m_w277 : Cond.methodLink "ShelfSlotsLaw" 68 ⟨"ShelfSlots", "undo", "()I"⟩ ∈ m_wt := m_p2_wt (j := 29) rfl
theorem m_w278 : Cond.instanceMethod ⟨"ShelfSlots", "undo", "()I"⟩ ∈ m_wt := m_p2_wt (j := 30) rfl
theorem m_w279 : Cond.selects "ShelfSlots" ⟨"ShelfSlots", "undo", "()I"⟩ ⟨"ShelfSlots", "undo", "()I"⟩ ∈ m_wt := m_p2_wt (j := 31) rfl
theorem m_w280 : Cond.code ⟨"ShelfSlots", "undo", "()I"⟩ prog_1_method_25_code 1 (some .int) ∈ m_wt := m_p2_wt (j := 32) rfl
theorem m_w281 : Cond.methodLink "ShelfSlots" 251 ⟨"ShelfSlots$History", "takeBack", "(LShelfSlots$Shed;)I"⟩ ∈ m_wt := m_p2_wt (j := 33) rfl
theorem m_w282 : Cond.instanceMethod ⟨"ShelfSlots$History", "takeBack", "(LShelfSlots$Shed;)I"⟩ ∈ m_wt := m_p2_wt (j := 34) rfl
theorem m_w283 : Cond.selects "ShelfSlots$History" ⟨"ShelfSlots$History", "takeBack", "(LShelfSlots$Shed;)I"⟩ ⟨"ShelfSlots$History", "takeBack", "(LShelfSlots$Shed;)I"⟩ ∈ m_wt := m_p2_wt (j := 35) rfl
theorem m_w284 : Cond.code ⟨"ShelfSlots$History", "takeBack", "(LShelfSlots$Shed;)I"⟩ prog_5_method_4_code 2 (some .int) ∈ m_wt := m_p2_wt (j := 36) rfl
theorem m_w285 : Cond.methodLink "ShelfSlots$History" 22 ⟨"ShelfSlots$Shed", "copyFrom", "(LShelfSlots$Shed;)V"⟩ ∈ m_wt := m_p2_wt (j := 37) rfl
theorem m_w286 : Cond.instanceMethod ⟨"ShelfSlots$Shed", "copyFrom", "(LShelfSlots$Shed;)V"⟩ ∈ m_wt := m_p2_wt (j := 38) rfl
theorem m_w287 : Cond.selects "ShelfSlots$Shed" ⟨"ShelfSlots$Shed", "copyFrom", "(LShelfSlots$Shed;)V"⟩ ⟨"ShelfSlots$Shed", "copyFrom", "(LShelfSlots$Shed;)V"⟩ ∈ m_wt := m_p2_wt (j := 39) rfl
theorem m_w288 : Cond.code ⟨"ShelfSlots$Shed", "copyFrom", "(LShelfSlots$Shed;)V"⟩ prog_9_method_2_code 2 (none) ∈ m_wt := m_p2_wt (j := 40) rfl
theorem m_w289 : Cond.methodLink "ShelfSlots$Shed" 44 ⟨"java/lang/System", "arraycopy", "(Ljava/lang/Object;ILjava/lang/Object;II)V"⟩ ∈ m_wt := m_p2_wt (j := 41) rfl
theorem m_w290 : Cond.static ⟨"java/lang/System", "arraycopy", "(Ljava/lang/Object;ILjava/lang/Object;II)V"⟩ ∈ m_wt := m_p2_wt (j := 42) rfl
theorem m_w291 : Cond.native ⟨"java/lang/System", "arraycopy", "(Ljava/lang/Object;ILjava/lang/Object;II)V"⟩ ∈ m_wt := m_p2_wt (j := 43) rfl
theorem m_w292 : Cond.methodLink "ShelfSlots$Shed" 50 ⟨"ShelfSlots$Day", "copyFrom", "(LShelfSlots$Day;)V"⟩ ∈ m_wt := m_p2_wt (j := 44) rfl
theorem m_w293 : Cond.instanceMethod ⟨"ShelfSlots$Day", "copyFrom", "(LShelfSlots$Day;)V"⟩ ∈ m_wt := m_p2_wt (j := 45) rfl
theorem m_w294 : Cond.selects "ShelfSlots$Day" ⟨"ShelfSlots$Day", "copyFrom", "(LShelfSlots$Day;)V"⟩ ⟨"ShelfSlots$Day", "copyFrom", "(LShelfSlots$Day;)V"⟩ ∈ m_wt := m_p2_wt (j := 46) rfl
theorem m_w295 : Cond.code ⟨"ShelfSlots$Day", "copyFrom", "(LShelfSlots$Day;)V"⟩ prog_3_method_2_code 2 (none) ∈ m_wt := m_p2_wt (j := 47) rfl
theorem m_w296 : Cond.methodLink "ShelfSlots$Day" 18 ⟨"java/lang/System", "arraycopy", "(Ljava/lang/Object;ILjava/lang/Object;II)V"⟩ ∈ m_wt := m_p2_wt (j := 48) rfl
theorem m_w297 : Cond.methodLink "ShelfSlotsLaw" 78 ⟨"ShelfSlotsLaw", "cell", "([II)I"⟩ ∈ m_wt := m_p2_wt (j := 49) rfl
theorem m_w298 : Cond.static ⟨"ShelfSlotsLaw", "cell", "([II)I"⟩ ∈ m_wt := m_p2_wt (j := 50) rfl
theorem m_w299 : Cond.code ⟨"ShelfSlotsLaw", "cell", "([II)I"⟩ method_2_code 2 (some .int) ∈ m_wt := m_p2_wt (j := 51) rfl
theorem m_w300 : Cond.methodLink "ShelfSlotsLaw" 82 ⟨"ShelfSlotsLaw", "act", "(LShelfSlots;I)I"⟩ ∈ m_wt := m_p2_wt (j := 52) rfl
theorem m_w301 : Cond.static ⟨"ShelfSlotsLaw", "act", "(LShelfSlots;I)I"⟩ ∈ m_wt := m_p2_wt (j := 53) rfl
theorem m_w302 : Cond.code ⟨"ShelfSlotsLaw", "act", "(LShelfSlots;I)I"⟩ method_4_code 7 (some .int) ∈ m_wt := m_p2_wt (j := 54) rfl
theorem m_w303 : Cond.methodLink "ShelfSlotsLaw" 8 ⟨"ShelfSlotsLaw", "low", "(II)I"⟩ ∈ m_wt := m_p2_wt (j := 55) rfl
theorem m_w304 : Cond.static ⟨"ShelfSlotsLaw", "low", "(II)I"⟩ ∈ m_wt := m_p2_wt (j := 56) rfl
theorem m_w305 : Cond.code ⟨"ShelfSlotsLaw", "low", "(II)I"⟩ method_3_code 2 (some .int) ∈ m_wt := m_p2_wt (j := 57) rfl
theorem m_w306 : Cond.constant "ShelfSlotsLaw" 7 2147483647 ∈ m_wt := m_p2_wt (j := 58) rfl
theorem m_w307 : Cond.methodLink "ShelfSlotsLaw" 20 ⟨"ShelfSlots", "good", "(I)I"⟩ ∈ m_wt := m_p2_wt (j := 59) rfl
theorem m_w308 : Cond.instanceMethod ⟨"ShelfSlots", "good", "(I)I"⟩ ∈ m_wt := m_p2_wt (j := 60) rfl
theorem m_w309 : Cond.selects "ShelfSlots" ⟨"ShelfSlots", "good", "(I)I"⟩ ⟨"ShelfSlots", "good", "(I)I"⟩ ∈ m_wt := m_p2_wt (j := 61) rfl
theorem m_w310 : Cond.code ⟨"ShelfSlots", "good", "(I)I"⟩ prog_1_method_3_code 2 (some .int) ∈ m_wt := m_p2_wt (j := 62) rfl
theorem m_w311 : Cond.methodLink "ShelfSlots" 57 ⟨"ShelfSlots$History", "note", "(LShelfSlots$Shed;)V"⟩ ∈ m_wt := m_p2_wt (j := 63) rfl
theorem m_w312 : Cond.instanceMethod ⟨"ShelfSlots$History", "note", "(LShelfSlots$Shed;)V"⟩ ∈ m_wt := m_p2_wt (j := 64) rfl
theorem m_w313 : Cond.selects "ShelfSlots$History" ⟨"ShelfSlots$History", "note", "(LShelfSlots$Shed;)V"⟩ ⟨"ShelfSlots$History", "note", "(LShelfSlots$Shed;)V"⟩ ∈ m_wt := m_p2_wt (j := 65) rfl
theorem m_w314 : Cond.code ⟨"ShelfSlots$History", "note", "(LShelfSlots$Shed;)V"⟩ prog_5_method_2_code 2 (none) ∈ m_wt := m_p2_wt (j := 66) rfl
theorem m_w315 : Cond.methodLink "ShelfSlots" 69 ⟨"ShelfSlots$Shed", "bringGood", "(I)I"⟩ ∈ m_wt := m_p2_wt (j := 67) rfl
theorem m_w316 : Cond.instanceMethod ⟨"ShelfSlots$Shed", "bringGood", "(I)I"⟩ ∈ m_wt := m_p2_wt (j := 68) rfl
theorem m_w317 : Cond.selects "ShelfSlots$Shed" ⟨"ShelfSlots$Shed", "bringGood", "(I)I"⟩ ⟨"ShelfSlots$Shed", "bringGood", "(I)I"⟩ ∈ m_wt := m_p2_wt (j := 69) rfl
theorem m_w318 : Cond.code ⟨"ShelfSlots$Shed", "bringGood", "(I)I"⟩ prog_9_method_6_code 3 (some .int) ∈ m_wt := m_p2_wt (j := 70) rfl
theorem m_w319 : Cond.methodLink "ShelfSlots$Shed" 77 ⟨"ShelfSlots$Shed", "isSlot", "(I)Z"⟩ ∈ m_wt := m_p2_wt (j := 71) rfl
theorem m_w320 : Cond.static ⟨"ShelfSlots$Shed", "isSlot", "(I)Z"⟩ ∈ m_wt := m_p2_wt (j := 72) rfl
theorem m_w321 : Cond.code ⟨"ShelfSlots$Shed", "isSlot", "(I)Z"⟩ prog_9_method_3_code 1 (some .boolean) ∈ m_wt := m_p2_wt (j := 73) rfl
theorem m_w322 : Cond.methodLink "ShelfSlots" 65 ⟨"ShelfSlots", "recorded", "(I)I"⟩ ∈ m_wt := m_p2_wt (j := 74) rfl
theorem m_w324 : Cond.instanceMethod ⟨"ShelfSlots", "recorded", "(I)I"⟩ ∈ m_wt := m_p2_wt (j := 75) rfl
theorem m_w325 : Cond.code ⟨"ShelfSlots", "recorded", "(I)I"⟩ prog_1_method_28_code 2 (some .int) ∈ m_wt := m_p2_wt (j := 76) rfl
theorem m_w326 : Cond.methodLink "ShelfSlots" 254 ⟨"ShelfSlots$History", "keepNote", "()V"⟩ ∈ m_wt := m_p2_wt (j := 77) rfl
theorem m_w327 : Cond.instanceMethod ⟨"ShelfSlots$History", "keepNote", "()V"⟩ ∈ m_wt := m_p2_wt (j := 78) rfl
theorem m_w328 : Cond.selects "ShelfSlots$History" ⟨"ShelfSlots$History", "keepNote", "()V"⟩ ⟨"ShelfSlots$History", "keepNote", "()V"⟩ ∈ m_wt := m_p2_wt (j := 79) rfl
theorem m_w329 : Cond.code ⟨"ShelfSlots$History", "keepNote", "()V"⟩ prog_5_method_3_code 1 (none) ∈ m_wt := m_p2_wt (j := 80) rfl
theorem m_w330 : Cond.methodLink "ShelfSlots$History" 29 ⟨"java/lang/Math", "min", "(II)I"⟩ ∈ m_wt := m_p2_wt (j := 81) rfl
theorem m_w331 : Cond.methodLink "ShelfSlotsLaw" 23 ⟨"ShelfSlots", "swap", "(II)I"⟩ ∈ m_wt := m_p2_wt (j := 82) rfl
theorem m_w332 : Cond.instanceMethod ⟨"ShelfSlots", "swap", "(II)I"⟩ ∈ m_wt := m_p2_wt (j := 83) rfl
theorem m_w333 : Cond.selects "ShelfSlots" ⟨"ShelfSlots", "swap", "(II)I"⟩ ⟨"ShelfSlots", "swap", "(II)I"⟩ ∈ m_wt := m_p2_wt (j := 84) rfl
theorem m_w334 : Cond.code ⟨"ShelfSlots", "swap", "(II)I"⟩ prog_1_method_4_code 3 (some .int) ∈ m_wt := m_p2_wt (j := 85) rfl
theorem m_w335 : Cond.methodLink "ShelfSlots" 72 ⟨"ShelfSlots$Shed", "swapByHand", "(II)I"⟩ ∈ m_wt := m_p2_wt (j := 86) rfl
theorem m_w336 : Cond.instanceMethod ⟨"ShelfSlots$Shed", "swapByHand", "(II)I"⟩ ∈ m_wt := m_p2_wt (j := 87) rfl
theorem m_w337 : Cond.selects "ShelfSlots$Shed" ⟨"ShelfSlots$Shed", "swapByHand", "(II)I"⟩ ⟨"ShelfSlots$Shed", "swapByHand", "(II)I"⟩ ∈ m_wt := m_p2_wt (j := 88) rfl
theorem m_w338 : Cond.code ⟨"ShelfSlots$Shed", "swapByHand", "(II)I"⟩ prog_9_method_7_code 3 (some .int) ∈ m_wt := m_p2_wt (j := 89) rfl
theorem m_w339 : Cond.methodLink "ShelfSlots$Shed" 81 ⟨"ShelfSlots$Shed", "swapCounted", "(II)I"⟩ ∈ m_wt := m_p2_wt (j := 90) rfl
theorem m_w340 : Cond.instanceMethod ⟨"ShelfSlots$Shed", "swapCounted", "(II)I"⟩ ∈ m_wt := m_p2_wt (j := 91) rfl
theorem m_w341 : Cond.selects "ShelfSlots$Shed" ⟨"ShelfSlots$Shed", "swapCounted", "(II)I"⟩ ⟨"ShelfSlots$Shed", "swapCounted", "(II)I"⟩ ∈ m_wt := m_p2_wt (j := 92) rfl
theorem m_w342 : Cond.code ⟨"ShelfSlots$Shed", "swapCounted", "(II)I"⟩ prog_9_method_9_code 3 (some .int) ∈ m_wt := m_p2_wt (j := 93) rfl
theorem m_w343 : Cond.methodLink "ShelfSlots$Shed" 88 ⟨"ShelfSlots$Shed", "exchange", "(II)V"⟩ ∈ m_wt := m_p2_wt (j := 94) rfl
theorem m_w344 : Cond.instanceMethod ⟨"ShelfSlots$Shed", "exchange", "(II)V"⟩ ∈ m_wt := m_p2_wt (j := 95) rfl
theorem m_w345 : Cond.selects "ShelfSlots$Shed" ⟨"ShelfSlots$Shed", "exchange", "(II)V"⟩ ⟨"ShelfSlots$Shed", "exchange", "(II)V"⟩ ∈ m_wt := m_p2_wt (j := 96) rfl
theorem m_w346 : Cond.code ⟨"ShelfSlots$Shed", "exchange", "(II)V"⟩ prog_9_method_11_code 4 (none) ∈ m_wt := m_p2_wt (j := 97) rfl
theorem m_w347 : Cond.methodLink "ShelfSlots$Shed" 96 ⟨"ShelfSlots$Shed", "stand", "(II)V"⟩ ∈ m_wt := m_p2_wt (j := 98) rfl
theorem m_w349 : Cond.instanceMethod ⟨"ShelfSlots$Shed", "stand", "(II)V"⟩ ∈ m_wt := m_p2_wt (j := 99) rfl
theorem m_w350 : Cond.code ⟨"ShelfSlots$Shed", "stand", "(II)V"⟩ prog_9_method_12_code 3 (none) ∈ m_wt := m_p2_wt (j := 100) rfl
theorem m_w351 : Cond.methodLink "ShelfSlots$Shed" 92 ⟨"ShelfSlots$Shed", "countSwap", "(I)I"⟩ ∈ m_wt := m_p2_wt (j := 101) rfl
theorem m_w353 : Cond.instanceMethod ⟨"ShelfSlots$Shed", "countSwap", "(I)I"⟩ ∈ m_wt := m_p2_wt (j := 102) rfl
theorem m_w354 : Cond.code ⟨"ShelfSlots$Shed", "countSwap", "(I)I"⟩ prog_9_method_10_code 2 (some .int) ∈ m_wt := m_p2_wt (j := 103) rfl
theorem m_w355 : Cond.methodLink "ShelfSlotsLaw" 26 ⟨"ShelfSlots", "close", "(I)I"⟩ ∈ m_wt := m_p2_wt (j := 104) rfl
theorem m_w356 : Cond.instanceMethod ⟨"ShelfSlots", "close", "(I)I"⟩ ∈ m_wt := m_p2_wt (j := 105) rfl
theorem m_w357 : Cond.selects "ShelfSlots" ⟨"ShelfSlots", "close", "(I)I"⟩ ⟨"ShelfSlots", "close", "(I)I"⟩ ∈ m_wt := m_p2_wt (j := 106) rfl
theorem m_w358 : Cond.code ⟨"ShelfSlots", "close", "(I)I"⟩ prog_1_method_5_code 2 (some .int) ∈ m_wt := m_p2_wt (j := 107) rfl
theorem m_w359 : Cond.methodLink "ShelfSlots" 75 ⟨"ShelfSlots$Shed", "closeOrOpen", "(I)I"⟩ ∈ m_wt := m_p2_wt (j := 108) rfl
theorem m_w360 : Cond.instanceMethod ⟨"ShelfSlots$Shed", "closeOrOpen", "(I)I"⟩ ∈ m_wt := m_p2_wt (j := 109) rfl
theorem m_w361 : Cond.selects "ShelfSlots$Shed" ⟨"ShelfSlots$Shed", "closeOrOpen", "(I)I"⟩ ⟨"ShelfSlots$Shed", "closeOrOpen", "(I)I"⟩ ∈ m_wt := m_p2_wt (j := 110) rfl
theorem m_w362 : Cond.code ⟨"ShelfSlots$Shed", "closeOrOpen", "(I)I"⟩ prog_9_method_8_code 2 (some .int) ∈ m_wt := m_p2_wt (j := 111) rfl
theorem m_w363 : Cond.methodLink "ShelfSlots$Shed" 85 ⟨"ShelfSlots$Shed", "isClosed", "(I)Z"⟩ ∈ m_wt := m_p2_wt (j := 112) rfl
theorem m_w364 : Cond.instanceMethod ⟨"ShelfSlots$Shed", "isClosed", "(I)Z"⟩ ∈ m_wt := m_p2_wt (j := 113) rfl
theorem m_w365 : Cond.selects "ShelfSlots$Shed" ⟨"ShelfSlots$Shed", "isClosed", "(I)Z"⟩ ⟨"ShelfSlots$Shed", "isClosed", "(I)Z"⟩ ∈ m_wt := m_p2_wt (j := 114) rfl
theorem m_w366 : Cond.code ⟨"ShelfSlots$Shed", "isClosed", "(I)Z"⟩ prog_9_method_4_code 2 (some .boolean) ∈ m_wt := m_p2_wt (j := 115) rfl
theorem m_w367 : Cond.methodLink "ShelfSlotsLaw" 29 ⟨"ShelfSlots", "set", "(II)I"⟩ ∈ m_wt := m_p2_wt (j := 116) rfl
theorem m_w368 : Cond.instanceMethod ⟨"ShelfSlots", "set", "(II)I"⟩ ∈ m_wt := m_p2_wt (j := 117) rfl
theorem m_w369 : Cond.selects "ShelfSlots" ⟨"ShelfSlots", "set", "(II)I"⟩ ⟨"ShelfSlots", "set", "(II)I"⟩ ∈ m_wt := m_p2_wt (j := 118) rfl
theorem m_w370 : Cond.code ⟨"ShelfSlots", "set", "(II)I"⟩ prog_1_method_2_code 3 (some .int) ∈ m_wt := m_p2_wt (j := 119) rfl
theorem m_w371 : Cond.methodLink "ShelfSlots" 61 ⟨"ShelfSlots$Shed", "changeSetting", "(II)I"⟩ ∈ m_wt := m_p2_wt (j := 120) rfl
theorem m_w372 : Cond.instanceMethod ⟨"ShelfSlots$Shed", "changeSetting", "(II)I"⟩ ∈ m_wt := m_p2_wt (j := 121) rfl
theorem m_w373 : Cond.selects "ShelfSlots$Shed" ⟨"ShelfSlots$Shed", "changeSetting", "(II)I"⟩ ⟨"ShelfSlots$Shed", "changeSetting", "(II)I"⟩ ∈ m_wt := m_p2_wt (j := 122) rfl
theorem m_w374 : Cond.code ⟨"ShelfSlots$Shed", "changeSetting", "(II)I"⟩ prog_9_method_5_code 6 (some .int) ∈ m_wt := m_p2_wt (j := 123) rfl
theorem m_w375 : Cond.methodLink "ShelfSlotsLaw" 32 ⟨"ShelfSlots", "night", "()I"⟩ ∈ m_wt := m_p2_wt (j := 124) rfl
theorem m_w376 : Cond.instanceMethod ⟨"ShelfSlots", "night", "()I"⟩ ∈ m_wt := m_p2_wt (j := 125) rfl
theorem m_w377 : Cond.selects "ShelfSlots" ⟨"ShelfSlots", "night", "()I"⟩ ⟨"ShelfSlots", "night", "()I"⟩ ∈ m_wt := m_p2_wt (j := 126) rfl
theorem m_w378 : Cond.code ⟨"ShelfSlots", "night", "()I"⟩ prog_1_method_7_code 1 (some .int) ∈ m_wt := m_p2_wt (j := 127) rfl
theorem m_w379 : Cond.methodLink "ShelfSlots" 81 ⟨"ShelfSlots$Mover", "passNight", "(LShelfSlots$Shed;)I"⟩ ∈ m_wt := m_p2_wt (j := 128) rfl
theorem m_w380 : Cond.instanceMethod ⟨"ShelfSlots$Mover", "passNight", "(LShelfSlots$Shed;)I"⟩ ∈ m_wt := m_p2_wt (j := 129) rfl
theorem m_w381 : Cond.selects "ShelfSlots$Mover" ⟨"ShelfSlots$Mover", "passNight", "(LShelfSlots$Shed;)I"⟩ ⟨"ShelfSlots$Mover", "passNight", "(LShelfSlots$Shed;)I"⟩ ∈ m_wt := m_p2_wt (j := 130) rfl
theorem m_w382 : Cond.code ⟨"ShelfSlots$Mover", "passNight", "(LShelfSlots$Shed;)I"⟩ prog_6_method_2_code 3 (some .int) ∈ m_wt := m_p2_wt (j := 131) rfl
theorem m_w383 : Cond.methodLink "ShelfSlots$Mover" 21 ⟨"ShelfSlots$Shed", "ageSpeeds", "()V"⟩ ∈ m_wt := m_p2_wt (j := 132) rfl
theorem m_w384 : Cond.instanceMethod ⟨"ShelfSlots$Shed", "ageSpeeds", "()V"⟩ ∈ m_wt := m_p2_wt (j := 133) rfl
theorem m_w385 : Cond.selects "ShelfSlots$Shed" ⟨"ShelfSlots$Shed", "ageSpeeds", "()V"⟩ ⟨"ShelfSlots$Shed", "ageSpeeds", "()V"⟩ ∈ m_wt := m_p2_wt (j := 134) rfl
theorem m_w386 : Cond.code ⟨"ShelfSlots$Shed", "ageSpeeds", "()V"⟩ prog_9_method_23_code 4 (none) ∈ m_wt := m_p2_wt (j := 135) rfl
theorem m_w387 : Cond.constantFloat "ShelfSlots$Shed" 129 1120403456 ∈ m_wt := m_p2_wt (j := 136) rfl
theorem m_w388 : Cond.methodLink "ShelfSlots$Mover" 28 ⟨"ShelfSlots$Mover", "findSwap", "(LShelfSlots$Shed;)Z"⟩ ∈ m_wt := m_p2_wt (j := 137) rfl
theorem m_w389 : Cond.instanceMethod ⟨"ShelfSlots$Mover", "findSwap", "(LShelfSlots$Shed;)Z"⟩ ∈ m_wt := m_p2_wt (j := 138) rfl
theorem m_w390 : Cond.selects "ShelfSlots$Mover" ⟨"ShelfSlots$Mover", "findSwap", "(LShelfSlots$Shed;)Z"⟩ ⟨"ShelfSlots$Mover", "findSwap", "(LShelfSlots$Shed;)Z"⟩ ∈ m_wt := m_p2_wt (j := 139) rfl
theorem m_w391 : Cond.code ⟨"ShelfSlots$Mover", "findSwap", "(LShelfSlots$Shed;)Z"⟩ prog_6_method_3_code 7 (some .boolean) ∈ m_wt := m_p2_wt (j := 140) rfl
theorem m_w392 : Cond.methodLink "ShelfSlots$Mover" 48 ⟨"ShelfSlots$Shed", "weight", "()F"⟩ ∈ m_wt := m_p2_wt (j := 141) rfl
theorem m_w393 : Cond.methodLink "ShelfSlots$Mover" 52 ⟨"ShelfSlots$Walker", "togetherOf", "(LShelfSlots$Shed;)I"⟩ ∈ m_wt := m_p2_wt (j := 142) rfl
theorem m_w394 : Cond.instanceMethod ⟨"ShelfSlots$Walker", "togetherOf", "(LShelfSlots$Shed;)I"⟩ ∈ m_wt := m_p2_wt (j := 143) rfl
theorem m_w395 : Cond.selects "ShelfSlots$Walker" ⟨"ShelfSlots$Walker", "togetherOf", "(LShelfSlots$Shed;)I"⟩ ⟨"ShelfSlots$Walker", "togetherOf", "(LShelfSlots$Shed;)I"⟩ ∈ m_wt := m_p2_wt (j := 144) rfl
theorem m_w396 : Cond.code ⟨"ShelfSlots$Walker", "togetherOf", "(LShelfSlots$Shed;)I"⟩ prog_10_method_4_code 4 (some .int) ∈ m_wt := m_p2_wt (j := 145) rfl
theorem m_w397 : Cond.methodLink "ShelfSlots$Walker" 51 ⟨"ShelfSlots$Walker", "lengthOf", "(LShelfSlots$Shed;I)I"⟩ ∈ m_wt := m_p2_wt (j := 146) rfl
theorem m_w398 : Cond.instanceMethod ⟨"ShelfSlots$Walker", "lengthOf", "(LShelfSlots$Shed;I)I"⟩ ∈ m_wt := m_p2_wt (j := 147) rfl
theorem m_w399 : Cond.selects "ShelfSlots$Walker" ⟨"ShelfSlots$Walker", "lengthOf", "(LShelfSlots$Shed;I)I"⟩ ⟨"ShelfSlots$Walker", "lengthOf", "(LShelfSlots$Shed;I)I"⟩ ∈ m_wt := m_p2_wt (j := 148) rfl
theorem m_w400 : Cond.code ⟨"ShelfSlots$Walker", "lengthOf", "(LShelfSlots$Shed;I)I"⟩ prog_10_method_2_code 10 (some .int) ∈ m_wt := m_p2_wt (j := 149) rfl
theorem m_w401 : Cond.methodLink "ShelfSlots$Walker" 15 ⟨"ShelfSlots$Walker", "listGoods", "(I)V"⟩ ∈ m_wt := m_p2_wt (j := 150) rfl
theorem m_w403 : Cond.instanceMethod ⟨"ShelfSlots$Walker", "listGoods", "(I)V"⟩ ∈ m_wt := m_p2_wt (j := 151) rfl
theorem m_w404 : Cond.code ⟨"ShelfSlots$Walker", "listGoods", "(I)V"⟩ prog_10_method_5_code 3 (none) ∈ m_wt := m_p2_wt (j := 152) rfl
theorem m_w405 : Cond.constant "ShelfSlots$Walker" 23 1000000 ∈ m_wt := m_p2_wt (j := 153) rfl
theorem m_w406 : Cond.methodLink "ShelfSlots$Walker" 29 ⟨"ShelfSlots$Shed", "stepsBetween", "(II)I"⟩ ∈ m_wt := m_p2_wt (j := 154) rfl
theorem m_w407 : Cond.instanceMethod ⟨"ShelfSlots$Shed", "stepsBetween", "(II)I"⟩ ∈ m_wt := m_p2_wt (j := 155) rfl
theorem m_w408 : Cond.selects "ShelfSlots$Shed" ⟨"ShelfSlots$Shed", "stepsBetween", "(II)I"⟩ ⟨"ShelfSlots$Shed", "stepsBetween", "(II)I"⟩ ∈ m_wt := m_p2_wt (j := 156) rfl
theorem m_w409 : Cond.code ⟨"ShelfSlots$Shed", "stepsBetween", "(II)I"⟩ prog_9_method_14_code 4 (some .int) ∈ m_wt := m_p2_wt (j := 157) rfl
theorem m_w410 : Cond.methodLink "ShelfSlots$Walker" 33 ⟨"ShelfSlots$Walker", "moveUp", "(II)V"⟩ ∈ m_wt := m_p2_wt (j := 158) rfl
theorem m_w412 : Cond.instanceMethod ⟨"ShelfSlots$Walker", "moveUp", "(II)V"⟩ ∈ m_wt := m_p2_wt (j := 159) rfl
theorem m_w413 : Cond.code ⟨"ShelfSlots$Walker", "moveUp", "(II)V"⟩ prog_10_method_6_code 5 (none) ∈ m_wt := m_p2_wt (j := 160) rfl
theorem m_w414 : Cond.methodLink "ShelfSlots$Walker" 37 ⟨"ShelfSlots$Shed", "deskSteps", "(I)I"⟩ ∈ m_wt := m_p2_wt (j := 161) rfl
theorem m_w415 : Cond.methodLink "ShelfSlots$Mover" 58 ⟨"ShelfSlots$Shed", "mayMoveByNight", "(II)Z"⟩ ∈ m_wt := m_p2_wt (j := 162) rfl
theorem m_w416 : Cond.instanceMethod ⟨"ShelfSlots$Shed", "mayMoveByNight", "(II)Z"⟩ ∈ m_wt := m_p2_wt (j := 163) rfl
theorem m_w417 : Cond.selects "ShelfSlots$Shed" ⟨"ShelfSlots$Shed", "mayMoveByNight", "(II)Z"⟩ ⟨"ShelfSlots$Shed", "mayMoveByNight", "(II)Z"⟩ ∈ m_wt := m_p2_wt (j := 164) rfl
theorem m_w418 : Cond.code ⟨"ShelfSlots$Shed", "mayMoveByNight", "(II)Z"⟩ prog_9_method_13_code 4 (some .boolean) ∈ m_wt := m_p2_wt (j := 165) rfl
theorem m_w419 : Cond.methodLink "ShelfSlots$Mover" 62 ⟨"ShelfSlots$Shed", "exchange", "(II)V"⟩ ∈ m_wt := m_p2_wt (j := 166) rfl
theorem m_w420 : Cond.methodLink "ShelfSlots$Mover" 38 ⟨"ShelfSlots$Shed", "swapCounted", "(II)I"⟩ ∈ m_wt := m_p2_wt (j := 167) rfl
theorem m_w421 : Cond.methodLink "ShelfSlots$Mover" 45 ⟨"ShelfSlots$Shed", "endDay", "()V"⟩ ∈ m_wt := m_p2_wt (j := 168) rfl
theorem m_w422 : Cond.instanceMethod ⟨"ShelfSlots$Shed", "endDay", "()V"⟩ ∈ m_wt := m_p2_wt (j := 169) rfl
theorem m_w423 : Cond.selects "ShelfSlots$Shed" ⟨"ShelfSlots$Shed", "endDay", "()V"⟩ ⟨"ShelfSlots$Shed", "endDay", "()V"⟩ ∈ m_wt := m_p2_wt (j := 170) rfl
theorem m_w424 : Cond.code ⟨"ShelfSlots$Shed", "endDay", "()V"⟩ prog_9_method_24_code 2 (none) ∈ m_wt := m_p2_wt (j := 171) rfl
theorem m_w425 : Cond.methodLink "ShelfSlotsLaw" 36 ⟨"ShelfSlots", "pick", "(I)I"⟩ ∈ m_wt := m_p2_wt (j := 172) rfl
theorem m_w426 : Cond.instanceMethod ⟨"ShelfSlots", "pick", "(I)I"⟩ ∈ m_wt := m_p2_wt (j := 173) rfl
theorem m_w427 : Cond.selects "ShelfSlots" ⟨"ShelfSlots", "pick", "(I)I"⟩ ⟨"ShelfSlots", "pick", "(I)I"⟩ ∈ m_wt := m_p2_wt (j := 174) rfl
theorem m_w428 : Cond.code ⟨"ShelfSlots", "pick", "(I)I"⟩ prog_1_method_6_code 2 (some .int) ∈ m_wt := m_p2_wt (j := 175) rfl
theorem m_w429 : Cond.methodLink "ShelfSlots" 78 ⟨"ShelfSlots", "pickBasket", "(I)I"⟩ ∈ m_wt := m_p2_wt (j := 176) rfl
theorem m_w431 : Cond.instanceMethod ⟨"ShelfSlots", "pickBasket", "(I)I"⟩ ∈ m_wt := m_p2_wt (j := 177) rfl
theorem m_w432 : Cond.code ⟨"ShelfSlots", "pickBasket", "(I)I"⟩ prog_1_method_30_code 4 (some .int) ∈ m_wt := m_p2_wt (j := 178) rfl
theorem m_w433 : Cond.methodLink "ShelfSlots" 150 ⟨"ShelfSlots", "errorOfBasket", "(I)I"⟩ ∈ m_wt := m_p2_wt (j := 179) rfl
theorem m_w435 : Cond.instanceMethod ⟨"ShelfSlots", "errorOfBasket", "(I)I"⟩ ∈ m_wt := m_p2_wt (j := 180) rfl
theorem m_w436 : Cond.code ⟨"ShelfSlots", "errorOfBasket", "(I)I"⟩ prog_1_method_29_code 3 (some .int) ∈ m_wt := m_p2_wt (j := 181) rfl
theorem m_w437 : Cond.methodLink "ShelfSlots" 257 ⟨"java/lang/Integer", "bitCount", "(I)I"⟩ ∈ m_wt := m_p2_wt (j := 182) rfl
theorem m_w438 : Cond.static ⟨"java/lang/Integer", "bitCount", "(I)I"⟩ ∈ m_wt := m_p2_wt (j := 183) rfl
theorem m_w439 : Cond.code ⟨"java/lang/Integer", "bitCount", "(I)I"⟩ prog_13_method_49_code 1 (some .int) ∈ m_wt := m_p2_wt (j := 184) rfl
theorem m_w440 : Cond.constant "java/lang/Integer" 265 1431655765 ∈ m_wt := m_p2_wt (j := 185) rfl
theorem m_w441 : Cond.constant "java/lang/Integer" 266 858993459 ∈ m_wt := m_p2_wt (j := 186) rfl
theorem m_w442 : Cond.constant "java/lang/Integer" 267 252645135 ∈ m_wt := m_p2_wt (j := 187) rfl
theorem m_w443 : Cond.methodLink "ShelfSlots" 146 ⟨"ShelfSlots$Walker", "lengthOf", "(LShelfSlots$Shed;I)I"⟩ ∈ m_wt := m_p2_wt (j := 188) rfl
theorem m_w444 : Cond.methodLink "ShelfSlots" 262 ⟨"ShelfSlots$Shed", "notePicked", "(II)V"⟩ ∈ m_wt := m_p2_wt (j := 189) rfl
theorem m_w445 : Cond.instanceMethod ⟨"ShelfSlots$Shed", "notePicked", "(II)V"⟩ ∈ m_wt := m_p2_wt (j := 190) rfl
theorem m_w446 : Cond.selects "ShelfSlots$Shed" ⟨"ShelfSlots$Shed", "notePicked", "(II)V"⟩ ⟨"ShelfSlots$Shed", "notePicked", "(II)V"⟩ ∈ m_wt := m_p2_wt (j := 191) rfl
theorem m_w447 : Cond.code ⟨"ShelfSlots$Shed", "notePicked", "(II)V"⟩ prog_9_method_20_code 5 (none) ∈ m_wt := m_p2_wt (j := 192) rfl
theorem m_w448 : Cond.classLink "ShelfSlots$Shed" 102 "ShelfSlots$Picked" ∈ m_wt := m_p2_wt (j := 193) rfl
theorem m_w449 : Cond.instantiable "ShelfSlots$Picked" 4 ∈ m_wt := m_p2_wt (j := 194) rfl
theorem m_w450 : Cond.methodLink "ShelfSlots$Shed" 104 ⟨"ShelfSlots$Shed", "timesPicked", "(I)I"⟩ ∈ m_wt := m_p2_wt (j := 195) rfl
theorem m_w451 : Cond.instanceMethod ⟨"ShelfSlots$Shed", "timesPicked", "(I)I"⟩ ∈ m_wt := m_p2_wt (j := 196) rfl
theorem m_w452 : Cond.selects "ShelfSlots$Shed" ⟨"ShelfSlots$Shed", "timesPicked", "(I)I"⟩ ⟨"ShelfSlots$Shed", "timesPicked", "(I)I"⟩ ∈ m_wt := m_p2_wt (j := 197) rfl
theorem m_w453 : Cond.code ⟨"ShelfSlots$Shed", "timesPicked", "(I)I"⟩ prog_9_method_21_code 3 (some .int) ∈ m_wt := m_p2_wt (j := 198) rfl
theorem m_w454 : Cond.methodLink "ShelfSlots$Shed" 107 ⟨"ShelfSlots$Shed", "unlikeBaskets", "()I"⟩ ∈ m_wt := m_p2_wt (j := 199) rfl
theorem m_w455 : Cond.methodLink "ShelfSlots$Shed" 111 ⟨"ShelfSlots$Picked", "<init>", "(IIILShelfSlots$Picked;)V"⟩ ∈ m_wt := m_p2_wt (j := 200) rfl
theorem m_w456 : Cond.instanceMethod ⟨"ShelfSlots$Picked", "<init>", "(IIILShelfSlots$Picked;)V"⟩ ∈ m_wt := m_p2_wt (j := 201) rfl
theorem m_w457 : Cond.code ⟨"ShelfSlots$Picked", "<init>", "(IIILShelfSlots$Picked;)V"⟩ prog_8_method_1_code 5 (none) ∈ m_wt := m_p2_wt (j := 202) rfl
theorem m_w458 : Cond.methodLink "ShelfSlots$Picked" 1 ⟨"java/lang/Object", "<init>", "()V"⟩ ∈ m_wt := m_p2_wt (j := 203) rfl
theorem m_w459 : Cond.fieldLink "ShelfSlots$Picked" 7 "ShelfSlots$Picked" "basket" "I" ∈ m_wt := m_p2_wt (j := 204) rfl
theorem m_w460 : Cond.fieldLink "ShelfSlots$Shed" 117 "ShelfSlots$Picked" "basket" "I" ∈ m_wt := m_p2_wt (j := 205) rfl
theorem m_w461 : Cond.fieldLink "ShelfSlots$Picked" 13 "ShelfSlots$Picked" "times" "I" ∈ m_wt := m_p2_wt (j := 206) rfl
theorem m_w462 : Cond.fieldLink "ShelfSlots$Shed" 120 "ShelfSlots$Picked" "times" "I" ∈ m_wt := m_p2_wt (j := 207) rfl
theorem m_w463 : Cond.fieldLink "ShelfSlots$Picked" 16 "ShelfSlots$Picked" "unlike" "I" ∈ m_wt := m_p2_wt (j := 208) rfl
theorem m_w464 : Cond.fieldLink "ShelfSlots$Shed" 126 "ShelfSlots$Picked" "unlike" "I" ∈ m_wt := m_p2_wt (j := 209) rfl
theorem m_w465 : Cond.fieldLink "ShelfSlots$Picked" 19 "ShelfSlots$Picked" "before" "LShelfSlots$Picked;" ∈ m_wt := m_p2_wt (j := 210) rfl
theorem m_w466 : Cond.fieldLink "ShelfSlots$Shed" 123 "ShelfSlots$Picked" "before" "LShelfSlots$Picked;" ∈ m_wt := m_p2_wt (j := 211) rfl
theorem m_w467 : Cond.laysFinal "ShelfSlots$Picked" "ShelfSlots$Picked" "basket" "I" ∈ m_wt := m_p2_wt (j := 212) rfl
theorem m_w469 : Cond.laysFinal "ShelfSlots$Picked" "ShelfSlots$Picked" "times" "I" ∈ m_wt := m_p2_wt (j := 213) rfl
theorem m_w471 : Cond.laysFinal "ShelfSlots$Picked" "ShelfSlots$Picked" "unlike" "I" ∈ m_wt := m_p2_wt (j := 214) rfl
theorem m_w473 : Cond.laysFinal "ShelfSlots$Picked" "ShelfSlots$Picked" "before" "LShelfSlots$Picked;" ∈ m_wt := m_p2_wt (j := 215) rfl
theorem m_w476 : Cond.methodLink "ShelfSlots$Shed" 114 ⟨"ShelfSlots$Day", "add", "(II)V"⟩ ∈ m_wt := m_p2_wt (j := 216) rfl
theorem m_w477 : Cond.instanceMethod ⟨"ShelfSlots$Day", "add", "(II)V"⟩ ∈ m_wt := m_p2_wt (j := 217) rfl
theorem m_w478 : Cond.selects "ShelfSlots$Day" ⟨"ShelfSlots$Day", "add", "(II)V"⟩ ⟨"ShelfSlots$Day", "add", "(II)V"⟩ ∈ m_wt := m_p2_wt (j := 218) rfl
theorem m_w479 : Cond.code ⟨"ShelfSlots$Day", "add", "(II)V"⟩ prog_3_method_3_code 3 (none) ∈ m_wt := m_p2_wt (j := 219) rfl
theorem m_w480 : Cond.methodLink "ShelfSlotsLaw" 86 ⟨"ShelfSlotsLaw", "areAlike", "(LShelfSlots;LShelfSlots;)Z"⟩ ∈ m_wt := m_p2_wt (j := 220) rfl
theorem m_w481 : Cond.static ⟨"ShelfSlotsLaw", "areAlike", "(LShelfSlots;LShelfSlots;)Z"⟩ ∈ m_wt := m_p2_wt (j := 221) rfl
theorem m_w482 : Cond.code ⟨"ShelfSlotsLaw", "areAlike", "(LShelfSlots;LShelfSlots;)Z"⟩ method_5_code 4 (some .boolean) ∈ m_wt := m_p2_wt (j := 222) rfl
theorem m_w483 : Cond.methodLink "ShelfSlotsLaw" 39 ⟨"ShelfSlots", "meanSpeed", "()J"⟩ ∈ m_wt := m_p2_wt (j := 223) rfl
theorem m_w484 : Cond.instanceMethod ⟨"ShelfSlots", "meanSpeed", "()J"⟩ ∈ m_wt := m_p2_wt (j := 224) rfl
theorem m_w485 : Cond.selects "ShelfSlots" ⟨"ShelfSlots", "meanSpeed", "()J"⟩ ⟨"ShelfSlots", "meanSpeed", "()J"⟩ ∈ m_wt := m_p2_wt (j := 225) rfl
theorem m_w486 : Cond.code ⟨"ShelfSlots", "meanSpeed", "()J"⟩ prog_1_method_14_code 1 (some .long) ∈ m_wt := m_p2_wt (j := 226) rfl
theorem m_w487 : Cond.methodLink "ShelfSlots" 191 ⟨"ShelfSlots$Shed", "mean", "()D"⟩ ∈ m_wt := m_p2_wt (j := 227) rfl
theorem m_w488 : Cond.instanceMethod ⟨"ShelfSlots$Shed", "mean", "()D"⟩ ∈ m_wt := m_p3_wt (j := 0) rfl
theorem m_w489 : Cond.selects "ShelfSlots$Shed" ⟨"ShelfSlots$Shed", "mean", "()D"⟩ ⟨"ShelfSlots$Shed", "mean", "()D"⟩ ∈ m_wt := m_p3_wt (j := 1) rfl
theorem m_w490 : Cond.code ⟨"ShelfSlots$Shed", "mean", "()D"⟩ prog_9_method_17_code 4 (some .double) ∈ m_wt := m_p3_wt (j := 2) rfl
theorem m_w491 : Cond.methodLink "ShelfSlots" 195 ⟨"ShelfSlots$Bits", "ofDouble", "(D)J"⟩ ∈ m_wt := m_p3_wt (j := 3) rfl
theorem m_w492 : Cond.static ⟨"ShelfSlots$Bits", "ofDouble", "(D)J"⟩ ∈ m_wt := m_p3_wt (j := 4) rfl
theorem m_w493 : Cond.code ⟨"ShelfSlots$Bits", "ofDouble", "(D)J"⟩ prog_2_method_3_code 5 (some .long) ∈ m_wt := m_p3_wt (j := 5) rfl
theorem m_w494 : Cond.constantDouble "ShelfSlots$Bits" 26 4841369599423283200 ∈ m_wt := m_p3_wt (j := 6) rfl
theorem m_w495 : Cond.constantLong "ShelfSlots$Bits" 28 4503599627370496 ∈ m_wt := m_p3_wt (j := 7) rfl
theorem m_w496 : Cond.methodLink "ShelfSlotsLaw" 43 ⟨"ShelfSlots", "of", "(II)I"⟩ ∈ m_wt := m_p3_wt (j := 8) rfl
theorem m_w497 : Cond.instanceMethod ⟨"ShelfSlots", "of", "(II)I"⟩ ∈ m_wt := m_p3_wt (j := 9) rfl
theorem m_w498 : Cond.selects "ShelfSlots" ⟨"ShelfSlots", "of", "(II)I"⟩ ⟨"ShelfSlots", "of", "(II)I"⟩ ∈ m_wt := m_p3_wt (j := 10) rfl
theorem m_w499 : Cond.code ⟨"ShelfSlots", "of", "(II)I"⟩ prog_1_method_8_code 3 (some .int) ∈ m_wt := m_p3_wt (j := 11) rfl
theorem m_w500 : Cond.methodLink "ShelfSlots" 109 ⟨"ShelfSlots$Shed", "deskSteps", "(I)I"⟩ ∈ m_wt := m_p3_wt (j := 12) rfl
theorem m_w501 : Cond.methodLink "ShelfSlotsLaw" 46 ⟨"ShelfSlots", "basket", "(III)I"⟩ ∈ m_wt := m_p3_wt (j := 13) rfl
theorem m_w502 : Cond.instanceMethod ⟨"ShelfSlots", "basket", "(III)I"⟩ ∈ m_wt := m_p3_wt (j := 14) rfl
theorem m_w503 : Cond.selects "ShelfSlots" ⟨"ShelfSlots", "basket", "(III)I"⟩ ⟨"ShelfSlots", "basket", "(III)I"⟩ ∈ m_wt := m_p3_wt (j := 15) rfl
theorem m_w504 : Cond.code ⟨"ShelfSlots", "basket", "(III)I"⟩ prog_1_method_11_code 5 (some .int) ∈ m_wt := m_p3_wt (j := 16) rfl
theorem m_w505 : Cond.methodLink "ShelfSlotsLaw" 90 ⟨"ShelfSlotsLaw", "areSums", "(LShelfSlots;)Z"⟩ ∈ m_wt := m_p3_wt (j := 17) rfl
theorem m_w506 : Cond.static ⟨"ShelfSlotsLaw", "areSums", "(LShelfSlots;)Z"⟩ ∈ m_wt := m_p3_wt (j := 18) rfl
theorem m_w507 : Cond.code ⟨"ShelfSlotsLaw", "areSums", "(LShelfSlots;)Z"⟩ method_6_code 10 (some .boolean) ∈ m_wt := m_p3_wt (j := 19) rfl
theorem m_w508 : Cond.methodLink "ShelfSlotsLaw" 50 ⟨"ShelfSlots", "ofSlot", "(II)I"⟩ ∈ m_wt := m_p3_wt (j := 20) rfl
theorem m_w509 : Cond.instanceMethod ⟨"ShelfSlots", "ofSlot", "(II)I"⟩ ∈ m_wt := m_p3_wt (j := 21) rfl
theorem m_w510 : Cond.selects "ShelfSlots" ⟨"ShelfSlots", "ofSlot", "(II)I"⟩ ⟨"ShelfSlots", "ofSlot", "(II)I"⟩ ∈ m_wt := m_p3_wt (j := 22) rfl
theorem m_w511 : Cond.code ⟨"ShelfSlots", "ofSlot", "(II)I"⟩ prog_1_method_9_code 3 (some .int) ∈ m_wt := m_p3_wt (j := 23) rfl
theorem m_w512 : Cond.methodLink "ShelfSlots" 115 ⟨"ShelfSlots$Shed", "isSlot", "(I)Z"⟩ ∈ m_wt := m_p3_wt (j := 24) rfl
theorem m_w513 : Cond.methodLink "ShelfSlots" 122 ⟨"ShelfSlots$Shed", "isClosed", "(I)Z"⟩ ∈ m_wt := m_p3_wt (j := 25) rfl
theorem m_w514 : Cond.methodLink "ShelfSlotsLaw" 53 ⟨"ShelfSlots", "steps", "(II)I"⟩ ∈ m_wt := m_p3_wt (j := 26) rfl
theorem m_w515 : Cond.instanceMethod ⟨"ShelfSlots", "steps", "(II)I"⟩ ∈ m_wt := m_p3_wt (j := 27) rfl
theorem m_w516 : Cond.selects "ShelfSlots" ⟨"ShelfSlots", "steps", "(II)I"⟩ ⟨"ShelfSlots", "steps", "(II)I"⟩ ∈ m_wt := m_p3_wt (j := 28) rfl
theorem m_w517 : Cond.code ⟨"ShelfSlots", "steps", "(II)I"⟩ prog_1_method_10_code 3 (some .int) ∈ m_wt := m_p3_wt (j := 29) rfl
theorem m_w518 : Cond.methodLink "ShelfSlots" 125 ⟨"ShelfSlots$Shed", "stepsBetween", "(II)I"⟩ ∈ m_wt := m_p3_wt (j := 30) rfl
theorem m_w519 : Cond.methodLink "ShelfSlotsLaw" 56 ⟨"ShelfSlots", "often", "(I)I"⟩ ∈ m_wt := m_p3_wt (j := 31) rfl
theorem m_w520 : Cond.instanceMethod ⟨"ShelfSlots", "often", "(I)I"⟩ ∈ m_wt := m_p3_wt (j := 32) rfl
theorem m_w521 : Cond.selects "ShelfSlots" ⟨"ShelfSlots", "often", "(I)I"⟩ ⟨"ShelfSlots", "often", "(I)I"⟩ ∈ m_wt := m_p3_wt (j := 33) rfl
theorem m_w522 : Cond.code ⟨"ShelfSlots", "often", "(I)I"⟩ prog_1_method_12_code 3 (some .int) ∈ m_wt := m_p3_wt (j := 34) rfl
theorem m_w523 : Cond.methodLink "ShelfSlots" 153 ⟨"ShelfSlots$Shed", "timesPicked", "(I)I"⟩ ∈ m_wt := m_p3_wt (j := 35) rfl
theorem m_w524 : Cond.methodLink "ShelfSlotsLaw" 59 ⟨"ShelfSlots", "walk", "(I)I"⟩ ∈ m_wt := m_p3_wt (j := 36) rfl
theorem m_w525 : Cond.instanceMethod ⟨"ShelfSlots", "walk", "(I)I"⟩ ∈ m_wt := m_p3_wt (j := 37) rfl
theorem m_w526 : Cond.selects "ShelfSlots" ⟨"ShelfSlots", "walk", "(I)I"⟩ ⟨"ShelfSlots", "walk", "(I)I"⟩ ∈ m_wt := m_p3_wt (j := 38) rfl
theorem m_w527 : Cond.code ⟨"ShelfSlots", "walk", "(I)I"⟩ prog_1_method_15_code 3 (some .int) ∈ m_wt := m_p3_wt (j := 39) rfl
theorem m_w528 : Cond.methodLink "ShelfSlotsLaw" 98 ⟨"ShelfSlotsLaw", "isNightSo", "(LShelfSlots;)Z"⟩ ∈ m_wt := m_p3_wt (j := 40) rfl
theorem m_w529 : Cond.static ⟨"ShelfSlotsLaw", "isNightSo", "(LShelfSlots;)Z"⟩ ∈ m_wt := m_p3_wt (j := 41) rfl
theorem m_w530 : Cond.code ⟨"ShelfSlotsLaw", "isNightSo", "(LShelfSlots;)Z"⟩ method_7_code 15 (some .boolean) ∈ m_wt := m_p3_wt (j := 42) rfl
theorem m_w531 : Cond.methodLink "ShelfSlotsLaw" 62 ⟨"ShelfSlots", "bestSwap", "(I)I"⟩ ∈ m_wt := m_p3_wt (j := 43) rfl
theorem m_w532 : Cond.instanceMethod ⟨"ShelfSlots", "bestSwap", "(I)I"⟩ ∈ m_wt := m_p3_wt (j := 44) rfl
theorem m_w533 : Cond.selects "ShelfSlots" ⟨"ShelfSlots", "bestSwap", "(I)I"⟩ ⟨"ShelfSlots", "bestSwap", "(I)I"⟩ ∈ m_wt := m_p3_wt (j := 45) rfl
theorem m_w534 : Cond.code ⟨"ShelfSlots", "bestSwap", "(I)I"⟩ prog_1_method_18_code 2 (some .int) ∈ m_wt := m_p3_wt (j := 46) rfl
theorem m_w535 : Cond.methodLink "ShelfSlots" 205 ⟨"ShelfSlots$Shed", "copyFrom", "(LShelfSlots$Shed;)V"⟩ ∈ m_wt := m_p3_wt (j := 47) rfl
theorem m_w536 : Cond.methodLink "ShelfSlots" 208 ⟨"ShelfSlots$Shed", "ageSpeeds", "()V"⟩ ∈ m_wt := m_p3_wt (j := 48) rfl
theorem m_w537 : Cond.methodLink "ShelfSlots" 211 ⟨"ShelfSlots$Mover", "findSwap", "(LShelfSlots$Shed;)Z"⟩ ∈ m_wt := m_p3_wt (j := 49) rfl
theorem m_w538 : Cond.methodLink "ShelfSlotsLaw" 65 ⟨"ShelfSlots", "ifSwapped", "(II)I"⟩ ∈ m_wt := m_p3_wt (j := 50) rfl
theorem m_w539 : Cond.instanceMethod ⟨"ShelfSlots", "ifSwapped", "(II)I"⟩ ∈ m_wt := m_p3_wt (j := 51) rfl
theorem m_w540 : Cond.selects "ShelfSlots" ⟨"ShelfSlots", "ifSwapped", "(II)I"⟩ ⟨"ShelfSlots", "ifSwapped", "(II)I"⟩ ∈ m_wt := m_p3_wt (j := 52) rfl
theorem m_w541 : Cond.code ⟨"ShelfSlots", "ifSwapped", "(II)I"⟩ prog_1_method_19_code 3 (some .int) ∈ m_wt := m_p3_wt (j := 53) rfl
theorem m_w542 : Cond.methodLink "ShelfSlots" 221 ⟨"ShelfSlots$Shed", "exchange", "(II)V"⟩ ∈ m_wt := m_p3_wt (j := 54) rfl
theorem m_w543 : Cond.methodLink "ShelfSlots" 225 ⟨"ShelfSlots$Walker", "togetherOf", "(LShelfSlots$Shed;)I"⟩ ∈ m_wt := m_p3_wt (j := 55) rfl
theorem m_w544 : Cond.methodLink "ShelfSlotsLaw" 94 ⟨"ShelfSlotsLaw", "areWalksSo", "(LShelfSlots;I)Z"⟩ ∈ m_wt := m_p3_wt (j := 56) rfl
theorem m_w545 : Cond.static ⟨"ShelfSlotsLaw", "areWalksSo", "(LShelfSlots;I)Z"⟩ ∈ m_wt := m_p3_wt (j := 57) rfl
theorem m_w546 : Cond.code ⟨"ShelfSlotsLaw", "areWalksSo", "(LShelfSlots;I)Z"⟩ method_8_code 9 (some .boolean) ∈ m_wt := m_p3_wt (j := 58) rfl
theorem m_w547 : Cond.methodLink "ShelfSlotsLaw" 71 ⟨"ShelfSlots", "shortest", "(I)I"⟩ ∈ m_wt := m_p3_wt (j := 59) rfl
theorem m_w548 : Cond.instanceMethod ⟨"ShelfSlots", "shortest", "(I)I"⟩ ∈ m_wt := m_p3_wt (j := 60) rfl
theorem m_w549 : Cond.selects "ShelfSlots" ⟨"ShelfSlots", "shortest", "(I)I"⟩ ⟨"ShelfSlots", "shortest", "(I)I"⟩ ∈ m_wt := m_p3_wt (j := 61) rfl
theorem m_w550 : Cond.code ⟨"ShelfSlots", "shortest", "(I)I"⟩ prog_1_method_17_code 3 (some .int) ∈ m_wt := m_p3_wt (j := 62) rfl
theorem m_w551 : Cond.methodLink "ShelfSlots" 202 ⟨"ShelfSlots$Walker", "shortestOf", "(LShelfSlots$Shed;I)I"⟩ ∈ m_wt := m_p3_wt (j := 63) rfl
theorem m_w552 : Cond.instanceMethod ⟨"ShelfSlots$Walker", "shortestOf", "(LShelfSlots$Shed;I)I"⟩ ∈ m_wt := m_p3_wt (j := 64) rfl
theorem m_w553 : Cond.selects "ShelfSlots$Walker" ⟨"ShelfSlots$Walker", "shortestOf", "(LShelfSlots$Shed;I)I"⟩ ⟨"ShelfSlots$Walker", "shortestOf", "(LShelfSlots$Shed;I)I"⟩ ∈ m_wt := m_p3_wt (j := 65) rfl
theorem m_w554 : Cond.code ⟨"ShelfSlots$Walker", "shortestOf", "(LShelfSlots$Shed;I)I"⟩ prog_10_method_7_code 7 (some .int) ∈ m_wt := m_p3_wt (j := 66) rfl
theorem m_w555 : Cond.methodLink "ShelfSlots$Walker" 55 ⟨"ShelfSlots$Walker", "lastPlace", "(LShelfSlots$Shed;I)I"⟩ ∈ m_wt := m_p3_wt (j := 67) rfl
theorem m_w557 : Cond.instanceMethod ⟨"ShelfSlots$Walker", "lastPlace", "(LShelfSlots$Shed;I)I"⟩ ∈ m_wt := m_p3_wt (j := 68) rfl
theorem m_w558 : Cond.code ⟨"ShelfSlots$Walker", "lastPlace", "(LShelfSlots$Shed;I)I"⟩ prog_10_method_8_code 6 (some .int) ∈ m_wt := m_p3_wt (j := 69) rfl
theorem m_w559 : Cond.methodLink "ShelfSlots$Walker" 61 ⟨"java/lang/Math", "max", "(II)I"⟩ ∈ m_wt := m_p3_wt (j := 70) rfl
theorem m_w560 : Cond.static ⟨"java/lang/Math", "max", "(II)I"⟩ ∈ m_wt := m_p3_wt (j := 71) rfl
theorem m_w561 : Cond.code ⟨"java/lang/Math", "max", "(II)I"⟩ prog_14_method_65_code 2 (some .int) ∈ m_wt := m_p3_wt (j := 72) rfl
theorem m_w562 : Cond.methodLink "ShelfSlotsLaw" 74 ⟨"ShelfSlots", "stop", "(II)I"⟩ ∈ m_wt := m_p3_wt (j := 73) rfl
theorem m_w563 : Cond.instanceMethod ⟨"ShelfSlots", "stop", "(II)I"⟩ ∈ m_wt := m_p3_wt (j := 74) rfl
theorem m_w564 : Cond.selects "ShelfSlots" ⟨"ShelfSlots", "stop", "(II)I"⟩ ⟨"ShelfSlots", "stop", "(II)I"⟩ ∈ m_wt := m_p3_wt (j := 75) rfl
theorem m_w565 : Cond.code ⟨"ShelfSlots", "stop", "(II)I"⟩ prog_1_method_16_code 4 (some .int) ∈ m_wt := m_p3_wt (j := 76) rfl
theorem m_w566 : Cond.methodLink "ShelfSlots" 199 ⟨"ShelfSlots$Walker", "goodAt", "(I)I"⟩ ∈ m_wt := m_p3_wt (j := 77) rfl
theorem m_w567 : Cond.instanceMethod ⟨"ShelfSlots$Walker", "goodAt", "(I)I"⟩ ∈ m_wt := m_p3_wt (j := 78) rfl
theorem m_w568 : Cond.selects "ShelfSlots$Walker" ⟨"ShelfSlots$Walker", "goodAt", "(I)I"⟩ ⟨"ShelfSlots$Walker", "goodAt", "(I)I"⟩ ∈ m_wt := m_p3_wt (j := 79) rfl
theorem m_w569 : Cond.code ⟨"ShelfSlots$Walker", "goodAt", "(I)I"⟩ prog_10_method_3_code 2 (some .int) ∈ m_wt := m_p3_wt (j := 80) rfl
def m_cl : List (String × u_T × Nat × (Nat → FieldType)) := [(RX1, TX1, 3, tyX1), (RX2, TX2, 3, tyX2), (RX3, TX3, 3, tyX3), (RX4, TX4, 3, tyX4), (RX5, TX5, 4, tyX5), (RX6, TX6, 4, tyX6), (RX7, TX7, 16, tyX7), (RX8, TX8, 2, tyX8), (RX9, TX9, 8, tyX9)]
def m_ow : List String := ["ShelfSlots$Day", "ShelfSlots$Grammar", "ShelfSlots$History", "ShelfSlots$Mover", "ShelfSlots$Pad", "ShelfSlots$Picked", "ShelfSlots$Shed", "ShelfSlots$Walker", "ShelfSlots", "java/lang/Integer", "ShelfSlots$Bits", "ShelfSlotsLaw"]
/-- fields: place in the pool, class, number, kind (0 int, 1 boolean, 2 char, 3 reference), final -/
def m_fl : List (List (Nat × Nat × Nat × Nat × Bool)) := [[(9, 0, 0, 3, true), (15, 0, 1, 3, true), (24, 0, 2, 0, false)],
  [],
  [(13, 2, 0, 3, true), (18, 2, 1, 0, false), (26, 2, 2, 0, false)],
  [(24, 6, 0, 3, true), (15, 6, 13, 0, false), (42, 6, 15, 0, false), (9, 3, 0, 3, true), (32, 3, 1, 0, false), (35, 3, 2, 0, false)],
  [(9, 4, 0, 3, true), (18, 4, 1, 3, true)],
  [(7, 5, 0, 0, true), (13, 5, 1, 0, true), (16, 5, 2, 0, true), (19, 5, 3, 3, true)],
  [(130, 0, 2, 0, false), (9, 6, 0, 3, true), (15, 6, 1, 3, true), (18, 6, 2, 3, true), (21, 6, 3, 3, true), (25, 6, 4, 3, true), (28, 6, 5, 3, true), (31, 6, 6, 3, true), (37, 6, 7, 3, true), (41, 6, 8, 3, true), (54, 6, 9, 3, false), (58, 6, 10, 0, false), (62, 6, 11, 0, false), (65, 6, 12, 0, false), (68, 6, 13, 0, false), (71, 6, 14, 0, false), (74, 6, 15, 0, false), (117, 5, 0, 0, true), (120, 5, 1, 0, true), (126, 5, 2, 0, true), (123, 5, 3, 3, true)],
  [(48, 0, 0, 3, true), (45, 0, 2, 0, false), (58, 6, 0, 3, true), (24, 6, 1, 3, true), (41, 6, 7, 3, true), (9, 7, 0, 3, true), (19, 7, 1, 0, false)],
  [(140, 0, 0, 3, true), (143, 0, 1, 3, true), (135, 0, 2, 0, false), (182, 6, 0, 3, true), (89, 6, 1, 3, true), (119, 6, 2, 3, true), (93, 6, 3, 3, true), (103, 6, 4, 3, true), (106, 6, 5, 3, true), (112, 6, 6, 3, true), (128, 6, 7, 3, true), (132, 6, 8, 3, true), (85, 6, 11, 0, false), (173, 6, 12, 0, false), (156, 6, 13, 0, false), (163, 6, 14, 0, false), (166, 6, 15, 0, false), (215, 3, 1, 0, false), (218, 3, 2, 0, false), (185, 4, 3, 0, false), (188, 2, 2, 0, false), (10, 8, 0, 3, true), (16, 8, 1, 3, true), (22, 8, 2, 3, true), (31, 8, 3, 3, true), (38, 8, 4, 3, true), (45, 8, 5, 3, true), (49, 8, 6, 3, true), (53, 8, 7, 3, true)],
  [],
  [],
  []]
/-- calls: place in the pool, kind (0 virtual, 1 static, 2 init, 3 init of a nest mate, 4 of Object, 5 arraycopy, 6 max, 7 min), method, arguments, class or link -/
def m_mt : List (List (Nat × Nat × Nat × Nat × Nat)) := [[(3, 4, 0, 0, 0), (18, 5, 0, 0, 0)],
  [(1, 4, 0, 0, 0)],
  [(3, 4, 0, 0, 0), (17, 2, 1, 0, 0), (22, 0, 10, 1, 6), (29, 7, 0, 0, 0)],
  [(3, 4, 0, 0, 0), (21, 0, 43, 0, 6), (28, 0, 44, 1, 3), (48, 0, 45, 0, 6), (52, 0, 46, 1, 7), (58, 0, 47, 2, 6), (62, 0, 21, 2, 6), (38, 0, 20, 2, 6), (45, 0, 48, 0, 6)],
  [(3, 4, 0, 0, 0), (17, 3, 6, 0, 3)],
  [(1, 4, 0, 0, 0)],
  [(3, 4, 0, 0, 0), (36, 3, 2, 0, 0), (99, 0, 35, 1, 6), (44, 5, 0, 0, 0), (50, 0, 11, 1, 0), (77, 1, 17, 1, 0), (81, 0, 20, 2, 6), (88, 0, 21, 2, 6), (96, 0, 22, 2, 6), (92, 0, 23, 1, 6), (85, 0, 26, 1, 6), (104, 0, 37, 1, 6), (107, 0, 38, 0, 6), (111, 2, 39, 4, 0), (114, 0, 40, 2, 0)],
  [(3, 4, 0, 0, 0), (51, 0, 31, 2, 7), (15, 0, 32, 1, 7), (29, 0, 33, 2, 6), (33, 0, 34, 2, 7), (37, 0, 35, 1, 6), (55, 0, 68, 2, 7), (61, 6, 0, 0, 0)],
  [(1, 4, 0, 0, 0), (9, 2, 1, 0, 0), (21, 3, 3, 0, 1), (28, 2, 4, 1, 0), (37, 3, 5, 0, 2), (44, 2, 7, 0, 0), (159, 0, 58, 0, 0), (169, 0, 45, 0, 6), (97, 1, 50, 1, 0), (176, 0, 59, 0, 6), (179, 0, 38, 0, 6), (251, 0, 93, 1, 2), (57, 0, 9, 1, 2), (69, 0, 16, 1, 6), (65, 0, 13, 1, 8), (254, 0, 14, 0, 2), (72, 0, 19, 2, 6), (75, 0, 25, 1, 6), (61, 0, 12, 2, 6), (81, 0, 42, 1, 3), (78, 0, 28, 1, 8), (150, 0, 29, 1, 8), (257, 1, 30, 1, 0), (146, 0, 31, 2, 7), (262, 0, 36, 2, 6), (191, 0, 61, 0, 6), (195, 1, 62, 1, 0), (109, 0, 35, 1, 6), (115, 1, 17, 1, 0), (122, 0, 26, 1, 6), (125, 0, 33, 2, 6), (153, 0, 37, 1, 6), (205, 0, 10, 1, 6), (208, 0, 43, 0, 6), (211, 0, 44, 1, 3), (221, 0, 21, 2, 6), (225, 0, 46, 1, 7), (202, 0, 67, 2, 7), (199, 0, 65, 1, 7)],
  [],
  [(7, 1, 51, 1, 0), (13, 1, 52, 2, 0), (19, 7, 0, 0, 0)],
  [(77, 2, 0, 0, 0), (14, 0, 57, 1, 8), (68, 0, 92, 0, 8), (78, 1, 100, 2, 0), (82, 1, 96, 2, 0), (8, 1, 102, 2, 0), (20, 0, 15, 1, 8), (23, 0, 18, 2, 8), (26, 0, 24, 1, 8), (29, 0, 8, 2, 8), (32, 0, 41, 0, 8), (36, 0, 27, 1, 8), (86, 1, 97, 2, 0), (39, 0, 60, 0, 8), (43, 0, 49, 2, 8), (46, 0, 55, 3, 8), (90, 1, 98, 1, 0), (50, 0, 53, 2, 8), (53, 0, 54, 2, 8), (56, 0, 56, 1, 8), (59, 0, 63, 1, 8), (98, 1, 101, 1, 0), (62, 0, 69, 1, 8), (65, 0, 70, 2, 8), (94, 1, 99, 2, 0), (71, 0, 66, 1, 8), (74, 0, 64, 2, 8)]]
def m_ct : List (List (Nat × Value)) := [[],
  [],
  [],
  [],
  [],
  [],
  [(129, .float 1120403456)],
  [(23, .int 1000000)],
  [],
  [(265, .int 1431655765), (266, .int 858993459), (267, .int 252645135)],
  [(30, .double 4611686018427387904), (17, .double 4710765210229538816), (25, .int 8388608), (26, .double 4841369599423283200), (28, .long 4503599627370496)],
  [(7, .int 2147483647)]]
def m_cn : List (List (Nat × Nat)) := [[],
  [],
  [(11, 6)],
  [],
  [(15, 1)],
  [],
  [(34, 0), (102, 5)],
  [],
  [(7, 6), (19, 7), (26, 3), (35, 4), (42, 2)],
  [],
  [],
  [(15, 8)]]
def m_nests : List (String × Nat × MethodName × String) := [("ShelfSlots$Shed", 36, ⟨"ShelfSlots$Day", "<init>", "()V"⟩, "ShelfSlots"), ("ShelfSlots", 21, ⟨"ShelfSlots$Walker", "<init>", "()V"⟩, "ShelfSlots"), ("ShelfSlots", 37, ⟨"ShelfSlots$Pad", "<init>", "()V"⟩, "ShelfSlots"), ("ShelfSlots$Pad", 17, ⟨"ShelfSlots$Grammar", "<init>", "()V"⟩, "ShelfSlots")]
def m_own (ox : Nat) : String := m_ow.getD ox ""
def m_dcl : String × u_T × Nat × (Nat → FieldType) := ("", TX0, 0, tyX0)
def m_c (ci : Nat) : String × u_T × Nat × (Nat → FieldType) := m_cl.getD ci m_dcl
def m_tyc (t : FieldType) : Nat := match t with
  | .int => 0
  | .boolean => 1
  | .char => 2
  | .object _ => 3
  | .array _ => 3
  | _ => 9
def m_flk (ox ix : Nat) : Option (Nat × Nat × Nat × Nat × Bool) := (m_fl.getD ox []).find? fun e => e.1 == ix
def m_mtk (ox ix : Nat) : Option (Nat × Nat × Nat × Nat × Nat) := (m_mt.getD ox []).find? fun e => e.1 == ix
def m_ctk (ox ix : Nat) : Option (Nat × Value) := (m_ct.getD ox []).find? fun e => e.1 == ix
def m_cnk (ox ix : Nat) : Option (Nat × Nat) := (m_cn.getD ox []).find? fun e => e.1 == ix
def m_flP (own : String) (e : Nat × Nat × Nat × Nat × Bool) : Prop := match e with
  | (ix, ci, k, ty, fin) => ci < m_cl.length ∧ k < (m_c ci).2.2.1 ∧ Cond.fieldLink own ix (m_c ci).1 ((m_c ci).2.1 k).2.1 ((m_c ci).2.1 k).2.2.1 ∈ m_wt ∧ ((m_c ci).2.1 k).1 = (m_c ci).1 ∧ ((m_c ci).2.1 k).2.2.2 = fin ∧ m_tyc ((m_c ci).2.2.2 k) = ty
/-- a method that may be called, of n arguments -/
def m_qP (μ n : Nat) : Prop := μ < m_all.length ∧ Cond.code (m_q μ).1 (m_q μ).2.1 (m_q μ).2.2.1 (m_q μ).2.2.2.1 ∈ m_wt ∧ (plainName (m_q μ).1.cls = true ∧ (m_q μ).1.cls ≠ "java/lang/invoke/MethodHandle" ∧ (m_q μ).1.cls ≠ "java/lang/invoke/VarHandle") ∧ (parseMethodDescriptor (m_q μ).1.desc).map (fun d => d.parameters.length) = some n
def m_mtP (own : String) (e : Nat × Nat × Nat × Nat × Nat) : Prop := match e with
  | (ix, 0, μ, n, ci) => Cond.methodLink own ix (m_q μ).1 ∈ m_wt ∧ Cond.instanceMethod (m_q μ).1 ∈ m_wt ∧ Cond.selects (m_q μ).1.cls (m_q μ).1 (m_q μ).1 ∈ m_wt ∧ Cond.initialized (m_q μ).1.cls ∈ m_wt ∧ m_qP μ n ∧ ci < m_cl.length ∧ (m_c ci).1 = (m_q μ).1.cls
  | (ix, 1, μ, n, _) => Cond.methodLink own ix (m_q μ).1 ∈ m_wt ∧ Cond.static (m_q μ).1 ∈ m_wt ∧ Cond.initialized (m_q μ).1.cls ∈ m_wt ∧ m_qP μ n
  | (ix, 2, μ, n, _) => Cond.methodLink own ix (m_q μ).1 ∈ m_wt ∧ Cond.instanceMethod (m_q μ).1 ∈ m_wt ∧ Cond.initialized (m_q μ).1.cls ∈ m_wt ∧ m_qP μ n ∧ (m_q μ).1.name = "<init>" ∧ (m_q μ).2.2.2.1 = none
  | (ix, 3, μ, n, j) => m_nests[j]? = some (own, ix, (m_q μ).1, "ShelfSlots") ∧ Cond.instanceMethod (m_q μ).1 ∈ m_wt ∧ Cond.initialized (m_q μ).1.cls ∈ m_wt ∧ m_qP μ n ∧ (m_q μ).1.name = "<init>" ∧ (m_q μ).2.2.2.1 = none
  | (ix, 4, _, _, _) => Cond.methodLink own ix Lib.objectInit ∈ m_wt ∧ Cond.instanceMethod Lib.objectInit ∈ m_wt ∧ Cond.code Lib.objectInit ⟨#[0xb1]⟩ 1 none ∈ m_wt
  | (ix, 5, _, _, _) => Cond.methodLink own ix arraycopyName ∈ m_wt ∧ Cond.native arraycopyName ∈ m_wt ∧ Cond.static arraycopyName ∈ m_wt ∧ Cond.initialized "java/lang/System" ∈ m_wt
  | (ix, 6, _, _, _) => Cond.methodLink own ix Lib.Math.max.name ∈ m_wt ∧ Cond.static Lib.Math.max.name ∈ m_wt ∧ Cond.initialized "java/lang/Math" ∈ m_wt ∧ Cond.code Lib.Math.max.name Lib.Math.max.code 2 (some .int) ∈ m_wt
  | (ix, 7, _, _, _) => Cond.methodLink own ix Lib.Math.min.name ∈ m_wt ∧ Cond.static Lib.Math.min.name ∈ m_wt ∧ Cond.initialized "java/lang/Math" ∈ m_wt ∧ Cond.code Lib.Math.min.name Lib.Math.min.code 2 (some .int) ∈ m_wt
  | _ => False
def m_ctP (own : String) (e : Nat × Value) : Prop := match e with
  | (ix, .int v) => Cond.constant own ix v ∈ m_wt
  | (ix, .float v) => Cond.constantFloat own ix v ∈ m_wt
  | (ix, .long v) => Cond.constantLong own ix v ∈ m_wt
  | (ix, .double v) => Cond.constantDouble own ix v ∈ m_wt
  | _ => False
def m_cnP (own : String) (e : Nat × Nat) : Prop := match e with
  | (ix, ci) => ci < m_cl.length ∧ Cond.classLink own ix (m_c ci).1 ∈ m_wt ∧ Cond.instantiable (m_c ci).1 (m_c ci).2.2.1 ∈ m_wt ∧ Cond.initialized (m_c ci).1 ∈ m_wt

theorem m_pl_0 : plainName "ShelfSlots$Day" = true ∧ "ShelfSlots$Day" ≠ "java/lang/invoke/MethodHandle" ∧ "ShelfSlots$Day" ≠ "java/lang/invoke/VarHandle" := by decide +kernel
theorem m_pl_1 : plainName "ShelfSlots$Grammar" = true ∧ "ShelfSlots$Grammar" ≠ "java/lang/invoke/MethodHandle" ∧ "ShelfSlots$Grammar" ≠ "java/lang/invoke/VarHandle" := by decide +kernel
theorem m_pl_2 : plainName "ShelfSlots$History" = true ∧ "ShelfSlots$History" ≠ "java/lang/invoke/MethodHandle" ∧ "ShelfSlots$History" ≠ "java/lang/invoke/VarHandle" := by decide +kernel
theorem m_pl_3 : plainName "ShelfSlots$Mover" = true ∧ "ShelfSlots$Mover" ≠ "java/lang/invoke/MethodHandle" ∧ "ShelfSlots$Mover" ≠ "java/lang/invoke/VarHandle" := by decide +kernel
theorem m_pl_4 : plainName "ShelfSlots$Pad" = true ∧ "ShelfSlots$Pad" ≠ "java/lang/invoke/MethodHandle" ∧ "ShelfSlots$Pad" ≠ "java/lang/invoke/VarHandle" := by decide +kernel
theorem m_pl_5 : plainName "ShelfSlots$Picked" = true ∧ "ShelfSlots$Picked" ≠ "java/lang/invoke/MethodHandle" ∧ "ShelfSlots$Picked" ≠ "java/lang/invoke/VarHandle" := by decide +kernel
theorem m_pl_6 : plainName "ShelfSlots$Shed" = true ∧ "ShelfSlots$Shed" ≠ "java/lang/invoke/MethodHandle" ∧ "ShelfSlots$Shed" ≠ "java/lang/invoke/VarHandle" := by decide +kernel
theorem m_pl_7 : plainName "ShelfSlots$Walker" = true ∧ "ShelfSlots$Walker" ≠ "java/lang/invoke/MethodHandle" ∧ "ShelfSlots$Walker" ≠ "java/lang/invoke/VarHandle" := by decide +kernel
theorem m_pl_8 : plainName "ShelfSlots" = true ∧ "ShelfSlots" ≠ "java/lang/invoke/MethodHandle" ∧ "ShelfSlots" ≠ "java/lang/invoke/VarHandle" := by decide +kernel
theorem m_pl_9 : plainName "java/lang/Integer" = true ∧ "java/lang/Integer" ≠ "java/lang/invoke/MethodHandle" ∧ "java/lang/Integer" ≠ "java/lang/invoke/VarHandle" := by decide +kernel
theorem m_pl_10 : plainName "ShelfSlots$Bits" = true ∧ "ShelfSlots$Bits" ≠ "java/lang/invoke/MethodHandle" ∧ "ShelfSlots$Bits" ≠ "java/lang/invoke/VarHandle" := by decide +kernel
theorem m_pl_11 : plainName "ShelfSlotsLaw" = true ∧ "ShelfSlotsLaw" ≠ "java/lang/invoke/MethodHandle" ∧ "ShelfSlotsLaw" ≠ "java/lang/invoke/VarHandle" := by decide +kernel
set_option maxRecDepth 20000 in
theorem m_all_len : m_all.length = 104 := rfl
theorem m_lt {μ : Nat} (h : Nat.ble (μ + 1) 104 = true) : μ < m_all.length := by
  rw [m_all_len]
  exact Nat.le_of_ble_eq_true h
set_option maxRecDepth 20000 in
theorem m_q_0 : m_q 0 = (⟨"ShelfSlots", "<init>", "()V"⟩, prog_1_method_1_code, 2, none, 8, mc_0) := rfl
set_option maxRecDepth 20000 in
theorem m_q_1 : m_q 1 = (⟨"ShelfSlots$Shed", "<init>", "()V"⟩, prog_9_method_1_code, 2, none, 6, mc_1) := rfl
set_option maxRecDepth 20000 in
theorem m_q_2 : m_q 2 = (⟨"ShelfSlots$Day", "<init>", "()V"⟩, prog_3_method_1_code, 1, none, 0, mc_2) := rfl
set_option maxRecDepth 20000 in
theorem m_q_3 : m_q 3 = (⟨"ShelfSlots$Walker", "<init>", "()V"⟩, prog_10_method_1_code, 1, none, 7, mc_3) := rfl
set_option maxRecDepth 20000 in
theorem m_q_4 : m_q 4 = (⟨"ShelfSlots$Mover", "<init>", "(LShelfSlots$Walker;)V"⟩, prog_6_method_1_code, 2, none, 3, mc_4) := rfl
set_option maxRecDepth 20000 in
theorem m_q_5 : m_q 5 = (⟨"ShelfSlots$Pad", "<init>", "()V"⟩, prog_7_method_1_code, 1, none, 4, mc_5) := rfl
set_option maxRecDepth 20000 in
theorem m_q_6 : m_q 6 = (⟨"ShelfSlots$Grammar", "<init>", "()V"⟩, prog_4_method_1_code, 1, none, 1, mc_6) := rfl
set_option maxRecDepth 20000 in
theorem m_q_7 : m_q 7 = (⟨"ShelfSlots$History", "<init>", "()V"⟩, prog_5_method_1_code, 2, none, 2, mc_7) := rfl
set_option maxRecDepth 20000 in
theorem m_q_8 : m_q 8 = (⟨"ShelfSlots", "set", "(II)I"⟩, prog_1_method_2_code, 3, some .int, 8, mc_8) := rfl
set_option maxRecDepth 20000 in
theorem m_q_9 : m_q 9 = (⟨"ShelfSlots$History", "note", "(LShelfSlots$Shed;)V"⟩, prog_5_method_2_code, 2, none, 2, mc_9) := rfl
set_option maxRecDepth 20000 in
theorem m_q_10 : m_q 10 = (⟨"ShelfSlots$Shed", "copyFrom", "(LShelfSlots$Shed;)V"⟩, prog_9_method_2_code, 2, none, 6, mc_10) := rfl
set_option maxRecDepth 20000 in
theorem m_q_11 : m_q 11 = (⟨"ShelfSlots$Day", "copyFrom", "(LShelfSlots$Day;)V"⟩, prog_3_method_2_code, 2, none, 0, mc_11) := rfl
set_option maxRecDepth 20000 in
theorem m_q_12 : m_q 12 = (⟨"ShelfSlots$Shed", "changeSetting", "(II)I"⟩, prog_9_method_5_code, 6, some .int, 6, mc_12) := rfl
set_option maxRecDepth 20000 in
theorem m_q_13 : m_q 13 = (⟨"ShelfSlots", "recorded", "(I)I"⟩, prog_1_method_28_code, 2, some .int, 8, mc_13) := rfl
set_option maxRecDepth 20000 in
theorem m_q_14 : m_q 14 = (⟨"ShelfSlots$History", "keepNote", "()V"⟩, prog_5_method_3_code, 1, none, 2, mc_14) := rfl
set_option maxRecDepth 20000 in
theorem m_q_15 : m_q 15 = (⟨"ShelfSlots", "good", "(I)I"⟩, prog_1_method_3_code, 2, some .int, 8, mc_15) := rfl
set_option maxRecDepth 20000 in
theorem m_q_16 : m_q 16 = (⟨"ShelfSlots$Shed", "bringGood", "(I)I"⟩, prog_9_method_6_code, 3, some .int, 6, mc_16) := rfl
set_option maxRecDepth 20000 in
theorem m_q_17 : m_q 17 = (⟨"ShelfSlots$Shed", "isSlot", "(I)Z"⟩, prog_9_method_3_code, 1, some .boolean, 6, mc_17) := rfl
set_option maxRecDepth 20000 in
theorem m_q_18 : m_q 18 = (⟨"ShelfSlots", "swap", "(II)I"⟩, prog_1_method_4_code, 3, some .int, 8, mc_18) := rfl
set_option maxRecDepth 20000 in
theorem m_q_19 : m_q 19 = (⟨"ShelfSlots$Shed", "swapByHand", "(II)I"⟩, prog_9_method_7_code, 3, some .int, 6, mc_19) := rfl
set_option maxRecDepth 20000 in
theorem m_q_20 : m_q 20 = (⟨"ShelfSlots$Shed", "swapCounted", "(II)I"⟩, prog_9_method_9_code, 3, some .int, 6, mc_20) := rfl
set_option maxRecDepth 20000 in
theorem m_q_21 : m_q 21 = (⟨"ShelfSlots$Shed", "exchange", "(II)V"⟩, prog_9_method_11_code, 4, none, 6, mc_21) := rfl
set_option maxRecDepth 20000 in
theorem m_q_22 : m_q 22 = (⟨"ShelfSlots$Shed", "stand", "(II)V"⟩, prog_9_method_12_code, 3, none, 6, mc_22) := rfl
set_option maxRecDepth 20000 in
theorem m_q_23 : m_q 23 = (⟨"ShelfSlots$Shed", "countSwap", "(I)I"⟩, prog_9_method_10_code, 2, some .int, 6, mc_23) := rfl
set_option maxRecDepth 20000 in
theorem m_q_24 : m_q 24 = (⟨"ShelfSlots", "close", "(I)I"⟩, prog_1_method_5_code, 2, some .int, 8, mc_24) := rfl
set_option maxRecDepth 20000 in
theorem m_q_25 : m_q 25 = (⟨"ShelfSlots$Shed", "closeOrOpen", "(I)I"⟩, prog_9_method_8_code, 2, some .int, 6, mc_25) := rfl
set_option maxRecDepth 20000 in
theorem m_q_26 : m_q 26 = (⟨"ShelfSlots$Shed", "isClosed", "(I)Z"⟩, prog_9_method_4_code, 2, some .boolean, 6, mc_26) := rfl
set_option maxRecDepth 20000 in
theorem m_q_27 : m_q 27 = (⟨"ShelfSlots", "pick", "(I)I"⟩, prog_1_method_6_code, 2, some .int, 8, mc_27) := rfl
set_option maxRecDepth 20000 in
theorem m_q_28 : m_q 28 = (⟨"ShelfSlots", "pickBasket", "(I)I"⟩, prog_1_method_30_code, 4, some .int, 8, mc_28) := rfl
set_option maxRecDepth 20000 in
theorem m_q_29 : m_q 29 = (⟨"ShelfSlots", "errorOfBasket", "(I)I"⟩, prog_1_method_29_code, 3, some .int, 8, mc_29) := rfl
set_option maxRecDepth 20000 in
theorem m_q_30 : m_q 30 = (⟨"java/lang/Integer", "bitCount", "(I)I"⟩, prog_13_method_49_code, 1, some .int, 9, mc_30) := rfl
set_option maxRecDepth 20000 in
theorem m_q_31 : m_q 31 = (⟨"ShelfSlots$Walker", "lengthOf", "(LShelfSlots$Shed;I)I"⟩, prog_10_method_2_code, 10, some .int, 7, mc_31) := rfl
set_option maxRecDepth 20000 in
theorem m_q_32 : m_q 32 = (⟨"ShelfSlots$Walker", "listGoods", "(I)V"⟩, prog_10_method_5_code, 3, none, 7, mc_32) := rfl
set_option maxRecDepth 20000 in
theorem m_q_33 : m_q 33 = (⟨"ShelfSlots$Shed", "stepsBetween", "(II)I"⟩, prog_9_method_14_code, 4, some .int, 6, mc_33) := rfl
set_option maxRecDepth 20000 in
theorem m_q_34 : m_q 34 = (⟨"ShelfSlots$Walker", "moveUp", "(II)V"⟩, prog_10_method_6_code, 5, none, 7, mc_34) := rfl
set_option maxRecDepth 20000 in
theorem m_q_35 : m_q 35 = (⟨"ShelfSlots$Shed", "deskSteps", "(I)I"⟩, prog_9_method_15_code, 2, some .int, 6, mc_35) := rfl
set_option maxRecDepth 20000 in
theorem m_q_36 : m_q 36 = (⟨"ShelfSlots$Shed", "notePicked", "(II)V"⟩, prog_9_method_20_code, 5, none, 6, mc_36) := rfl
set_option maxRecDepth 20000 in
theorem m_q_37 : m_q 37 = (⟨"ShelfSlots$Shed", "timesPicked", "(I)I"⟩, prog_9_method_21_code, 3, some .int, 6, mc_37) := rfl
set_option maxRecDepth 20000 in
theorem m_q_38 : m_q 38 = (⟨"ShelfSlots$Shed", "unlikeBaskets", "()I"⟩, prog_9_method_22_code, 1, some .int, 6, mc_38) := rfl
set_option maxRecDepth 20000 in
theorem m_q_39 : m_q 39 = (⟨"ShelfSlots$Picked", "<init>", "(IIILShelfSlots$Picked;)V"⟩, prog_8_method_1_code, 5, none, 5, mc_39) := rfl
set_option maxRecDepth 20000 in
theorem m_q_40 : m_q 40 = (⟨"ShelfSlots$Day", "add", "(II)V"⟩, prog_3_method_3_code, 3, none, 0, mc_40) := rfl
set_option maxRecDepth 20000 in
theorem m_q_41 : m_q 41 = (⟨"ShelfSlots", "night", "()I"⟩, prog_1_method_7_code, 1, some .int, 8, mc_41) := rfl
set_option maxRecDepth 20000 in
theorem m_q_42 : m_q 42 = (⟨"ShelfSlots$Mover", "passNight", "(LShelfSlots$Shed;)I"⟩, prog_6_method_2_code, 3, some .int, 3, mc_42) := rfl
set_option maxRecDepth 20000 in
theorem m_q_43 : m_q 43 = (⟨"ShelfSlots$Shed", "ageSpeeds", "()V"⟩, prog_9_method_23_code, 4, none, 6, mc_43) := rfl
set_option maxRecDepth 20000 in
theorem m_q_44 : m_q 44 = (⟨"ShelfSlots$Mover", "findSwap", "(LShelfSlots$Shed;)Z"⟩, prog_6_method_3_code, 7, some .boolean, 3, mc_44) := rfl
set_option maxRecDepth 20000 in
theorem m_q_45 : m_q 45 = (⟨"ShelfSlots$Shed", "weight", "()F"⟩, prog_9_method_16_code, 3, some .float, 6, mc_45) := rfl
set_option maxRecDepth 20000 in
theorem m_q_46 : m_q 46 = (⟨"ShelfSlots$Walker", "togetherOf", "(LShelfSlots$Shed;)I"⟩, prog_10_method_4_code, 4, some .int, 7, mc_46) := rfl
set_option maxRecDepth 20000 in
theorem m_q_47 : m_q 47 = (⟨"ShelfSlots$Shed", "mayMoveByNight", "(II)Z"⟩, prog_9_method_13_code, 4, some .boolean, 6, mc_47) := rfl
set_option maxRecDepth 20000 in
theorem m_q_48 : m_q 48 = (⟨"ShelfSlots$Shed", "endDay", "()V"⟩, prog_9_method_24_code, 2, none, 6, mc_48) := rfl
set_option maxRecDepth 20000 in
theorem m_q_49 : m_q 49 = (⟨"ShelfSlots", "of", "(II)I"⟩, prog_1_method_8_code, 3, some .int, 8, mc_49) := rfl
set_option maxRecDepth 20000 in
theorem m_q_50 : m_q 50 = (⟨"ShelfSlots$Bits", "ofFloat", "(F)I"⟩, prog_2_method_2_code, 3, some .int, 10, mc_50) := rfl
set_option maxRecDepth 20000 in
theorem m_q_51 : m_q 51 = (⟨"ShelfSlots$Bits", "exponentOf", "(D)I"⟩, prog_2_method_4_code, 5, some .int, 10, mc_51) := rfl
set_option maxRecDepth 20000 in
theorem m_q_52 : m_q 52 = (⟨"ShelfSlots$Bits", "scaled", "(DI)D"⟩, prog_2_method_5_code, 6, some .double, 10, mc_52) := rfl
set_option maxRecDepth 20000 in
theorem m_q_53 : m_q 53 = (⟨"ShelfSlots", "ofSlot", "(II)I"⟩, prog_1_method_9_code, 3, some .int, 8, mc_53) := rfl
set_option maxRecDepth 20000 in
theorem m_q_54 : m_q 54 = (⟨"ShelfSlots", "steps", "(II)I"⟩, prog_1_method_10_code, 3, some .int, 8, mc_54) := rfl
set_option maxRecDepth 20000 in
theorem m_q_55 : m_q 55 = (⟨"ShelfSlots", "basket", "(III)I"⟩, prog_1_method_11_code, 5, some .int, 8, mc_55) := rfl
set_option maxRecDepth 20000 in
theorem m_q_56 : m_q 56 = (⟨"ShelfSlots", "often", "(I)I"⟩, prog_1_method_12_code, 3, some .int, 8, mc_56) := rfl
set_option maxRecDepth 20000 in
theorem m_q_57 : m_q 57 = (⟨"ShelfSlots", "count", "(I)I"⟩, prog_1_method_13_code, 2, some .int, 8, mc_57) := rfl
set_option maxRecDepth 20000 in
theorem m_q_58 : m_q 58 = (⟨"ShelfSlots$Day", "together", "()I"⟩, prog_3_method_4_code, 3, some .int, 0, mc_58) := rfl
set_option maxRecDepth 20000 in
theorem m_q_59 : m_q 59 = (⟨"ShelfSlots$Shed", "fastest", "()I"⟩, prog_9_method_18_code, 3, some .int, 6, mc_59) := rfl
set_option maxRecDepth 20000 in
theorem m_q_60 : m_q 60 = (⟨"ShelfSlots", "meanSpeed", "()J"⟩, prog_1_method_14_code, 1, some .long, 8, mc_60) := rfl
set_option maxRecDepth 20000 in
theorem m_q_61 : m_q 61 = (⟨"ShelfSlots$Shed", "mean", "()D"⟩, prog_9_method_17_code, 4, some .double, 6, mc_61) := rfl
set_option maxRecDepth 20000 in
theorem m_q_62 : m_q 62 = (⟨"ShelfSlots$Bits", "ofDouble", "(D)J"⟩, prog_2_method_3_code, 5, some .long, 10, mc_62) := rfl
set_option maxRecDepth 20000 in
theorem m_q_63 : m_q 63 = (⟨"ShelfSlots", "walk", "(I)I"⟩, prog_1_method_15_code, 3, some .int, 8, mc_63) := rfl
set_option maxRecDepth 20000 in
theorem m_q_64 : m_q 64 = (⟨"ShelfSlots", "stop", "(II)I"⟩, prog_1_method_16_code, 4, some .int, 8, mc_64) := rfl
set_option maxRecDepth 20000 in
theorem m_q_65 : m_q 65 = (⟨"ShelfSlots$Walker", "goodAt", "(I)I"⟩, prog_10_method_3_code, 2, some .int, 7, mc_65) := rfl
set_option maxRecDepth 20000 in
theorem m_q_66 : m_q 66 = (⟨"ShelfSlots", "shortest", "(I)I"⟩, prog_1_method_17_code, 3, some .int, 8, mc_66) := rfl
set_option maxRecDepth 20000 in
theorem m_q_67 : m_q 67 = (⟨"ShelfSlots$Walker", "shortestOf", "(LShelfSlots$Shed;I)I"⟩, prog_10_method_7_code, 7, some .int, 7, mc_67) := rfl
set_option maxRecDepth 20000 in
theorem m_q_68 : m_q 68 = (⟨"ShelfSlots$Walker", "lastPlace", "(LShelfSlots$Shed;I)I"⟩, prog_10_method_8_code, 6, some .int, 7, mc_68) := rfl
set_option maxRecDepth 20000 in
theorem m_q_69 : m_q 69 = (⟨"ShelfSlots", "bestSwap", "(I)I"⟩, prog_1_method_18_code, 2, some .int, 8, mc_69) := rfl
set_option maxRecDepth 20000 in
theorem m_q_70 : m_q 70 = (⟨"ShelfSlots", "ifSwapped", "(II)I"⟩, prog_1_method_19_code, 3, some .int, 8, mc_70) := rfl
set_option maxRecDepth 20000 in
theorem m_q_71 : m_q 71 = (⟨"ShelfSlots$Day", "<init>", "()V"⟩, prog_3_method_1_code, 1, none, 0, mc_71) := rfl
set_option maxRecDepth 20000 in
theorem m_q_72 : m_q 72 = (⟨"ShelfSlots$Day", "<init>", "()V"⟩, prog_3_method_1_code, 1, none, 0, mc_72) := rfl
set_option maxRecDepth 20000 in
theorem m_q_73 : m_q 73 = (⟨"ShelfSlots$Day", "<init>", "()V"⟩, prog_3_method_1_code, 1, none, 0, mc_73) := rfl
set_option maxRecDepth 20000 in
theorem m_q_74 : m_q 74 = (⟨"ShelfSlots$Day", "<init>", "()V"⟩, prog_3_method_1_code, 1, none, 0, mc_74) := rfl
set_option maxRecDepth 20000 in
theorem m_q_75 : m_q 75 = (⟨"ShelfSlots$Day", "<init>", "()V"⟩, prog_3_method_1_code, 1, none, 0, mc_75) := rfl
set_option maxRecDepth 20000 in
theorem m_q_76 : m_q 76 = (⟨"ShelfSlots$Day", "<init>", "()V"⟩, prog_3_method_1_code, 1, none, 0, mc_76) := rfl
set_option maxRecDepth 20000 in
theorem m_q_77 : m_q 77 = (⟨"ShelfSlots$Day", "<init>", "()V"⟩, prog_3_method_1_code, 1, none, 0, mc_77) := rfl
set_option maxRecDepth 20000 in
theorem m_q_78 : m_q 78 = (⟨"ShelfSlots$Day", "<init>", "()V"⟩, prog_3_method_1_code, 1, none, 0, mc_78) := rfl
set_option maxRecDepth 20000 in
theorem m_q_79 : m_q 79 = (⟨"ShelfSlots$Day", "<init>", "()V"⟩, prog_3_method_1_code, 1, none, 0, mc_79) := rfl
set_option maxRecDepth 20000 in
theorem m_q_80 : m_q 80 = (⟨"ShelfSlots$Day", "<init>", "()V"⟩, prog_3_method_1_code, 1, none, 0, mc_80) := rfl
set_option maxRecDepth 20000 in
theorem m_q_81 : m_q 81 = (⟨"ShelfSlots$Day", "<init>", "()V"⟩, prog_3_method_1_code, 1, none, 0, mc_81) := rfl
set_option maxRecDepth 20000 in
theorem m_q_82 : m_q 82 = (⟨"ShelfSlots$Day", "<init>", "()V"⟩, prog_3_method_1_code, 1, none, 0, mc_82) := rfl
set_option maxRecDepth 20000 in
theorem m_q_83 : m_q 83 = (⟨"ShelfSlots$Day", "<init>", "()V"⟩, prog_3_method_1_code, 1, none, 0, mc_83) := rfl
set_option maxRecDepth 20000 in
theorem m_q_84 : m_q 84 = (⟨"ShelfSlots$Day", "<init>", "()V"⟩, prog_3_method_1_code, 1, none, 0, mc_84) := rfl
set_option maxRecDepth 20000 in
theorem m_q_85 : m_q 85 = (⟨"ShelfSlots$Day", "<init>", "()V"⟩, prog_3_method_1_code, 1, none, 0, mc_85) := rfl
set_option maxRecDepth 20000 in
theorem m_q_86 : m_q 86 = (⟨"ShelfSlots$Day", "<init>", "()V"⟩, prog_3_method_1_code, 1, none, 0, mc_86) := rfl
set_option maxRecDepth 20000 in
theorem m_q_87 : m_q 87 = (⟨"ShelfSlots$Day", "<init>", "()V"⟩, prog_3_method_1_code, 1, none, 0, mc_87) := rfl
set_option maxRecDepth 20000 in
theorem m_q_88 : m_q 88 = (⟨"ShelfSlots$Day", "<init>", "()V"⟩, prog_3_method_1_code, 1, none, 0, mc_88) := rfl
set_option maxRecDepth 20000 in
theorem m_q_89 : m_q 89 = (⟨"ShelfSlots$Day", "<init>", "()V"⟩, prog_3_method_1_code, 1, none, 0, mc_89) := rfl
set_option maxRecDepth 20000 in
theorem m_q_90 : m_q 90 = (⟨"ShelfSlots$Day", "<init>", "()V"⟩, prog_3_method_1_code, 1, none, 0, mc_90) := rfl
set_option maxRecDepth 20000 in
theorem m_q_91 : m_q 91 = (⟨"ShelfSlots$Day", "<init>", "()V"⟩, prog_3_method_1_code, 1, none, 0, mc_91) := rfl
set_option maxRecDepth 20000 in
theorem m_q_92 : m_q 92 = (⟨"ShelfSlots", "undo", "()I"⟩, prog_1_method_25_code, 1, some .int, 8, mc_92) := rfl
set_option maxRecDepth 20000 in
theorem m_q_93 : m_q 93 = (⟨"ShelfSlots$History", "takeBack", "(LShelfSlots$Shed;)I"⟩, prog_5_method_4_code, 2, some .int, 2, mc_93) := rfl
set_option maxRecDepth 20000 in
theorem m_q_94 : m_q 94 = (⟨"ShelfSlots$Day", "<init>", "()V"⟩, prog_3_method_1_code, 1, none, 0, mc_94) := rfl
set_option maxRecDepth 20000 in
theorem m_q_95 : m_q 95 = (⟨"ShelfSlots$Day", "<init>", "()V"⟩, prog_3_method_1_code, 1, none, 0, mc_95) := rfl
set_option maxRecDepth 20000 in
theorem m_q_96 : m_q 96 = (⟨"ShelfSlotsLaw", "act", "(LShelfSlots;I)I"⟩, method_4_code, 7, some .int, 11, mc_96) := rfl
set_option maxRecDepth 20000 in
theorem m_q_97 : m_q 97 = (⟨"ShelfSlotsLaw", "areAlike", "(LShelfSlots;LShelfSlots;)Z"⟩, method_5_code, 4, some .boolean, 11, mc_97) := rfl
set_option maxRecDepth 20000 in
theorem m_q_98 : m_q 98 = (⟨"ShelfSlotsLaw", "areSums", "(LShelfSlots;)Z"⟩, method_6_code, 10, some .boolean, 11, mc_98) := rfl
set_option maxRecDepth 20000 in
theorem m_q_99 : m_q 99 = (⟨"ShelfSlotsLaw", "areWalksSo", "(LShelfSlots;I)Z"⟩, method_8_code, 9, some .boolean, 11, mc_99) := rfl
set_option maxRecDepth 20000 in
theorem m_q_100 : m_q 100 = (⟨"ShelfSlotsLaw", "cell", "([II)I"⟩, method_2_code, 2, some .int, 11, mc_100) := rfl
set_option maxRecDepth 20000 in
theorem m_q_101 : m_q 101 = (⟨"ShelfSlotsLaw", "isNightSo", "(LShelfSlots;)Z"⟩, method_7_code, 15, some .boolean, 11, mc_101) := rfl
set_option maxRecDepth 20000 in
theorem m_q_102 : m_q 102 = (⟨"ShelfSlotsLaw", "low", "(II)I"⟩, method_3_code, 2, some .int, 11, mc_102) := rfl
set_option maxRecDepth 20000 in
theorem m_q_103 : m_q 103 = (⟨"ShelfSlotsLaw", "law", "([I)Z"⟩, code, 8, some .boolean, 11, mc_103) := rfl
theorem m_qd_0 : (parseMethodDescriptor "()V").map (fun d => d.parameters.length) = some 0 := by decide +kernel
theorem m_qp_0 : m_qP 0 0 := by
  unfold m_qP
  rw [m_q_0]
  exact ⟨m_lt rfl, m_w26, m_pl_8, m_qd_0⟩
theorem m_qd_1 : (parseMethodDescriptor "()V").map (fun d => d.parameters.length) = some 0 := by decide +kernel
theorem m_qp_1 : m_qP 1 0 := by
  unfold m_qP
  rw [m_q_1]
  exact ⟨m_lt rfl, m_w34, m_pl_6, m_qd_1⟩
theorem m_qd_2 : (parseMethodDescriptor "()V").map (fun d => d.parameters.length) = some 0 := by decide +kernel
theorem m_qp_2 : m_qP 2 0 := by
  unfold m_qP
  rw [m_q_2]
  exact ⟨m_lt rfl, m_w40, m_pl_0, m_qd_2⟩
theorem m_qd_3 : (parseMethodDescriptor "()V").map (fun d => d.parameters.length) = some 0 := by decide +kernel
theorem m_qp_3 : m_qP 3 0 := by
  unfold m_qP
  rw [m_q_3]
  exact ⟨m_lt rfl, m_w133, m_pl_7, m_qd_3⟩
theorem m_qd_4 : (parseMethodDescriptor "(LShelfSlots$Walker;)V").map (fun d => d.parameters.length) = some 1 := by decide +kernel
theorem m_qp_4 : m_qP 4 1 := by
  unfold m_qP
  rw [m_q_4]
  exact ⟨m_lt rfl, m_w146, m_pl_3, m_qd_4⟩
theorem m_qd_5 : (parseMethodDescriptor "()V").map (fun d => d.parameters.length) = some 0 := by decide +kernel
theorem m_qp_5 : m_qP 5 0 := by
  unfold m_qP
  rw [m_q_5]
  exact ⟨m_lt rfl, m_w164, m_pl_4, m_qd_5⟩
theorem m_qd_6 : (parseMethodDescriptor "()V").map (fun d => d.parameters.length) = some 0 := by decide +kernel
theorem m_qp_6 : m_qP 6 0 := by
  unfold m_qP
  rw [m_q_6]
  exact ⟨m_lt rfl, m_w170, m_pl_1, m_qd_6⟩
theorem m_qd_7 : (parseMethodDescriptor "()V").map (fun d => d.parameters.length) = some 0 := by decide +kernel
theorem m_qp_7 : m_qP 7 0 := by
  unfold m_qP
  rw [m_q_7]
  exact ⟨m_lt rfl, m_w196, m_pl_2, m_qd_7⟩
theorem m_qd_8 : (parseMethodDescriptor "(II)I").map (fun d => d.parameters.length) = some 2 := by decide +kernel
theorem m_qp_8 : m_qP 8 2 := by
  unfold m_qP
  rw [m_q_8]
  exact ⟨m_lt rfl, m_w370, m_pl_8, m_qd_8⟩
theorem m_qd_9 : (parseMethodDescriptor "(LShelfSlots$Shed;)V").map (fun d => d.parameters.length) = some 1 := by decide +kernel
theorem m_qp_9 : m_qP 9 1 := by
  unfold m_qP
  rw [m_q_9]
  exact ⟨m_lt rfl, m_w314, m_pl_2, m_qd_9⟩
theorem m_qd_10 : (parseMethodDescriptor "(LShelfSlots$Shed;)V").map (fun d => d.parameters.length) = some 1 := by decide +kernel
theorem m_qp_10 : m_qP 10 1 := by
  unfold m_qP
  rw [m_q_10]
  exact ⟨m_lt rfl, m_w288, m_pl_6, m_qd_10⟩
theorem m_qd_11 : (parseMethodDescriptor "(LShelfSlots$Day;)V").map (fun d => d.parameters.length) = some 1 := by decide +kernel
theorem m_qp_11 : m_qP 11 1 := by
  unfold m_qP
  rw [m_q_11]
  exact ⟨m_lt rfl, m_w295, m_pl_0, m_qd_11⟩
theorem m_qd_12 : (parseMethodDescriptor "(II)I").map (fun d => d.parameters.length) = some 2 := by decide +kernel
theorem m_qp_12 : m_qP 12 2 := by
  unfold m_qP
  rw [m_q_12]
  exact ⟨m_lt rfl, m_w374, m_pl_6, m_qd_12⟩
theorem m_qd_13 : (parseMethodDescriptor "(I)I").map (fun d => d.parameters.length) = some 1 := by decide +kernel
theorem m_qp_13 : m_qP 13 1 := by
  unfold m_qP
  rw [m_q_13]
  exact ⟨m_lt rfl, m_w325, m_pl_8, m_qd_13⟩
theorem m_qd_14 : (parseMethodDescriptor "()V").map (fun d => d.parameters.length) = some 0 := by decide +kernel
theorem m_qp_14 : m_qP 14 0 := by
  unfold m_qP
  rw [m_q_14]
  exact ⟨m_lt rfl, m_w329, m_pl_2, m_qd_14⟩
theorem m_qd_15 : (parseMethodDescriptor "(I)I").map (fun d => d.parameters.length) = some 1 := by decide +kernel
theorem m_qp_15 : m_qP 15 1 := by
  unfold m_qP
  rw [m_q_15]
  exact ⟨m_lt rfl, m_w310, m_pl_8, m_qd_15⟩
theorem m_qd_16 : (parseMethodDescriptor "(I)I").map (fun d => d.parameters.length) = some 1 := by decide +kernel
theorem m_qp_16 : m_qP 16 1 := by
  unfold m_qP
  rw [m_q_16]
  exact ⟨m_lt rfl, m_w318, m_pl_6, m_qd_16⟩
theorem m_qd_17 : (parseMethodDescriptor "(I)Z").map (fun d => d.parameters.length) = some 1 := by decide +kernel
theorem m_qp_17 : m_qP 17 1 := by
  unfold m_qP
  rw [m_q_17]
  exact ⟨m_lt rfl, m_w321, m_pl_6, m_qd_17⟩
theorem m_qd_18 : (parseMethodDescriptor "(II)I").map (fun d => d.parameters.length) = some 2 := by decide +kernel
theorem m_qp_18 : m_qP 18 2 := by
  unfold m_qP
  rw [m_q_18]
  exact ⟨m_lt rfl, m_w334, m_pl_8, m_qd_18⟩
theorem m_qd_19 : (parseMethodDescriptor "(II)I").map (fun d => d.parameters.length) = some 2 := by decide +kernel
theorem m_qp_19 : m_qP 19 2 := by
  unfold m_qP
  rw [m_q_19]
  exact ⟨m_lt rfl, m_w338, m_pl_6, m_qd_19⟩
theorem m_qd_20 : (parseMethodDescriptor "(II)I").map (fun d => d.parameters.length) = some 2 := by decide +kernel
theorem m_qp_20 : m_qP 20 2 := by
  unfold m_qP
  rw [m_q_20]
  exact ⟨m_lt rfl, m_w342, m_pl_6, m_qd_20⟩
theorem m_qd_21 : (parseMethodDescriptor "(II)V").map (fun d => d.parameters.length) = some 2 := by decide +kernel
theorem m_qp_21 : m_qP 21 2 := by
  unfold m_qP
  rw [m_q_21]
  exact ⟨m_lt rfl, m_w346, m_pl_6, m_qd_21⟩
theorem m_qd_22 : (parseMethodDescriptor "(II)V").map (fun d => d.parameters.length) = some 2 := by decide +kernel
theorem m_qp_22 : m_qP 22 2 := by
  unfold m_qP
  rw [m_q_22]
  exact ⟨m_lt rfl, m_w350, m_pl_6, m_qd_22⟩
theorem m_qd_23 : (parseMethodDescriptor "(I)I").map (fun d => d.parameters.length) = some 1 := by decide +kernel
theorem m_qp_23 : m_qP 23 1 := by
  unfold m_qP
  rw [m_q_23]
  exact ⟨m_lt rfl, m_w354, m_pl_6, m_qd_23⟩
theorem m_qd_24 : (parseMethodDescriptor "(I)I").map (fun d => d.parameters.length) = some 1 := by decide +kernel
theorem m_qp_24 : m_qP 24 1 := by
  unfold m_qP
  rw [m_q_24]
  exact ⟨m_lt rfl, m_w358, m_pl_8, m_qd_24⟩
theorem m_qd_25 : (parseMethodDescriptor "(I)I").map (fun d => d.parameters.length) = some 1 := by decide +kernel
theorem m_qp_25 : m_qP 25 1 := by
  unfold m_qP
  rw [m_q_25]
  exact ⟨m_lt rfl, m_w362, m_pl_6, m_qd_25⟩
theorem m_qd_26 : (parseMethodDescriptor "(I)Z").map (fun d => d.parameters.length) = some 1 := by decide +kernel
theorem m_qp_26 : m_qP 26 1 := by
  unfold m_qP
  rw [m_q_26]
  exact ⟨m_lt rfl, m_w366, m_pl_6, m_qd_26⟩
theorem m_qd_27 : (parseMethodDescriptor "(I)I").map (fun d => d.parameters.length) = some 1 := by decide +kernel
theorem m_qp_27 : m_qP 27 1 := by
  unfold m_qP
  rw [m_q_27]
  exact ⟨m_lt rfl, m_w428, m_pl_8, m_qd_27⟩
theorem m_qd_28 : (parseMethodDescriptor "(I)I").map (fun d => d.parameters.length) = some 1 := by decide +kernel
theorem m_qp_28 : m_qP 28 1 := by
  unfold m_qP
  rw [m_q_28]
  exact ⟨m_lt rfl, m_w432, m_pl_8, m_qd_28⟩
theorem m_qd_29 : (parseMethodDescriptor "(I)I").map (fun d => d.parameters.length) = some 1 := by decide +kernel
theorem m_qp_29 : m_qP 29 1 := by
  unfold m_qP
  rw [m_q_29]
  exact ⟨m_lt rfl, m_w436, m_pl_8, m_qd_29⟩
theorem m_qd_30 : (parseMethodDescriptor "(I)I").map (fun d => d.parameters.length) = some 1 := by decide +kernel
theorem m_qp_30 : m_qP 30 1 := by
  unfold m_qP
  rw [m_q_30]
  exact ⟨m_lt rfl, m_w439, m_pl_9, m_qd_30⟩
theorem m_qd_31 : (parseMethodDescriptor "(LShelfSlots$Shed;I)I").map (fun d => d.parameters.length) = some 2 := by decide +kernel
theorem m_qp_31 : m_qP 31 2 := by
  unfold m_qP
  rw [m_q_31]
  exact ⟨m_lt rfl, m_w400, m_pl_7, m_qd_31⟩
theorem m_qd_32 : (parseMethodDescriptor "(I)V").map (fun d => d.parameters.length) = some 1 := by decide +kernel
theorem m_qp_32 : m_qP 32 1 := by
  unfold m_qP
  rw [m_q_32]
  exact ⟨m_lt rfl, m_w404, m_pl_7, m_qd_32⟩
theorem m_qd_33 : (parseMethodDescriptor "(II)I").map (fun d => d.parameters.length) = some 2 := by decide +kernel
theorem m_qp_33 : m_qP 33 2 := by
  unfold m_qP
  rw [m_q_33]
  exact ⟨m_lt rfl, m_w409, m_pl_6, m_qd_33⟩
theorem m_qd_34 : (parseMethodDescriptor "(II)V").map (fun d => d.parameters.length) = some 2 := by decide +kernel
theorem m_qp_34 : m_qP 34 2 := by
  unfold m_qP
  rw [m_q_34]
  exact ⟨m_lt rfl, m_w413, m_pl_7, m_qd_34⟩
theorem m_qd_35 : (parseMethodDescriptor "(I)I").map (fun d => d.parameters.length) = some 1 := by decide +kernel
theorem m_qp_35 : m_qP 35 1 := by
  unfold m_qP
  rw [m_q_35]
  exact ⟨m_lt rfl, m_w253, m_pl_6, m_qd_35⟩
theorem m_qd_36 : (parseMethodDescriptor "(II)V").map (fun d => d.parameters.length) = some 2 := by decide +kernel
theorem m_qp_36 : m_qP 36 2 := by
  unfold m_qP
  rw [m_q_36]
  exact ⟨m_lt rfl, m_w447, m_pl_6, m_qd_36⟩
theorem m_qd_37 : (parseMethodDescriptor "(I)I").map (fun d => d.parameters.length) = some 1 := by decide +kernel
theorem m_qp_37 : m_qP 37 1 := by
  unfold m_qP
  rw [m_q_37]
  exact ⟨m_lt rfl, m_w453, m_pl_6, m_qd_37⟩
theorem m_qd_38 : (parseMethodDescriptor "()I").map (fun d => d.parameters.length) = some 0 := by decide +kernel
theorem m_qp_38 : m_qP 38 0 := by
  unfold m_qP
  rw [m_q_38]
  exact ⟨m_lt rfl, m_w276, m_pl_6, m_qd_38⟩
theorem m_qd_39 : (parseMethodDescriptor "(IIILShelfSlots$Picked;)V").map (fun d => d.parameters.length) = some 4 := by decide +kernel
theorem m_qp_39 : m_qP 39 4 := by
  unfold m_qP
  rw [m_q_39]
  exact ⟨m_lt rfl, m_w457, m_pl_5, m_qd_39⟩
theorem m_qd_40 : (parseMethodDescriptor "(II)V").map (fun d => d.parameters.length) = some 2 := by decide +kernel
theorem m_qp_40 : m_qP 40 2 := by
  unfold m_qP
  rw [m_q_40]
  exact ⟨m_lt rfl, m_w479, m_pl_0, m_qd_40⟩
theorem m_qd_41 : (parseMethodDescriptor "()I").map (fun d => d.parameters.length) = some 0 := by decide +kernel
theorem m_qp_41 : m_qP 41 0 := by
  unfold m_qP
  rw [m_q_41]
  exact ⟨m_lt rfl, m_w378, m_pl_8, m_qd_41⟩
theorem m_qd_42 : (parseMethodDescriptor "(LShelfSlots$Shed;)I").map (fun d => d.parameters.length) = some 1 := by decide +kernel
theorem m_qp_42 : m_qP 42 1 := by
  unfold m_qP
  rw [m_q_42]
  exact ⟨m_lt rfl, m_w382, m_pl_3, m_qd_42⟩
theorem m_qd_43 : (parseMethodDescriptor "()V").map (fun d => d.parameters.length) = some 0 := by decide +kernel
theorem m_qp_43 : m_qP 43 0 := by
  unfold m_qP
  rw [m_q_43]
  exact ⟨m_lt rfl, m_w386, m_pl_6, m_qd_43⟩
theorem m_qd_44 : (parseMethodDescriptor "(LShelfSlots$Shed;)Z").map (fun d => d.parameters.length) = some 1 := by decide +kernel
theorem m_qp_44 : m_qP 44 1 := by
  unfold m_qP
  rw [m_q_44]
  exact ⟨m_lt rfl, m_w391, m_pl_3, m_qd_44⟩
theorem m_qd_45 : (parseMethodDescriptor "()F").map (fun d => d.parameters.length) = some 0 := by decide +kernel
theorem m_qp_45 : m_qP 45 0 := by
  unfold m_qP
  rw [m_q_45]
  exact ⟨m_lt rfl, m_w249, m_pl_6, m_qd_45⟩
theorem m_qd_46 : (parseMethodDescriptor "(LShelfSlots$Shed;)I").map (fun d => d.parameters.length) = some 1 := by decide +kernel
theorem m_qp_46 : m_qP 46 1 := by
  unfold m_qP
  rw [m_q_46]
  exact ⟨m_lt rfl, m_w396, m_pl_7, m_qd_46⟩
theorem m_qd_47 : (parseMethodDescriptor "(II)Z").map (fun d => d.parameters.length) = some 2 := by decide +kernel
theorem m_qp_47 : m_qP 47 2 := by
  unfold m_qP
  rw [m_q_47]
  exact ⟨m_lt rfl, m_w418, m_pl_6, m_qd_47⟩
theorem m_qd_48 : (parseMethodDescriptor "()V").map (fun d => d.parameters.length) = some 0 := by decide +kernel
theorem m_qp_48 : m_qP 48 0 := by
  unfold m_qP
  rw [m_q_48]
  exact ⟨m_lt rfl, m_w424, m_pl_6, m_qd_48⟩
theorem m_qd_49 : (parseMethodDescriptor "(II)I").map (fun d => d.parameters.length) = some 2 := by decide +kernel
theorem m_qp_49 : m_qP 49 2 := by
  unfold m_qP
  rw [m_q_49]
  exact ⟨m_lt rfl, m_w499, m_pl_8, m_qd_49⟩
theorem m_qd_50 : (parseMethodDescriptor "(F)I").map (fun d => d.parameters.length) = some 1 := by decide +kernel
theorem m_qp_50 : m_qP 50 1 := by
  unfold m_qP
  rw [m_q_50]
  exact ⟨m_lt rfl, m_w256, m_pl_10, m_qd_50⟩
theorem m_qd_51 : (parseMethodDescriptor "(D)I").map (fun d => d.parameters.length) = some 1 := by decide +kernel
theorem m_qp_51 : m_qP 51 1 := by
  unfold m_qP
  rw [m_q_51]
  exact ⟨m_lt rfl, m_w259, m_pl_10, m_qd_51⟩
theorem m_qd_52 : (parseMethodDescriptor "(DI)D").map (fun d => d.parameters.length) = some 2 := by decide +kernel
theorem m_qp_52 : m_qP 52 2 := by
  unfold m_qP
  rw [m_q_52]
  exact ⟨m_lt rfl, m_w263, m_pl_10, m_qd_52⟩
theorem m_qd_53 : (parseMethodDescriptor "(II)I").map (fun d => d.parameters.length) = some 2 := by decide +kernel
theorem m_qp_53 : m_qP 53 2 := by
  unfold m_qP
  rw [m_q_53]
  exact ⟨m_lt rfl, m_w511, m_pl_8, m_qd_53⟩
theorem m_qd_54 : (parseMethodDescriptor "(II)I").map (fun d => d.parameters.length) = some 2 := by decide +kernel
theorem m_qp_54 : m_qP 54 2 := by
  unfold m_qP
  rw [m_q_54]
  exact ⟨m_lt rfl, m_w517, m_pl_8, m_qd_54⟩
theorem m_qd_55 : (parseMethodDescriptor "(III)I").map (fun d => d.parameters.length) = some 3 := by decide +kernel
theorem m_qp_55 : m_qP 55 3 := by
  unfold m_qP
  rw [m_q_55]
  exact ⟨m_lt rfl, m_w504, m_pl_8, m_qd_55⟩
theorem m_qd_56 : (parseMethodDescriptor "(I)I").map (fun d => d.parameters.length) = some 1 := by decide +kernel
theorem m_qp_56 : m_qP 56 1 := by
  unfold m_qP
  rw [m_q_56]
  exact ⟨m_lt rfl, m_w522, m_pl_8, m_qd_56⟩
theorem m_qd_57 : (parseMethodDescriptor "(I)I").map (fun d => d.parameters.length) = some 1 := by decide +kernel
theorem m_qp_57 : m_qP 57 1 := by
  unfold m_qP
  rw [m_q_57]
  exact ⟨m_lt rfl, m_w241, m_pl_8, m_qd_57⟩
theorem m_qd_58 : (parseMethodDescriptor "()I").map (fun d => d.parameters.length) = some 0 := by decide +kernel
theorem m_qp_58 : m_qP 58 0 := by
  unfold m_qP
  rw [m_q_58]
  exact ⟨m_lt rfl, m_w245, m_pl_0, m_qd_58⟩
theorem m_qd_59 : (parseMethodDescriptor "()I").map (fun d => d.parameters.length) = some 0 := by decide +kernel
theorem m_qp_59 : m_qP 59 0 := by
  unfold m_qP
  rw [m_q_59]
  exact ⟨m_lt rfl, m_w272, m_pl_6, m_qd_59⟩
theorem m_qd_60 : (parseMethodDescriptor "()J").map (fun d => d.parameters.length) = some 0 := by decide +kernel
theorem m_qp_60 : m_qP 60 0 := by
  unfold m_qP
  rw [m_q_60]
  exact ⟨m_lt rfl, m_w486, m_pl_8, m_qd_60⟩
theorem m_qd_61 : (parseMethodDescriptor "()D").map (fun d => d.parameters.length) = some 0 := by decide +kernel
theorem m_qp_61 : m_qP 61 0 := by
  unfold m_qP
  rw [m_q_61]
  exact ⟨m_lt rfl, m_w490, m_pl_6, m_qd_61⟩
theorem m_qd_62 : (parseMethodDescriptor "(D)J").map (fun d => d.parameters.length) = some 1 := by decide +kernel
theorem m_qp_62 : m_qP 62 1 := by
  unfold m_qP
  rw [m_q_62]
  exact ⟨m_lt rfl, m_w493, m_pl_10, m_qd_62⟩
theorem m_qd_63 : (parseMethodDescriptor "(I)I").map (fun d => d.parameters.length) = some 1 := by decide +kernel
theorem m_qp_63 : m_qP 63 1 := by
  unfold m_qP
  rw [m_q_63]
  exact ⟨m_lt rfl, m_w527, m_pl_8, m_qd_63⟩
theorem m_qd_64 : (parseMethodDescriptor "(II)I").map (fun d => d.parameters.length) = some 2 := by decide +kernel
theorem m_qp_64 : m_qP 64 2 := by
  unfold m_qP
  rw [m_q_64]
  exact ⟨m_lt rfl, m_w565, m_pl_8, m_qd_64⟩
theorem m_qd_65 : (parseMethodDescriptor "(I)I").map (fun d => d.parameters.length) = some 1 := by decide +kernel
theorem m_qp_65 : m_qP 65 1 := by
  unfold m_qP
  rw [m_q_65]
  exact ⟨m_lt rfl, m_w569, m_pl_7, m_qd_65⟩
theorem m_qd_66 : (parseMethodDescriptor "(I)I").map (fun d => d.parameters.length) = some 1 := by decide +kernel
theorem m_qp_66 : m_qP 66 1 := by
  unfold m_qP
  rw [m_q_66]
  exact ⟨m_lt rfl, m_w550, m_pl_8, m_qd_66⟩
theorem m_qd_67 : (parseMethodDescriptor "(LShelfSlots$Shed;I)I").map (fun d => d.parameters.length) = some 2 := by decide +kernel
theorem m_qp_67 : m_qP 67 2 := by
  unfold m_qP
  rw [m_q_67]
  exact ⟨m_lt rfl, m_w554, m_pl_7, m_qd_67⟩
theorem m_qd_68 : (parseMethodDescriptor "(LShelfSlots$Shed;I)I").map (fun d => d.parameters.length) = some 2 := by decide +kernel
theorem m_qp_68 : m_qP 68 2 := by
  unfold m_qP
  rw [m_q_68]
  exact ⟨m_lt rfl, m_w558, m_pl_7, m_qd_68⟩
theorem m_qd_69 : (parseMethodDescriptor "(I)I").map (fun d => d.parameters.length) = some 1 := by decide +kernel
theorem m_qp_69 : m_qP 69 1 := by
  unfold m_qP
  rw [m_q_69]
  exact ⟨m_lt rfl, m_w534, m_pl_8, m_qd_69⟩
theorem m_qd_70 : (parseMethodDescriptor "(II)I").map (fun d => d.parameters.length) = some 2 := by decide +kernel
theorem m_qp_70 : m_qP 70 2 := by
  unfold m_qP
  rw [m_q_70]
  exact ⟨m_lt rfl, m_w541, m_pl_8, m_qd_70⟩
theorem m_qd_92 : (parseMethodDescriptor "()I").map (fun d => d.parameters.length) = some 0 := by decide +kernel
theorem m_qp_92 : m_qP 92 0 := by
  unfold m_qP
  rw [m_q_92]
  exact ⟨m_lt rfl, m_w280, m_pl_8, m_qd_92⟩
theorem m_qd_93 : (parseMethodDescriptor "(LShelfSlots$Shed;)I").map (fun d => d.parameters.length) = some 1 := by decide +kernel
theorem m_qp_93 : m_qP 93 1 := by
  unfold m_qP
  rw [m_q_93]
  exact ⟨m_lt rfl, m_w284, m_pl_2, m_qd_93⟩
theorem m_qd_96 : (parseMethodDescriptor "(LShelfSlots;I)I").map (fun d => d.parameters.length) = some 2 := by decide +kernel
theorem m_qp_96 : m_qP 96 2 := by
  unfold m_qP
  rw [m_q_96]
  exact ⟨m_lt rfl, m_w302, m_pl_11, m_qd_96⟩
theorem m_qd_97 : (parseMethodDescriptor "(LShelfSlots;LShelfSlots;)Z").map (fun d => d.parameters.length) = some 2 := by decide +kernel
theorem m_qp_97 : m_qP 97 2 := by
  unfold m_qP
  rw [m_q_97]
  exact ⟨m_lt rfl, m_w482, m_pl_11, m_qd_97⟩
theorem m_qd_98 : (parseMethodDescriptor "(LShelfSlots;)Z").map (fun d => d.parameters.length) = some 1 := by decide +kernel
theorem m_qp_98 : m_qP 98 1 := by
  unfold m_qP
  rw [m_q_98]
  exact ⟨m_lt rfl, m_w507, m_pl_11, m_qd_98⟩
theorem m_qd_99 : (parseMethodDescriptor "(LShelfSlots;I)Z").map (fun d => d.parameters.length) = some 2 := by decide +kernel
theorem m_qp_99 : m_qP 99 2 := by
  unfold m_qP
  rw [m_q_99]
  exact ⟨m_lt rfl, m_w546, m_pl_11, m_qd_99⟩
theorem m_qd_100 : (parseMethodDescriptor "([II)I").map (fun d => d.parameters.length) = some 2 := by decide +kernel
theorem m_qp_100 : m_qP 100 2 := by
  unfold m_qP
  rw [m_q_100]
  exact ⟨m_lt rfl, m_w299, m_pl_11, m_qd_100⟩
theorem m_qd_101 : (parseMethodDescriptor "(LShelfSlots;)Z").map (fun d => d.parameters.length) = some 1 := by decide +kernel
theorem m_qp_101 : m_qP 101 1 := by
  unfold m_qP
  rw [m_q_101]
  exact ⟨m_lt rfl, m_w530, m_pl_11, m_qd_101⟩
theorem m_qd_102 : (parseMethodDescriptor "(II)I").map (fun d => d.parameters.length) = some 2 := by decide +kernel
theorem m_qp_102 : m_qP 102 2 := by
  unfold m_qP
  rw [m_q_102]
  exact ⟨m_lt rfl, m_w305, m_pl_11, m_qd_102⟩
set_option maxRecDepth 20000 in
theorem m_flx_0 : ∀ e ∈ m_fl.getD 0 [], m_flP "ShelfSlots$Day" e := List.forall_mem_cons.mpr ⟨⟨Nat.le_of_ble_eq_true rfl, Nat.le_of_ble_eq_true rfl, m_w42, rfl, rfl, rfl⟩, List.forall_mem_cons.mpr ⟨⟨Nat.le_of_ble_eq_true rfl, Nat.le_of_ble_eq_true rfl, m_w45, rfl, rfl, rfl⟩, List.forall_mem_cons.mpr ⟨⟨Nat.le_of_ble_eq_true rfl, Nat.le_of_ble_eq_true rfl, m_w47, rfl, rfl, rfl⟩, fun _ h => absurd h List.not_mem_nil⟩⟩⟩
set_option maxRecDepth 20000 in
theorem m_mtx_0 : ∀ e ∈ m_mt.getD 0 [], m_mtP "ShelfSlots$Day" e := List.forall_mem_cons.mpr ⟨⟨m_w41, m_w28, m_w29⟩, List.forall_mem_cons.mpr ⟨⟨m_w296, m_w291, m_w290, m_w19⟩, fun _ h => absurd h List.not_mem_nil⟩⟩
theorem m_ctx_0 : ∀ e ∈ m_ct.getD 0 [], m_ctP "ShelfSlots$Day" e := fun _ h => absurd h List.not_mem_nil
theorem m_cnx_0 : ∀ e ∈ m_cn.getD 0 [], m_cnP "ShelfSlots$Day" e := fun _ h => absurd h List.not_mem_nil
set_option maxRecDepth 20000 in
theorem m_flx_1 : ∀ e ∈ m_fl.getD 1 [], m_flP "ShelfSlots$Grammar" e := fun _ h => absurd h List.not_mem_nil
set_option maxRecDepth 20000 in
theorem m_mtx_1 : ∀ e ∈ m_mt.getD 1 [], m_mtP "ShelfSlots$Grammar" e := List.forall_mem_cons.mpr ⟨⟨m_w171, m_w28, m_w29⟩, fun _ h => absurd h List.not_mem_nil⟩
theorem m_ctx_1 : ∀ e ∈ m_ct.getD 1 [], m_ctP "ShelfSlots$Grammar" e := fun _ h => absurd h List.not_mem_nil
theorem m_cnx_1 : ∀ e ∈ m_cn.getD 1 [], m_cnP "ShelfSlots$Grammar" e := fun _ h => absurd h List.not_mem_nil
set_option maxRecDepth 20000 in
theorem m_flx_2 : ∀ e ∈ m_fl.getD 2 [], m_flP "ShelfSlots$History" e := List.forall_mem_cons.mpr ⟨⟨Nat.le_of_ble_eq_true rfl, Nat.le_of_ble_eq_true rfl, m_w201, rfl, rfl, rfl⟩, List.forall_mem_cons.mpr ⟨⟨Nat.le_of_ble_eq_true rfl, Nat.le_of_ble_eq_true rfl, m_w202, rfl, rfl, rfl⟩, List.forall_mem_cons.mpr ⟨⟨Nat.le_of_ble_eq_true rfl, Nat.le_of_ble_eq_true rfl, m_w203, rfl, rfl, rfl⟩, fun _ h => absurd h List.not_mem_nil⟩⟩⟩
set_option maxRecDepth 20000 in
theorem m_mtx_2 : ∀ e ∈ m_mt.getD 2 [], m_mtP "ShelfSlots$History" e := List.forall_mem_cons.mpr ⟨⟨m_w197, m_w28, m_w29⟩, List.forall_mem_cons.mpr ⟨⟨m_w200, m_w33, m_w10, m_qp_1, rfl, rfl⟩, List.forall_mem_cons.mpr ⟨⟨m_w285, m_w286, m_w287, m_w10, m_qp_10, Nat.le_of_ble_eq_true rfl, rfl⟩, List.forall_mem_cons.mpr ⟨⟨m_w330, m_w266, m_w18, m_w267⟩, fun _ h => absurd h List.not_mem_nil⟩⟩⟩⟩
theorem m_ctx_2 : ∀ e ∈ m_ct.getD 2 [], m_ctP "ShelfSlots$History" e := fun _ h => absurd h List.not_mem_nil
theorem m_cnx_2 : ∀ e ∈ m_cn.getD 2 [], m_cnP "ShelfSlots$History" e := List.forall_mem_cons.mpr ⟨⟨Nat.le_of_ble_eq_true rfl, m_w198, m_w31, m_w10⟩, fun _ h => absurd h List.not_mem_nil⟩
set_option maxRecDepth 20000 in
theorem m_flx_3 : ∀ e ∈ m_fl.getD 3 [], m_flP "ShelfSlots$Mover" e := List.forall_mem_cons.mpr ⟨⟨Nat.le_of_ble_eq_true rfl, Nat.le_of_ble_eq_true rfl, m_w61, rfl, rfl, rfl⟩, List.forall_mem_cons.mpr ⟨⟨Nat.le_of_ble_eq_true rfl, Nat.le_of_ble_eq_true rfl, m_w88, rfl, rfl, rfl⟩, List.forall_mem_cons.mpr ⟨⟨Nat.le_of_ble_eq_true rfl, Nat.le_of_ble_eq_true rfl, m_w93, rfl, rfl, rfl⟩, List.forall_mem_cons.mpr ⟨⟨Nat.le_of_ble_eq_true rfl, Nat.le_of_ble_eq_true rfl, m_w148, rfl, rfl, rfl⟩, List.forall_mem_cons.mpr ⟨⟨Nat.le_of_ble_eq_true rfl, Nat.le_of_ble_eq_true rfl, m_w149, rfl, rfl, rfl⟩, List.forall_mem_cons.mpr ⟨⟨Nat.le_of_ble_eq_true rfl, Nat.le_of_ble_eq_true rfl, m_w151, rfl, rfl, rfl⟩, fun _ h => absurd h List.not_mem_nil⟩⟩⟩⟩⟩⟩
set_option maxRecDepth 20000 in
theorem m_mtx_3 : ∀ e ∈ m_mt.getD 3 [], m_mtP "ShelfSlots$Mover" e := List.forall_mem_cons.mpr ⟨⟨m_w147, m_w28, m_w29⟩, List.forall_mem_cons.mpr ⟨⟨m_w383, m_w384, m_w385, m_w10, m_qp_43, Nat.le_of_ble_eq_true rfl, rfl⟩, List.forall_mem_cons.mpr ⟨⟨m_w388, m_w389, m_w390, m_w13, m_qp_44, Nat.le_of_ble_eq_true rfl, rfl⟩, List.forall_mem_cons.mpr ⟨⟨m_w392, m_w247, m_w248, m_w10, m_qp_45, Nat.le_of_ble_eq_true rfl, rfl⟩, List.forall_mem_cons.mpr ⟨⟨m_w393, m_w394, m_w395, m_w12, m_qp_46, Nat.le_of_ble_eq_true rfl, rfl⟩, List.forall_mem_cons.mpr ⟨⟨m_w415, m_w416, m_w417, m_w10, m_qp_47, Nat.le_of_ble_eq_true rfl, rfl⟩, List.forall_mem_cons.mpr ⟨⟨m_w419, m_w344, m_w345, m_w10, m_qp_21, Nat.le_of_ble_eq_true rfl, rfl⟩, List.forall_mem_cons.mpr ⟨⟨m_w420, m_w340, m_w341, m_w10, m_qp_20, Nat.le_of_ble_eq_true rfl, rfl⟩, List.forall_mem_cons.mpr ⟨⟨m_w421, m_w422, m_w423, m_w10, m_qp_48, Nat.le_of_ble_eq_true rfl, rfl⟩, fun _ h => absurd h List.not_mem_nil⟩⟩⟩⟩⟩⟩⟩⟩⟩
theorem m_ctx_3 : ∀ e ∈ m_ct.getD 3 [], m_ctP "ShelfSlots$Mover" e := fun _ h => absurd h List.not_mem_nil
theorem m_cnx_3 : ∀ e ∈ m_cn.getD 3 [], m_cnP "ShelfSlots$Mover" e := fun _ h => absurd h List.not_mem_nil
set_option maxRecDepth 20000 in
theorem m_flx_4 : ∀ e ∈ m_fl.getD 4 [], m_flP "ShelfSlots$Pad" e := List.forall_mem_cons.mpr ⟨⟨Nat.le_of_ble_eq_true rfl, Nat.le_of_ble_eq_true rfl, m_w180, rfl, rfl, rfl⟩, List.forall_mem_cons.mpr ⟨⟨Nat.le_of_ble_eq_true rfl, Nat.le_of_ble_eq_true rfl, m_w181, rfl, rfl, rfl⟩, fun _ h => absurd h List.not_mem_nil⟩⟩
set_option maxRecDepth 20000 in
theorem m_mtx_4 : ∀ e ∈ m_mt.getD 4 [], m_mtP "ShelfSlots$Pad" e := List.forall_mem_cons.mpr ⟨⟨m_w165, m_w28, m_w29⟩, List.forall_mem_cons.mpr ⟨⟨rfl, m_w169, m_w15, m_qp_6, rfl, rfl⟩, fun _ h => absurd h List.not_mem_nil⟩⟩
theorem m_ctx_4 : ∀ e ∈ m_ct.getD 4 [], m_ctP "ShelfSlots$Pad" e := fun _ h => absurd h List.not_mem_nil
theorem m_cnx_4 : ∀ e ∈ m_cn.getD 4 [], m_cnP "ShelfSlots$Pad" e := List.forall_mem_cons.mpr ⟨⟨Nat.le_of_ble_eq_true rfl, m_w166, m_w167, m_w15⟩, fun _ h => absurd h List.not_mem_nil⟩
set_option maxRecDepth 20000 in
theorem m_flx_5 : ∀ e ∈ m_fl.getD 5 [], m_flP "ShelfSlots$Picked" e := List.forall_mem_cons.mpr ⟨⟨Nat.le_of_ble_eq_true rfl, Nat.le_of_ble_eq_true rfl, m_w459, rfl, rfl, rfl⟩, List.forall_mem_cons.mpr ⟨⟨Nat.le_of_ble_eq_true rfl, Nat.le_of_ble_eq_true rfl, m_w461, rfl, rfl, rfl⟩, List.forall_mem_cons.mpr ⟨⟨Nat.le_of_ble_eq_true rfl, Nat.le_of_ble_eq_true rfl, m_w463, rfl, rfl, rfl⟩, List.forall_mem_cons.mpr ⟨⟨Nat.le_of_ble_eq_true rfl, Nat.le_of_ble_eq_true rfl, m_w465, rfl, rfl, rfl⟩, fun _ h => absurd h List.not_mem_nil⟩⟩⟩⟩
set_option maxRecDepth 20000 in
theorem m_mtx_5 : ∀ e ∈ m_mt.getD 5 [], m_mtP "ShelfSlots$Picked" e := List.forall_mem_cons.mpr ⟨⟨m_w458, m_w28, m_w29⟩, fun _ h => absurd h List.not_mem_nil⟩
theorem m_ctx_5 : ∀ e ∈ m_ct.getD 5 [], m_ctP "ShelfSlots$Picked" e := fun _ h => absurd h List.not_mem_nil
theorem m_cnx_5 : ∀ e ∈ m_cn.getD 5 [], m_cnP "ShelfSlots$Picked" e := fun _ h => absurd h List.not_mem_nil
set_option maxRecDepth 20000 in
theorem m_flx_6 : ∀ e ∈ m_fl.getD 6 [], m_flP "ShelfSlots$Shed" e := List.forall_mem_cons.mpr ⟨⟨Nat.le_of_ble_eq_true rfl, Nat.le_of_ble_eq_true rfl, m_w50, rfl, rfl, rfl⟩, List.forall_mem_cons.mpr ⟨⟨Nat.le_of_ble_eq_true rfl, Nat.le_of_ble_eq_true rfl, m_w60, rfl, rfl, rfl⟩, List.forall_mem_cons.mpr ⟨⟨Nat.le_of_ble_eq_true rfl, Nat.le_of_ble_eq_true rfl, m_w64, rfl, rfl, rfl⟩, List.forall_mem_cons.mpr ⟨⟨Nat.le_of_ble_eq_true rfl, Nat.le_of_ble_eq_true rfl, m_w67, rfl, rfl, rfl⟩, List.forall_mem_cons.mpr ⟨⟨Nat.le_of_ble_eq_true rfl, Nat.le_of_ble_eq_true rfl, m_w69, rfl, rfl, rfl⟩, List.forall_mem_cons.mpr ⟨⟨Nat.le_of_ble_eq_true rfl, Nat.le_of_ble_eq_true rfl, m_w71, rfl, rfl, rfl⟩, List.forall_mem_cons.mpr ⟨⟨Nat.le_of_ble_eq_true rfl, Nat.le_of_ble_eq_true rfl, m_w73, rfl, rfl, rfl⟩, List.forall_mem_cons.mpr ⟨⟨Nat.le_of_ble_eq_true rfl, Nat.le_of_ble_eq_true rfl, m_w75, rfl, rfl, rfl⟩, List.forall_mem_cons.mpr ⟨⟨Nat.le_of_ble_eq_true rfl, Nat.le_of_ble_eq_true rfl, m_w77, rfl, rfl, rfl⟩, List.forall_mem_cons.mpr ⟨⟨Nat.le_of_ble_eq_true rfl, Nat.le_of_ble_eq_true rfl, m_w80, rfl, rfl, rfl⟩, List.forall_mem_cons.mpr ⟨⟨Nat.le_of_ble_eq_true rfl, Nat.le_of_ble_eq_true rfl, m_w82, rfl, rfl, rfl⟩, List.forall_mem_cons.mpr ⟨⟨Nat.le_of_ble_eq_true rfl, Nat.le_of_ble_eq_true rfl, m_w83, rfl, rfl, rfl⟩, List.forall_mem_cons.mpr ⟨⟨Nat.le_of_ble_eq_true rfl, Nat.le_of_ble_eq_true rfl, m_w84, rfl, rfl, rfl⟩, List.forall_mem_cons.mpr ⟨⟨Nat.le_of_ble_eq_true rfl, Nat.le_of_ble_eq_true rfl, m_w86, rfl, rfl, rfl⟩, List.forall_mem_cons.mpr ⟨⟨Nat.le_of_ble_eq_true rfl, Nat.le_of_ble_eq_true rfl, m_w89, rfl, rfl, rfl⟩, List.forall_mem_cons.mpr ⟨⟨Nat.le_of_ble_eq_true rfl, Nat.le_of_ble_eq_true rfl, m_w91, rfl, rfl, rfl⟩, List.forall_mem_cons.mpr ⟨⟨Nat.le_of_ble_eq_true rfl, Nat.le_of_ble_eq_true rfl, m_w94, rfl, rfl, rfl⟩, List.forall_mem_cons.mpr ⟨⟨Nat.le_of_ble_eq_true rfl, Nat.le_of_ble_eq_true rfl, m_w460, rfl, rfl, rfl⟩, List.forall_mem_cons.mpr ⟨⟨Nat.le_of_ble_eq_true rfl, Nat.le_of_ble_eq_true rfl, m_w462, rfl, rfl, rfl⟩, List.forall_mem_cons.mpr ⟨⟨Nat.le_of_ble_eq_true rfl, Nat.le_of_ble_eq_true rfl, m_w464, rfl, rfl, rfl⟩, List.forall_mem_cons.mpr ⟨⟨Nat.le_of_ble_eq_true rfl, Nat.le_of_ble_eq_true rfl, m_w466, rfl, rfl, rfl⟩, fun _ h => absurd h List.not_mem_nil⟩⟩⟩⟩⟩⟩⟩⟩⟩⟩⟩⟩⟩⟩⟩⟩⟩⟩⟩⟩⟩
set_option maxRecDepth 20000 in
theorem m_mtx_6 : ∀ e ∈ m_mt.getD 6 [], m_mtP "ShelfSlots$Shed" e := List.forall_mem_cons.mpr ⟨⟨m_w35, m_w28, m_w29⟩, List.forall_mem_cons.mpr ⟨⟨rfl, m_w39, m_w11, m_qp_2, rfl, rfl⟩, List.forall_mem_cons.mpr ⟨⟨m_w250, m_w251, m_w252, m_w10, m_qp_35, Nat.le_of_ble_eq_true rfl, rfl⟩, List.forall_mem_cons.mpr ⟨⟨m_w289, m_w291, m_w290, m_w19⟩, List.forall_mem_cons.mpr ⟨⟨m_w292, m_w293, m_w294, m_w11, m_qp_11, Nat.le_of_ble_eq_true rfl, rfl⟩, List.forall_mem_cons.mpr ⟨⟨m_w319, m_w320, m_w10, m_qp_17⟩, List.forall_mem_cons.mpr ⟨⟨m_w339, m_w340, m_w341, m_w10, m_qp_20, Nat.le_of_ble_eq_true rfl, rfl⟩, List.forall_mem_cons.mpr ⟨⟨m_w343, m_w344, m_w345, m_w10, m_qp_21, Nat.le_of_ble_eq_true rfl, rfl⟩, List.forall_mem_cons.mpr ⟨⟨m_w347, m_w349, m_w1, m_w10, m_qp_22, Nat.le_of_ble_eq_true rfl, rfl⟩, List.forall_mem_cons.mpr ⟨⟨m_w351, m_w353, m_w2, m_w10, m_qp_23, Nat.le_of_ble_eq_true rfl, rfl⟩, List.forall_mem_cons.mpr ⟨⟨m_w363, m_w364, m_w365, m_w10, m_qp_26, Nat.le_of_ble_eq_true rfl, rfl⟩, List.forall_mem_cons.mpr ⟨⟨m_w450, m_w451, m_w452, m_w10, m_qp_37, Nat.le_of_ble_eq_true rfl, rfl⟩, List.forall_mem_cons.mpr ⟨⟨m_w454, m_w274, m_w275, m_w10, m_qp_38, Nat.le_of_ble_eq_true rfl, rfl⟩, List.forall_mem_cons.mpr ⟨⟨m_w455, m_w456, m_w21, m_qp_39, rfl, rfl⟩, List.forall_mem_cons.mpr ⟨⟨m_w476, m_w477, m_w478, m_w11, m_qp_40, Nat.le_of_ble_eq_true rfl, rfl⟩, fun _ h => absurd h List.not_mem_nil⟩⟩⟩⟩⟩⟩⟩⟩⟩⟩⟩⟩⟩⟩⟩
theorem m_ctx_6 : ∀ e ∈ m_ct.getD 6 [], m_ctP "ShelfSlots$Shed" e := List.forall_mem_cons.mpr ⟨m_w387, fun _ h => absurd h List.not_mem_nil⟩
theorem m_cnx_6 : ∀ e ∈ m_cn.getD 6 [], m_cnP "ShelfSlots$Shed" e := List.forall_mem_cons.mpr ⟨⟨Nat.le_of_ble_eq_true rfl, m_w36, m_w37, m_w11⟩, List.forall_mem_cons.mpr ⟨⟨Nat.le_of_ble_eq_true rfl, m_w448, m_w449, m_w21⟩, fun _ h => absurd h List.not_mem_nil⟩⟩
set_option maxRecDepth 20000 in
theorem m_flx_7 : ∀ e ∈ m_fl.getD 7 [], m_flP "ShelfSlots$Walker" e := List.forall_mem_cons.mpr ⟨⟨Nat.le_of_ble_eq_true rfl, Nat.le_of_ble_eq_true rfl, m_w43, rfl, rfl, rfl⟩, List.forall_mem_cons.mpr ⟨⟨Nat.le_of_ble_eq_true rfl, Nat.le_of_ble_eq_true rfl, m_w48, rfl, rfl, rfl⟩, List.forall_mem_cons.mpr ⟨⟨Nat.le_of_ble_eq_true rfl, Nat.le_of_ble_eq_true rfl, m_w62, rfl, rfl, rfl⟩, List.forall_mem_cons.mpr ⟨⟨Nat.le_of_ble_eq_true rfl, Nat.le_of_ble_eq_true rfl, m_w65, rfl, rfl, rfl⟩, List.forall_mem_cons.mpr ⟨⟨Nat.le_of_ble_eq_true rfl, Nat.le_of_ble_eq_true rfl, m_w78, rfl, rfl, rfl⟩, List.forall_mem_cons.mpr ⟨⟨Nat.le_of_ble_eq_true rfl, Nat.le_of_ble_eq_true rfl, m_w135, rfl, rfl, rfl⟩, List.forall_mem_cons.mpr ⟨⟨Nat.le_of_ble_eq_true rfl, Nat.le_of_ble_eq_true rfl, m_w136, rfl, rfl, rfl⟩, fun _ h => absurd h List.not_mem_nil⟩⟩⟩⟩⟩⟩⟩
set_option maxRecDepth 20000 in
theorem m_mtx_7 : ∀ e ∈ m_mt.getD 7 [], m_mtP "ShelfSlots$Walker" e := List.forall_mem_cons.mpr ⟨⟨m_w134, m_w28, m_w29⟩, List.forall_mem_cons.mpr ⟨⟨m_w397, m_w398, m_w399, m_w12, m_qp_31, Nat.le_of_ble_eq_true rfl, rfl⟩, List.forall_mem_cons.mpr ⟨⟨m_w401, m_w403, m_w3, m_w12, m_qp_32, Nat.le_of_ble_eq_true rfl, rfl⟩, List.forall_mem_cons.mpr ⟨⟨m_w406, m_w407, m_w408, m_w10, m_qp_33, Nat.le_of_ble_eq_true rfl, rfl⟩, List.forall_mem_cons.mpr ⟨⟨m_w410, m_w412, m_w4, m_w12, m_qp_34, Nat.le_of_ble_eq_true rfl, rfl⟩, List.forall_mem_cons.mpr ⟨⟨m_w414, m_w251, m_w252, m_w10, m_qp_35, Nat.le_of_ble_eq_true rfl, rfl⟩, List.forall_mem_cons.mpr ⟨⟨m_w555, m_w557, m_w7, m_w12, m_qp_68, Nat.le_of_ble_eq_true rfl, rfl⟩, List.forall_mem_cons.mpr ⟨⟨m_w559, m_w560, m_w18, m_w561⟩, fun _ h => absurd h List.not_mem_nil⟩⟩⟩⟩⟩⟩⟩⟩
theorem m_ctx_7 : ∀ e ∈ m_ct.getD 7 [], m_ctP "ShelfSlots$Walker" e := List.forall_mem_cons.mpr ⟨m_w405, fun _ h => absurd h List.not_mem_nil⟩
theorem m_cnx_7 : ∀ e ∈ m_cn.getD 7 [], m_cnP "ShelfSlots$Walker" e := fun _ h => absurd h List.not_mem_nil
set_option maxRecDepth 20000 in
theorem m_flx_8 : ∀ e ∈ m_fl.getD 8 [], m_flP "ShelfSlots" e := List.forall_mem_cons.mpr ⟨⟨Nat.le_of_ble_eq_true rfl, Nat.le_of_ble_eq_true rfl, m_w44, rfl, rfl, rfl⟩, List.forall_mem_cons.mpr ⟨⟨Nat.le_of_ble_eq_true rfl, Nat.le_of_ble_eq_true rfl, m_w46, rfl, rfl, rfl⟩, List.forall_mem_cons.mpr ⟨⟨Nat.le_of_ble_eq_true rfl, Nat.le_of_ble_eq_true rfl, m_w49, rfl, rfl, rfl⟩, List.forall_mem_cons.mpr ⟨⟨Nat.le_of_ble_eq_true rfl, Nat.le_of_ble_eq_true rfl, m_w63, rfl, rfl, rfl⟩, List.forall_mem_cons.mpr ⟨⟨Nat.le_of_ble_eq_true rfl, Nat.le_of_ble_eq_true rfl, m_w66, rfl, rfl, rfl⟩, List.forall_mem_cons.mpr ⟨⟨Nat.le_of_ble_eq_true rfl, Nat.le_of_ble_eq_true rfl, m_w68, rfl, rfl, rfl⟩, List.forall_mem_cons.mpr ⟨⟨Nat.le_of_ble_eq_true rfl, Nat.le_of_ble_eq_true rfl, m_w70, rfl, rfl, rfl⟩, List.forall_mem_cons.mpr ⟨⟨Nat.le_of_ble_eq_true rfl, Nat.le_of_ble_eq_true rfl, m_w72, rfl, rfl, rfl⟩, List.forall_mem_cons.mpr ⟨⟨Nat.le_of_ble_eq_true rfl, Nat.le_of_ble_eq_true rfl, m_w74, rfl, rfl, rfl⟩, List.forall_mem_cons.mpr ⟨⟨Nat.le_of_ble_eq_true rfl, Nat.le_of_ble_eq_true rfl, m_w76, rfl, rfl, rfl⟩, List.forall_mem_cons.mpr ⟨⟨Nat.le_of_ble_eq_true rfl, Nat.le_of_ble_eq_true rfl, m_w79, rfl, rfl, rfl⟩, List.forall_mem_cons.mpr ⟨⟨Nat.le_of_ble_eq_true rfl, Nat.le_of_ble_eq_true rfl, m_w81, rfl, rfl, rfl⟩, List.forall_mem_cons.mpr ⟨⟨Nat.le_of_ble_eq_true rfl, Nat.le_of_ble_eq_true rfl, m_w85, rfl, rfl, rfl⟩, List.forall_mem_cons.mpr ⟨⟨Nat.le_of_ble_eq_true rfl, Nat.le_of_ble_eq_true rfl, m_w87, rfl, rfl, rfl⟩, List.forall_mem_cons.mpr ⟨⟨Nat.le_of_ble_eq_true rfl, Nat.le_of_ble_eq_true rfl, m_w90, rfl, rfl, rfl⟩, List.forall_mem_cons.mpr ⟨⟨Nat.le_of_ble_eq_true rfl, Nat.le_of_ble_eq_true rfl, m_w92, rfl, rfl, rfl⟩, List.forall_mem_cons.mpr ⟨⟨Nat.le_of_ble_eq_true rfl, Nat.le_of_ble_eq_true rfl, m_w95, rfl, rfl, rfl⟩, List.forall_mem_cons.mpr ⟨⟨Nat.le_of_ble_eq_true rfl, Nat.le_of_ble_eq_true rfl, m_w150, rfl, rfl, rfl⟩, List.forall_mem_cons.mpr ⟨⟨Nat.le_of_ble_eq_true rfl, Nat.le_of_ble_eq_true rfl, m_w152, rfl, rfl, rfl⟩, List.forall_mem_cons.mpr ⟨⟨Nat.le_of_ble_eq_true rfl, Nat.le_of_ble_eq_true rfl, m_w182, rfl, rfl, rfl⟩, List.forall_mem_cons.mpr ⟨⟨Nat.le_of_ble_eq_true rfl, Nat.le_of_ble_eq_true rfl, m_w204, rfl, rfl, rfl⟩, List.forall_mem_cons.mpr ⟨⟨Nat.le_of_ble_eq_true rfl, Nat.le_of_ble_eq_true rfl, m_w212, rfl, rfl, rfl⟩, List.forall_mem_cons.mpr ⟨⟨Nat.le_of_ble_eq_true rfl, Nat.le_of_ble_eq_true rfl, m_w213, rfl, rfl, rfl⟩, List.forall_mem_cons.mpr ⟨⟨Nat.le_of_ble_eq_true rfl, Nat.le_of_ble_eq_true rfl, m_w214, rfl, rfl, rfl⟩, List.forall_mem_cons.mpr ⟨⟨Nat.le_of_ble_eq_true rfl, Nat.le_of_ble_eq_true rfl, m_w215, rfl, rfl, rfl⟩, List.forall_mem_cons.mpr ⟨⟨Nat.le_of_ble_eq_true rfl, Nat.le_of_ble_eq_true rfl, m_w216, rfl, rfl, rfl⟩, List.forall_mem_cons.mpr ⟨⟨Nat.le_of_ble_eq_true rfl, Nat.le_of_ble_eq_true rfl, m_w217, rfl, rfl, rfl⟩, List.forall_mem_cons.mpr ⟨⟨Nat.le_of_ble_eq_true rfl, Nat.le_of_ble_eq_true rfl, m_w218, rfl, rfl, rfl⟩, List.forall_mem_cons.mpr ⟨⟨Nat.le_of_ble_eq_true rfl, Nat.le_of_ble_eq_true rfl, m_w219, rfl, rfl, rfl⟩, fun _ h => absurd h List.not_mem_nil⟩⟩⟩⟩⟩⟩⟩⟩⟩⟩⟩⟩⟩⟩⟩⟩⟩⟩⟩⟩⟩⟩⟩⟩⟩⟩⟩⟩⟩
set_option maxRecDepth 20000 in
theorem m_mtx_8 : ∀ e ∈ m_mt.getD 8 [], m_mtP "ShelfSlots" e := List.forall_mem_cons.mpr ⟨⟨m_w27, m_w28, m_w29⟩, List.forall_mem_cons.mpr ⟨⟨m_w32, m_w33, m_w10, m_qp_1, rfl, rfl⟩, List.forall_mem_cons.mpr ⟨⟨rfl, m_w132, m_w12, m_qp_3, rfl, rfl⟩, List.forall_mem_cons.mpr ⟨⟨m_w144, m_w145, m_w13, m_qp_4, rfl, rfl⟩, List.forall_mem_cons.mpr ⟨⟨rfl, m_w163, m_w14, m_qp_5, rfl, rfl⟩, List.forall_mem_cons.mpr ⟨⟨m_w194, m_w195, m_w16, m_qp_7, rfl, rfl⟩, List.forall_mem_cons.mpr ⟨⟨m_w242, m_w243, m_w244, m_w11, m_qp_58, Nat.le_of_ble_eq_true rfl, rfl⟩, List.forall_mem_cons.mpr ⟨⟨m_w246, m_w247, m_w248, m_w10, m_qp_45, Nat.le_of_ble_eq_true rfl, rfl⟩, List.forall_mem_cons.mpr ⟨⟨m_w254, m_w255, m_w17, m_qp_50⟩, List.forall_mem_cons.mpr ⟨⟨m_w269, m_w270, m_w271, m_w10, m_qp_59, Nat.le_of_ble_eq_true rfl, rfl⟩, List.forall_mem_cons.mpr ⟨⟨m_w273, m_w274, m_w275, m_w10, m_qp_38, Nat.le_of_ble_eq_true rfl, rfl⟩, List.forall_mem_cons.mpr ⟨⟨m_w281, m_w282, m_w283, m_w16, m_qp_93, Nat.le_of_ble_eq_true rfl, rfl⟩, List.forall_mem_cons.mpr ⟨⟨m_w311, m_w312, m_w313, m_w16, m_qp_9, Nat.le_of_ble_eq_true rfl, rfl⟩, List.forall_mem_cons.mpr ⟨⟨m_w315, m_w316, m_w317, m_w10, m_qp_16, Nat.le_of_ble_eq_true rfl, rfl⟩, List.forall_mem_cons.mpr ⟨⟨m_w322, m_w324, m_w0, m_w9, m_qp_13, Nat.le_of_ble_eq_true rfl, rfl⟩, List.forall_mem_cons.mpr ⟨⟨m_w326, m_w327, m_w328, m_w16, m_qp_14, Nat.le_of_ble_eq_true rfl, rfl⟩, List.forall_mem_cons.mpr ⟨⟨m_w335, m_w336, m_w337, m_w10, m_qp_19, Nat.le_of_ble_eq_true rfl, rfl⟩, List.forall_mem_cons.mpr ⟨⟨m_w359, m_w360, m_w361, m_w10, m_qp_25, Nat.le_of_ble_eq_true rfl, rfl⟩, List.forall_mem_cons.mpr ⟨⟨m_w371, m_w372, m_w373, m_w10, m_qp_12, Nat.le_of_ble_eq_true rfl, rfl⟩, List.forall_mem_cons.mpr ⟨⟨m_w379, m_w380, m_w381, m_w13, m_qp_42, Nat.le_of_ble_eq_true rfl, rfl⟩, List.forall_mem_cons.mpr ⟨⟨m_w429, m_w431, m_w5, m_w9, m_qp_28, Nat.le_of_ble_eq_true rfl, rfl⟩, List.forall_mem_cons.mpr ⟨⟨m_w433, m_w435, m_w6, m_w9, m_qp_29, Nat.le_of_ble_eq_true rfl, rfl⟩, List.forall_mem_cons.mpr ⟨⟨m_w437, m_w438, m_w20, m_qp_30⟩, List.forall_mem_cons.mpr ⟨⟨m_w443, m_w398, m_w399, m_w12, m_qp_31, Nat.le_of_ble_eq_true rfl, rfl⟩, List.forall_mem_cons.mpr ⟨⟨m_w444, m_w445, m_w446, m_w10, m_qp_36, Nat.le_of_ble_eq_true rfl, rfl⟩, List.forall_mem_cons.mpr ⟨⟨m_w487, m_w488, m_w489, m_w10, m_qp_61, Nat.le_of_ble_eq_true rfl, rfl⟩, List.forall_mem_cons.mpr ⟨⟨m_w491, m_w492, m_w17, m_qp_62⟩, List.forall_mem_cons.mpr ⟨⟨m_w500, m_w251, m_w252, m_w10, m_qp_35, Nat.le_of_ble_eq_true rfl, rfl⟩, List.forall_mem_cons.mpr ⟨⟨m_w512, m_w320, m_w10, m_qp_17⟩, List.forall_mem_cons.mpr ⟨⟨m_w513, m_w364, m_w365, m_w10, m_qp_26, Nat.le_of_ble_eq_true rfl, rfl⟩, List.forall_mem_cons.mpr ⟨⟨m_w518, m_w407, m_w408, m_w10, m_qp_33, Nat.le_of_ble_eq_true rfl, rfl⟩, List.forall_mem_cons.mpr ⟨⟨m_w523, m_w451, m_w452, m_w10, m_qp_37, Nat.le_of_ble_eq_true rfl, rfl⟩, List.forall_mem_cons.mpr ⟨⟨m_w535, m_w286, m_w287, m_w10, m_qp_10, Nat.le_of_ble_eq_true rfl, rfl⟩, List.forall_mem_cons.mpr ⟨⟨m_w536, m_w384, m_w385, m_w10, m_qp_43, Nat.le_of_ble_eq_true rfl, rfl⟩, List.forall_mem_cons.mpr ⟨⟨m_w537, m_w389, m_w390, m_w13, m_qp_44, Nat.le_of_ble_eq_true rfl, rfl⟩, List.forall_mem_cons.mpr ⟨⟨m_w542, m_w344, m_w345, m_w10, m_qp_21, Nat.le_of_ble_eq_true rfl, rfl⟩, List.forall_mem_cons.mpr ⟨⟨m_w543, m_w394, m_w395, m_w12, m_qp_46, Nat.le_of_ble_eq_true rfl, rfl⟩, List.forall_mem_cons.mpr ⟨⟨m_w551, m_w552, m_w553, m_w12, m_qp_67, Nat.le_of_ble_eq_true rfl, rfl⟩, List.forall_mem_cons.mpr ⟨⟨m_w566, m_w567, m_w568, m_w12, m_qp_65, Nat.le_of_ble_eq_true rfl, rfl⟩, fun _ h => absurd h List.not_mem_nil⟩⟩⟩⟩⟩⟩⟩⟩⟩⟩⟩⟩⟩⟩⟩⟩⟩⟩⟩⟩⟩⟩⟩⟩⟩⟩⟩⟩⟩⟩⟩⟩⟩⟩⟩⟩⟩⟩⟩
theorem m_ctx_8 : ∀ e ∈ m_ct.getD 8 [], m_ctP "ShelfSlots" e := fun _ h => absurd h List.not_mem_nil
theorem m_cnx_8 : ∀ e ∈ m_cn.getD 8 [], m_cnP "ShelfSlots" e := List.forall_mem_cons.mpr ⟨⟨Nat.le_of_ble_eq_true rfl, m_w30, m_w31, m_w10⟩, List.forall_mem_cons.mpr ⟨⟨Nat.le_of_ble_eq_true rfl, m_w129, m_w130, m_w12⟩, List.forall_mem_cons.mpr ⟨⟨Nat.le_of_ble_eq_true rfl, m_w142, m_w143, m_w13⟩, List.forall_mem_cons.mpr ⟨⟨Nat.le_of_ble_eq_true rfl, m_w160, m_w161, m_w14⟩, List.forall_mem_cons.mpr ⟨⟨Nat.le_of_ble_eq_true rfl, m_w192, m_w193, m_w16⟩, fun _ h => absurd h List.not_mem_nil⟩⟩⟩⟩⟩
set_option maxRecDepth 20000 in
theorem m_flx_9 : ∀ e ∈ m_fl.getD 9 [], m_flP "java/lang/Integer" e := fun _ h => absurd h List.not_mem_nil
set_option maxRecDepth 20000 in
theorem m_mtx_9 : ∀ e ∈ m_mt.getD 9 [], m_mtP "java/lang/Integer" e := fun _ h => absurd h List.not_mem_nil
theorem m_ctx_9 : ∀ e ∈ m_ct.getD 9 [], m_ctP "java/lang/Integer" e := List.forall_mem_cons.mpr ⟨m_w440, List.forall_mem_cons.mpr ⟨m_w441, List.forall_mem_cons.mpr ⟨m_w442, fun _ h => absurd h List.not_mem_nil⟩⟩⟩
theorem m_cnx_9 : ∀ e ∈ m_cn.getD 9 [], m_cnP "java/lang/Integer" e := fun _ h => absurd h List.not_mem_nil
set_option maxRecDepth 20000 in
theorem m_flx_10 : ∀ e ∈ m_fl.getD 10 [], m_flP "ShelfSlots$Bits" e := fun _ h => absurd h List.not_mem_nil
set_option maxRecDepth 20000 in
theorem m_mtx_10 : ∀ e ∈ m_mt.getD 10 [], m_mtP "ShelfSlots$Bits" e := List.forall_mem_cons.mpr ⟨⟨m_w257, m_w258, m_w17, m_qp_51⟩, List.forall_mem_cons.mpr ⟨⟨m_w261, m_w262, m_w17, m_qp_52⟩, List.forall_mem_cons.mpr ⟨⟨m_w265, m_w266, m_w18, m_w267⟩, fun _ h => absurd h List.not_mem_nil⟩⟩⟩
theorem m_ctx_10 : ∀ e ∈ m_ct.getD 10 [], m_ctP "ShelfSlots$Bits" e := List.forall_mem_cons.mpr ⟨m_w260, List.forall_mem_cons.mpr ⟨m_w264, List.forall_mem_cons.mpr ⟨m_w268, List.forall_mem_cons.mpr ⟨m_w494, List.forall_mem_cons.mpr ⟨m_w495, fun _ h => absurd h List.not_mem_nil⟩⟩⟩⟩⟩
theorem m_cnx_10 : ∀ e ∈ m_cn.getD 10 [], m_cnP "ShelfSlots$Bits" e := fun _ h => absurd h List.not_mem_nil
set_option maxRecDepth 20000 in
theorem m_flx_11 : ∀ e ∈ m_fl.getD 11 [], m_flP "ShelfSlotsLaw" e := fun _ h => absurd h List.not_mem_nil
set_option maxRecDepth 20000 in
theorem m_mtx_11 : ∀ e ∈ m_mt.getD 11 [], m_mtP "ShelfSlotsLaw" e := List.forall_mem_cons.mpr ⟨⟨m_w24, m_w25, m_w9, m_qp_0, rfl, rfl⟩, List.forall_mem_cons.mpr ⟨⟨m_w238, m_w239, m_w240, m_w9, m_qp_57, Nat.le_of_ble_eq_true rfl, rfl⟩, List.forall_mem_cons.mpr ⟨⟨m_w277, m_w278, m_w279, m_w9, m_qp_92, Nat.le_of_ble_eq_true rfl, rfl⟩, List.forall_mem_cons.mpr ⟨⟨m_w297, m_w298, m_w8, m_qp_100⟩, List.forall_mem_cons.mpr ⟨⟨m_w300, m_w301, m_w8, m_qp_96⟩, List.forall_mem_cons.mpr ⟨⟨m_w303, m_w304, m_w8, m_qp_102⟩, List.forall_mem_cons.mpr ⟨⟨m_w307, m_w308, m_w309, m_w9, m_qp_15, Nat.le_of_ble_eq_true rfl, rfl⟩, List.forall_mem_cons.mpr ⟨⟨m_w331, m_w332, m_w333, m_w9, m_qp_18, Nat.le_of_ble_eq_true rfl, rfl⟩, List.forall_mem_cons.mpr ⟨⟨m_w355, m_w356, m_w357, m_w9, m_qp_24, Nat.le_of_ble_eq_true rfl, rfl⟩, List.forall_mem_cons.mpr ⟨⟨m_w367, m_w368, m_w369, m_w9, m_qp_8, Nat.le_of_ble_eq_true rfl, rfl⟩, List.forall_mem_cons.mpr ⟨⟨m_w375, m_w376, m_w377, m_w9, m_qp_41, Nat.le_of_ble_eq_true rfl, rfl⟩, List.forall_mem_cons.mpr ⟨⟨m_w425, m_w426, m_w427, m_w9, m_qp_27, Nat.le_of_ble_eq_true rfl, rfl⟩, List.forall_mem_cons.mpr ⟨⟨m_w480, m_w481, m_w8, m_qp_97⟩, List.forall_mem_cons.mpr ⟨⟨m_w483, m_w484, m_w485, m_w9, m_qp_60, Nat.le_of_ble_eq_true rfl, rfl⟩, List.forall_mem_cons.mpr ⟨⟨m_w496, m_w497, m_w498, m_w9, m_qp_49, Nat.le_of_ble_eq_true rfl, rfl⟩, List.forall_mem_cons.mpr ⟨⟨m_w501, m_w502, m_w503, m_w9, m_qp_55, Nat.le_of_ble_eq_true rfl, rfl⟩, List.forall_mem_cons.mpr ⟨⟨m_w505, m_w506, m_w8, m_qp_98⟩, List.forall_mem_cons.mpr ⟨⟨m_w508, m_w509, m_w510, m_w9, m_qp_53, Nat.le_of_ble_eq_true rfl, rfl⟩, List.forall_mem_cons.mpr ⟨⟨m_w514, m_w515, m_w516, m_w9, m_qp_54, Nat.le_of_ble_eq_true rfl, rfl⟩, List.forall_mem_cons.mpr ⟨⟨m_w519, m_w520, m_w521, m_w9, m_qp_56, Nat.le_of_ble_eq_true rfl, rfl⟩, List.forall_mem_cons.mpr ⟨⟨m_w524, m_w525, m_w526, m_w9, m_qp_63, Nat.le_of_ble_eq_true rfl, rfl⟩, List.forall_mem_cons.mpr ⟨⟨m_w528, m_w529, m_w8, m_qp_101⟩, List.forall_mem_cons.mpr ⟨⟨m_w531, m_w532, m_w533, m_w9, m_qp_69, Nat.le_of_ble_eq_true rfl, rfl⟩, List.forall_mem_cons.mpr ⟨⟨m_w538, m_w539, m_w540, m_w9, m_qp_70, Nat.le_of_ble_eq_true rfl, rfl⟩, List.forall_mem_cons.mpr ⟨⟨m_w544, m_w545, m_w8, m_qp_99⟩, List.forall_mem_cons.mpr ⟨⟨m_w547, m_w548, m_w549, m_w9, m_qp_66, Nat.le_of_ble_eq_true rfl, rfl⟩, List.forall_mem_cons.mpr ⟨⟨m_w562, m_w563, m_w564, m_w9, m_qp_64, Nat.le_of_ble_eq_true rfl, rfl⟩, fun _ h => absurd h List.not_mem_nil⟩⟩⟩⟩⟩⟩⟩⟩⟩⟩⟩⟩⟩⟩⟩⟩⟩⟩⟩⟩⟩⟩⟩⟩⟩⟩⟩
theorem m_ctx_11 : ∀ e ∈ m_ct.getD 11 [], m_ctP "ShelfSlotsLaw" e := List.forall_mem_cons.mpr ⟨m_w306, fun _ h => absurd h List.not_mem_nil⟩
theorem m_cnx_11 : ∀ e ∈ m_cn.getD 11 [], m_cnP "ShelfSlotsLaw" e := List.forall_mem_cons.mpr ⟨⟨Nat.le_of_ble_eq_true rfl, m_w22, m_w23, m_w9⟩, fun _ h => absurd h List.not_mem_nil⟩
theorem m_fl_all : ∀ ox, ∀ e ∈ m_fl.getD ox [], m_flP (m_own ox) e := fun ox => match ox with
  | 0 => m_flx_0
  | 1 => m_flx_1
  | 2 => m_flx_2
  | 3 => m_flx_3
  | 4 => m_flx_4
  | 5 => m_flx_5
  | 6 => m_flx_6
  | 7 => m_flx_7
  | 8 => m_flx_8
  | 9 => m_flx_9
  | 10 => m_flx_10
  | 11 => m_flx_11
  | _ + 12 => fun _ h => absurd h List.not_mem_nil
theorem m_mt_all : ∀ ox, ∀ e ∈ m_mt.getD ox [], m_mtP (m_own ox) e := fun ox => match ox with
  | 0 => m_mtx_0
  | 1 => m_mtx_1
  | 2 => m_mtx_2
  | 3 => m_mtx_3
  | 4 => m_mtx_4
  | 5 => m_mtx_5
  | 6 => m_mtx_6
  | 7 => m_mtx_7
  | 8 => m_mtx_8
  | 9 => m_mtx_9
  | 10 => m_mtx_10
  | 11 => m_mtx_11
  | _ + 12 => fun _ h => absurd h List.not_mem_nil
theorem m_ct_all : ∀ ox, ∀ e ∈ m_ct.getD ox [], m_ctP (m_own ox) e := fun ox => match ox with
  | 0 => m_ctx_0
  | 1 => m_ctx_1
  | 2 => m_ctx_2
  | 3 => m_ctx_3
  | 4 => m_ctx_4
  | 5 => m_ctx_5
  | 6 => m_ctx_6
  | 7 => m_ctx_7
  | 8 => m_ctx_8
  | 9 => m_ctx_9
  | 10 => m_ctx_10
  | 11 => m_ctx_11
  | _ + 12 => fun _ h => absurd h List.not_mem_nil
theorem m_cn_all : ∀ ox, ∀ e ∈ m_cn.getD ox [], m_cnP (m_own ox) e := fun ox => match ox with
  | 0 => m_cnx_0
  | 1 => m_cnx_1
  | 2 => m_cnx_2
  | 3 => m_cnx_3
  | 4 => m_cnx_4
  | 5 => m_cnx_5
  | 6 => m_cnx_6
  | 7 => m_cnx_7
  | 8 => m_cnx_8
  | 9 => m_cnx_9
  | 10 => m_cnx_10
  | 11 => m_cnx_11
  | _ + 12 => fun _ h => absurd h List.not_mem_nil
set_option maxRecDepth 20000 in
theorem m_own_all : ∀ q ∈ m_all, m_own q.2.2.2.2.1 = q.1.cls := List.forall_mem_cons.mpr ⟨rfl, List.forall_mem_cons.mpr ⟨rfl, List.forall_mem_cons.mpr ⟨rfl, List.forall_mem_cons.mpr ⟨rfl, List.forall_mem_cons.mpr ⟨rfl, List.forall_mem_cons.mpr ⟨rfl, List.forall_mem_cons.mpr ⟨rfl, List.forall_mem_cons.mpr ⟨rfl, List.forall_mem_cons.mpr ⟨rfl, List.forall_mem_cons.mpr ⟨rfl, List.forall_mem_cons.mpr ⟨rfl, List.forall_mem_cons.mpr ⟨rfl, List.forall_mem_cons.mpr ⟨rfl, List.forall_mem_cons.mpr ⟨rfl, List.forall_mem_cons.mpr ⟨rfl, List.forall_mem_cons.mpr ⟨rfl, List.forall_mem_cons.mpr ⟨rfl, List.forall_mem_cons.mpr ⟨rfl, List.forall_mem_cons.mpr ⟨rfl, List.forall_mem_cons.mpr ⟨rfl, List.forall_mem_cons.mpr ⟨rfl, List.forall_mem_cons.mpr ⟨rfl, List.forall_mem_cons.mpr ⟨rfl, List.forall_mem_cons.mpr ⟨rfl, List.forall_mem_cons.mpr ⟨rfl, List.forall_mem_cons.mpr ⟨rfl, List.forall_mem_cons.mpr ⟨rfl, List.forall_mem_cons.mpr ⟨rfl, List.forall_mem_cons.mpr ⟨rfl, List.forall_mem_cons.mpr ⟨rfl, List.forall_mem_cons.mpr ⟨rfl, List.forall_mem_cons.mpr ⟨rfl, List.forall_mem_cons.mpr ⟨rfl, List.forall_mem_cons.mpr ⟨rfl, List.forall_mem_cons.mpr ⟨rfl, List.forall_mem_cons.mpr ⟨rfl, List.forall_mem_cons.mpr ⟨rfl, List.forall_mem_cons.mpr ⟨rfl, List.forall_mem_cons.mpr ⟨rfl, List.forall_mem_cons.mpr ⟨rfl, List.forall_mem_cons.mpr ⟨rfl, List.forall_mem_cons.mpr ⟨rfl, List.forall_mem_cons.mpr ⟨rfl, List.forall_mem_cons.mpr ⟨rfl, List.forall_mem_cons.mpr ⟨rfl, List.forall_mem_cons.mpr ⟨rfl, List.forall_mem_cons.mpr ⟨rfl, List.forall_mem_cons.mpr ⟨rfl, List.forall_mem_cons.mpr ⟨rfl, List.forall_mem_cons.mpr ⟨rfl, List.forall_mem_cons.mpr ⟨rfl, List.forall_mem_cons.mpr ⟨rfl, List.forall_mem_cons.mpr ⟨rfl, List.forall_mem_cons.mpr ⟨rfl, List.forall_mem_cons.mpr ⟨rfl, List.forall_mem_cons.mpr ⟨rfl, List.forall_mem_cons.mpr ⟨rfl, List.forall_mem_cons.mpr ⟨rfl, List.forall_mem_cons.mpr ⟨rfl, List.forall_mem_cons.mpr ⟨rfl, List.forall_mem_cons.mpr ⟨rfl, List.forall_mem_cons.mpr ⟨rfl, List.forall_mem_cons.mpr ⟨rfl, List.forall_mem_cons.mpr ⟨rfl, List.forall_mem_cons.mpr ⟨rfl, List.forall_mem_cons.mpr ⟨rfl, List.forall_mem_cons.mpr ⟨rfl, List.forall_mem_cons.mpr ⟨rfl, List.forall_mem_cons.mpr ⟨rfl, List.forall_mem_cons.mpr ⟨rfl, List.forall_mem_cons.mpr ⟨rfl, List.forall_mem_cons.mpr ⟨rfl, List.forall_mem_cons.mpr ⟨rfl, List.forall_mem_cons.mpr ⟨rfl, List.forall_mem_cons.mpr ⟨rfl, List.forall_mem_cons.mpr ⟨rfl, List.forall_mem_cons.mpr ⟨rfl, List.forall_mem_cons.mpr ⟨rfl, List.forall_mem_cons.mpr ⟨rfl, List.forall_mem_cons.mpr ⟨rfl, List.forall_mem_cons.mpr ⟨rfl, List.forall_mem_cons.mpr ⟨rfl, List.forall_mem_cons.mpr ⟨rfl, List.forall_mem_cons.mpr ⟨rfl, List.forall_mem_cons.mpr ⟨rfl, List.forall_mem_cons.mpr ⟨rfl, List.forall_mem_cons.mpr ⟨rfl, List.forall_mem_cons.mpr ⟨rfl, List.forall_mem_cons.mpr ⟨rfl, List.forall_mem_cons.mpr ⟨rfl, List.forall_mem_cons.mpr ⟨rfl, List.forall_mem_cons.mpr ⟨rfl, List.forall_mem_cons.mpr ⟨rfl, List.forall_mem_cons.mpr ⟨rfl, List.forall_mem_cons.mpr ⟨rfl, List.forall_mem_cons.mpr ⟨rfl, List.forall_mem_cons.mpr ⟨rfl, List.forall_mem_cons.mpr ⟨rfl, List.forall_mem_cons.mpr ⟨rfl, List.forall_mem_cons.mpr ⟨rfl, List.forall_mem_cons.mpr ⟨rfl, List.forall_mem_cons.mpr ⟨rfl, List.forall_mem_cons.mpr ⟨rfl, List.forall_mem_cons.mpr ⟨rfl, fun _ h => absurd h List.not_mem_nil⟩⟩⟩⟩⟩⟩⟩⟩⟩⟩⟩⟩⟩⟩⟩⟩⟩⟩⟩⟩⟩⟩⟩⟩⟩⟩⟩⟩⟩⟩⟩⟩⟩⟩⟩⟩⟩⟩⟩⟩⟩⟩⟩⟩⟩⟩⟩⟩⟩⟩⟩⟩⟩⟩⟩⟩⟩⟩⟩⟩⟩⟩⟩⟩⟩⟩⟩⟩⟩⟩⟩⟩⟩⟩⟩⟩⟩⟩⟩⟩⟩⟩⟩⟩⟩⟩⟩⟩⟩⟩⟩⟩⟩⟩⟩⟩⟩⟩⟩⟩⟩⟩⟩⟩
theorem m_ci_0 : ∀ w ∈ u_ws RX1 TX1 3, w ∈ m_wt := List.forall_mem_cons.mpr ⟨m_w51, List.forall_mem_cons.mpr ⟨m_w53, List.forall_mem_cons.mpr ⟨m_w55, fun _ h => absurd h List.not_mem_nil⟩⟩⟩
theorem m_ci_1 : ∀ w ∈ u_ws RX2 TX2 3, w ∈ m_wt := List.forall_mem_cons.mpr ⟨m_w172, List.forall_mem_cons.mpr ⟨m_w174, List.forall_mem_cons.mpr ⟨m_w176, fun _ h => absurd h List.not_mem_nil⟩⟩⟩
theorem m_ci_2 : ∀ w ∈ u_ws RX3 TX3 3, w ∈ m_wt := List.forall_mem_cons.mpr ⟨m_w205, List.forall_mem_cons.mpr ⟨m_w207, List.forall_mem_cons.mpr ⟨m_w209, fun _ h => absurd h List.not_mem_nil⟩⟩⟩
theorem m_ci_3 : ∀ w ∈ u_ws RX4 TX4 3, w ∈ m_wt := List.forall_mem_cons.mpr ⟨m_w153, List.forall_mem_cons.mpr ⟨m_w155, List.forall_mem_cons.mpr ⟨m_w157, fun _ h => absurd h List.not_mem_nil⟩⟩⟩
theorem m_ci_4 : ∀ w ∈ u_ws RX5 TX5 4, w ∈ m_wt := List.forall_mem_cons.mpr ⟨m_w183, List.forall_mem_cons.mpr ⟨m_w185, List.forall_mem_cons.mpr ⟨m_w187, List.forall_mem_cons.mpr ⟨m_w189, fun _ h => absurd h List.not_mem_nil⟩⟩⟩⟩
theorem m_ci_5 : ∀ w ∈ u_ws RX6 TX6 4, w ∈ m_wt := List.forall_mem_cons.mpr ⟨m_w467, List.forall_mem_cons.mpr ⟨m_w469, List.forall_mem_cons.mpr ⟨m_w471, List.forall_mem_cons.mpr ⟨m_w473, fun _ h => absurd h List.not_mem_nil⟩⟩⟩⟩
theorem m_ci_6 : ∀ w ∈ u_ws RX7 TX7 16, w ∈ m_wt := List.forall_mem_cons.mpr ⟨m_w96, List.forall_mem_cons.mpr ⟨m_w98, List.forall_mem_cons.mpr ⟨m_w100, List.forall_mem_cons.mpr ⟨m_w102, List.forall_mem_cons.mpr ⟨m_w104, List.forall_mem_cons.mpr ⟨m_w106, List.forall_mem_cons.mpr ⟨m_w108, List.forall_mem_cons.mpr ⟨m_w110, List.forall_mem_cons.mpr ⟨m_w112, List.forall_mem_cons.mpr ⟨m_w114, List.forall_mem_cons.mpr ⟨m_w116, List.forall_mem_cons.mpr ⟨m_w118, List.forall_mem_cons.mpr ⟨m_w120, List.forall_mem_cons.mpr ⟨m_w122, List.forall_mem_cons.mpr ⟨m_w124, List.forall_mem_cons.mpr ⟨m_w126, fun _ h => absurd h List.not_mem_nil⟩⟩⟩⟩⟩⟩⟩⟩⟩⟩⟩⟩⟩⟩⟩⟩
theorem m_ci_7 : ∀ w ∈ u_ws RX8 TX8 2, w ∈ m_wt := List.forall_mem_cons.mpr ⟨m_w137, List.forall_mem_cons.mpr ⟨m_w139, fun _ h => absurd h List.not_mem_nil⟩⟩
theorem m_ci_8 : ∀ w ∈ u_ws RX9 TX9 8, w ∈ m_wt := List.forall_mem_cons.mpr ⟨m_w220, List.forall_mem_cons.mpr ⟨m_w222, List.forall_mem_cons.mpr ⟨m_w224, List.forall_mem_cons.mpr ⟨m_w226, List.forall_mem_cons.mpr ⟨m_w228, List.forall_mem_cons.mpr ⟨m_w230, List.forall_mem_cons.mpr ⟨m_w232, List.forall_mem_cons.mpr ⟨m_w234, fun _ h => absurd h List.not_mem_nil⟩⟩⟩⟩⟩⟩⟩⟩
/-- what a class's row says -/
def m_clOk (c : String × u_T × Nat × (Nat → FieldType)) : Prop := (∀ w ∈ u_ws c.1 c.2.1 c.2.2.1, w ∈ m_wt) ∧ (∀ k, k < c.2.2.1 → parseFieldDescriptor (c.2.1 k).2.2.1 = some (c.2.2.2 k)) ∧ (∀ a, a < c.2.2.1 → ∀ b, b < c.2.2.1 → a ≠ b → (c.2.1 a).2.1 ≠ (c.2.1 b).2.1)
theorem m_cl_ok : ∀ c ∈ m_cl, m_clOk c := List.forall_mem_cons.mpr ⟨⟨m_ci_0, tyX1_ok, nmX1⟩, List.forall_mem_cons.mpr ⟨⟨m_ci_1, tyX2_ok, nmX2⟩, List.forall_mem_cons.mpr ⟨⟨m_ci_2, tyX3_ok, nmX3⟩, List.forall_mem_cons.mpr ⟨⟨m_ci_3, tyX4_ok, nmX4⟩, List.forall_mem_cons.mpr ⟨⟨m_ci_4, tyX5_ok, nmX5⟩, List.forall_mem_cons.mpr ⟨⟨m_ci_5, tyX6_ok, nmX6⟩, List.forall_mem_cons.mpr ⟨⟨m_ci_6, tyX7_ok, nmX7⟩, List.forall_mem_cons.mpr ⟨⟨m_ci_7, tyX8_ok, nmX8⟩, List.forall_mem_cons.mpr ⟨⟨m_ci_8, tyX9_ok, nmX9⟩, fun _ h => absurd h List.not_mem_nil⟩⟩⟩⟩⟩⟩⟩⟩⟩
theorem m_cl_vw : vwCl = m_cl.map (fun c => (c.1, c.2.1, c.2.2.1)) := rfl
theorem m_cl_own : ∀ ci, ci < m_cl.length → m_own ci = (m_c ci).1 := fun ci h => match ci, h with
  | 0, _ => rfl
  | 1, _ => rfl
  | 2, _ => rfl
  | 3, _ => rfl
  | 4, _ => rfl
  | 5, _ => rfl
  | 6, _ => rfl
  | 7, _ => rfl
  | 8, _ => rfl
  | k + 9, h => absurd h (Nat.not_lt.mpr (Nat.le_add_left _ _))
theorem m_arr_int : Cond.arrayClass .int ∈ m_wt := m_w58
theorem m_arr_float : Cond.arrayClass .float ∈ m_wt := m_w59
theorem m_arr_char : Cond.arrayClass .char ∈ m_wt := m_w179
theorem m_arr_boolean : Cond.arrayClass .boolean ∈ m_wt := m_w237
theorem m_over : Cond.arrayOver (.object "ShelfSlots$Shed") ∈ lw_tbl := m_p1_in (List.mem_of_getElem? (i := 191) rfl)
theorem m_nest_in : ∀ q ∈ m_nests, Cond.methodLinkNest q.1 q.2.1 q.2.2.1 q.2.2.2 ∈ lw_tbl := List.forall_mem_cons.mpr ⟨m_p1_in (List.mem_of_getElem? (i := 30) rfl), List.forall_mem_cons.mpr ⟨m_p1_in (List.mem_of_getElem? (i := 123) rfl), List.forall_mem_cons.mpr ⟨m_p1_in (List.mem_of_getElem? (i := 154) rfl), List.forall_mem_cons.mpr ⟨m_p1_in (List.mem_of_getElem? (i := 160) rfl), fun _ h => absurd h List.not_mem_nil⟩⟩⟩⟩
