-- what the methods' links name, and that the tables say so (written by wip/whole/emit_tables.py)
def m_wt : List Cond := lw_tbl.filter goodWord
theorem m_wt_good : ∀ w ∈ m_wt, goodWord w = true := fun _ h => (List.mem_filter.mp h).2
def m_mask {α : Type} : List Bool → List α → List α
  | b :: bs, a :: l => match b with
    | true => a :: m_mask bs l
    | false => m_mask bs l
  | _, _ => []
theorem m_mask_mem {α : Type} {a : α} : ∀ {bs : List Bool} {l : List α}, a ∈ m_mask bs l → a ∈ l
  | true :: bs, x :: l, h => by
    simp only [m_mask] at h
    rcases List.mem_cons.mp h with rfl | h
    · exact List.mem_cons_self
    · exact List.mem_cons_of_mem _ (m_mask_mem h)
  | false :: bs, x :: l, h => by
    simp only [m_mask] at h
    exact List.mem_cons_of_mem _ (m_mask_mem h)
  | [], _, h => by simp [m_mask] at h
  | _ :: _, [], h => by simp [m_mask] at h

def m_p0 : List Cond := [.selects "ShelfSlots" ⟨"ShelfSlots", "recorded", "(I)I"⟩ ⟨"ShelfSlots", "recorded", "(I)I"⟩,
  .selects "ShelfSlots$Shed" ⟨"ShelfSlots$Shed", "stand", "(II)V"⟩ ⟨"ShelfSlots$Shed", "stand", "(II)V"⟩,
  .selects "ShelfSlots$Shed" ⟨"ShelfSlots$Shed", "countSwap", "(I)I"⟩ ⟨"ShelfSlots$Shed", "countSwap", "(I)I"⟩,
  .selects "ShelfSlots" ⟨"ShelfSlots", "pickBasket", "(I)I"⟩ ⟨"ShelfSlots", "pickBasket", "(I)I"⟩,
  .selects "ShelfSlots" ⟨"ShelfSlots", "errorOfBasket", "(I)I"⟩ ⟨"ShelfSlots", "errorOfBasket", "(I)I"⟩,
  .selects "ShelfSlots$Walker" ⟨"ShelfSlots$Walker", "listGoods", "(I)V"⟩ ⟨"ShelfSlots$Walker", "listGoods", "(I)V"⟩,
  .selects "ShelfSlots$Walker" ⟨"ShelfSlots$Walker", "moveUp", "(II)V"⟩ ⟨"ShelfSlots$Walker", "moveUp", "(II)V"⟩,
  .selects "ShelfSlots$Walker" ⟨"ShelfSlots$Walker", "lastPlace", "(LShelfSlots$Shed;I)I"⟩ ⟨"ShelfSlots$Walker", "lastPlace", "(LShelfSlots$Shed;I)I"⟩,
  .selects "ShelfSlots$Grammar" ⟨"ShelfSlots$Grammar", "takesLetter", "(C)Z"⟩ ⟨"ShelfSlots$Grammar", "takesLetter", "(C)Z"⟩,
  .selects "ShelfSlots$Grammar" ⟨"ShelfSlots$Grammar", "takesMark", "(C)Z"⟩ ⟨"ShelfSlots$Grammar", "takesMark", "(C)Z"⟩,
  .selects "ShelfSlots" ⟨"ShelfSlots", "carryOutOrder", "()I"⟩ ⟨"ShelfSlots", "carryOutOrder", "()I"⟩,
  .selects "ShelfSlotsModel" ⟨"ShelfSlotsModel", "putAside", "()V"⟩ ⟨"ShelfSlotsModel", "putAside", "()V"⟩,
  .selects "ShelfSlotsModel" ⟨"ShelfSlotsModel", "changed", "(I)I"⟩ ⟨"ShelfSlotsModel", "changed", "(I)I"⟩,
  .selects "ShelfSlotsModel" ⟨"ShelfSlotsModel", "record", "()V"⟩ ⟨"ShelfSlotsModel", "record", "()V"⟩,
  .selects "ShelfSlotsModel" ⟨"ShelfSlotsModel", "adds", "(I)I"⟩ ⟨"ShelfSlotsModel", "adds", "(I)I"⟩,
  .selects "ShelfSlotsModel" ⟨"ShelfSlotsModel", "goodIn", "(I)I"⟩ ⟨"ShelfSlotsModel", "goodIn", "(I)I"⟩,
  .selects "ShelfSlotsModel" ⟨"ShelfSlotsModel", "slotOf", "(I)I"⟩ ⟨"ShelfSlotsModel", "slotOf", "(I)I"⟩,
  .selects "ShelfSlotsModel" ⟨"ShelfSlotsModel", "swaps", "(II)I"⟩ ⟨"ShelfSlotsModel", "swaps", "(II)I"⟩,
  .selects "ShelfSlotsModel" ⟨"ShelfSlotsModel", "exchanges", "(II)I"⟩ ⟨"ShelfSlotsModel", "exchanges", "(II)I"⟩,
  .selects "ShelfSlotsModel" ⟨"ShelfSlotsModel", "counts", "(I)V"⟩ ⟨"ShelfSlotsModel", "counts", "(I)V"⟩,
  .selects "ShelfSlotsModel" ⟨"ShelfSlotsModel", "closes", "(I)I"⟩ ⟨"ShelfSlotsModel", "closes", "(I)I"⟩,
  .selects "ShelfSlotsModel" ⟨"ShelfSlotsModel", "picksOne", "(I)I"⟩ ⟨"ShelfSlotsModel", "picksOne", "(I)I"⟩,
  .selects "ShelfSlotsModel" ⟨"ShelfSlotsModel", "errorOf", "(I)I"⟩ ⟨"ShelfSlotsModel", "errorOf", "(I)I"⟩,
  .selects "ShelfSlotsModel" ⟨"ShelfSlotsModel", "walkOf", "(I)I"⟩ ⟨"ShelfSlotsModel", "walkOf", "(I)I"⟩,
  .selects "ShelfSlotsModel" ⟨"ShelfSlotsModel", "nearest", "(II)I"⟩ ⟨"ShelfSlotsModel", "nearest", "(II)I"⟩,
  .selects "ShelfSlotsModel" ⟨"ShelfSlotsModel", "far", "(I)I"⟩ ⟨"ShelfSlotsModel", "far", "(I)I"⟩,
  .selects "ShelfSlotsModel" ⟨"ShelfSlotsModel", "stepsOf", "(II)I"⟩ ⟨"ShelfSlotsModel", "stepsOf", "(II)I"⟩,
  .selects "ShelfSlotsModel" ⟨"ShelfSlotsModel", "oftenOf", "(I)I"⟩ ⟨"ShelfSlotsModel", "oftenOf", "(I)I"⟩,
  .selects "ShelfSlotsModel" ⟨"ShelfSlotsModel", "nights", "()I"⟩ ⟨"ShelfSlotsModel", "nights", "()I"⟩,
  .selects "ShelfSlotsModel" ⟨"ShelfSlotsModel", "forgets", "()V"⟩ ⟨"ShelfSlotsModel", "forgets", "()V"⟩,
  .selects "ShelfSlotsModel" ⟨"ShelfSlotsModel", "best", "()I"⟩ ⟨"ShelfSlotsModel", "best", "()I"⟩,
  .selects "ShelfSlotsModel" ⟨"ShelfSlotsModel", "walksNow", "()I"⟩ ⟨"ShelfSlotsModel", "walksNow", "()I"⟩,
  .selects "ShelfSlotsModel" ⟨"ShelfSlotsModel", "weight", "()F"⟩ ⟨"ShelfSlotsModel", "weight", "()F"⟩,
  .selects "ShelfSlotsModel" ⟨"ShelfSlotsModel", "isOpen", "(I)Z"⟩ ⟨"ShelfSlotsModel", "isOpen", "(I)Z"⟩,
  .selects "ShelfSlotsModel" ⟨"ShelfSlotsModel", "isGood", "(I)Z"⟩ ⟨"ShelfSlotsModel", "isGood", "(I)Z"⟩,
  .selects "ShelfSlotsModel" ⟨"ShelfSlotsModel", "sumOf", "(II)I"⟩ ⟨"ShelfSlotsModel", "sumOf", "(II)I"⟩,
  .selects "ShelfSlotsModel" ⟨"ShelfSlotsModel", "fastest", "()I"⟩ ⟨"ShelfSlotsModel", "fastest", "()I"⟩,
  .selects "ShelfSlotsModel" ⟨"ShelfSlotsModel", "shortestOf", "(I)I"⟩ ⟨"ShelfSlotsModel", "shortestOf", "(I)I"⟩,
  .selects "ShelfSlotsModel" ⟨"ShelfSlotsModel", "wayTo", "(III)I"⟩ ⟨"ShelfSlotsModel", "wayTo", "(III)I"⟩,
  .selects "ShelfSlotsModel" ⟨"ShelfSlotsModel", "putBack", "()V"⟩ ⟨"ShelfSlotsModel", "putBack", "()V"⟩,
  .selects "ShelfSlotsModel" ⟨"ShelfSlotsModel", "goesThrough", "(Z)I"⟩ ⟨"ShelfSlotsModel", "goesThrough", "(Z)I"⟩,
  .selects "ShelfSlotsModel" ⟨"ShelfSlotsModel", "readOrder", "()V"⟩ ⟨"ShelfSlotsModel", "readOrder", "()V"⟩,
  .selects "ShelfSlotsModel" ⟨"ShelfSlotsModel", "readGood", "()V"⟩ ⟨"ShelfSlotsModel", "readGood", "()V"⟩,
  .selects "ShelfSlotsModel" ⟨"ShelfSlotsModel", "number", "()I"⟩ ⟨"ShelfSlotsModel", "number", "()I"⟩,
  .selects "ShelfSlotsModel" ⟨"ShelfSlotsModel", "isNext", "(II)Z"⟩ ⟨"ShelfSlotsModel", "isNext", "(II)Z"⟩,
  .selects "ShelfSlotsModel" ⟨"ShelfSlotsModel", "takes", "(I)V"⟩ ⟨"ShelfSlotsModel", "takes", "(I)V"⟩,
  .selects "ShelfSlotsModel" ⟨"ShelfSlotsModel", "does", "()I"⟩ ⟨"ShelfSlotsModel", "does", "()I"⟩]
set_option maxRecDepth 100000 in
theorem m_p0_eq : m_mask [true, true, true, true, true, true, true, true, true, true, true, true, true, true, true, true, true, true, true, true, true, true, true, true, true, true, true, true, true, true, true, true, true, true, true, true, true, true, true, true, true, true, true, true, true, true, true] (k2_sels lw_privs) = m_p0 := rfl
theorem m_p0_good : m_p0.all goodWord = true := by decide +kernel
def m_p1 : List Cond := [.initialized "ShelfSlots",
  .initialized "ShelfSlots$Shed",
  .initialized "ShelfSlots$Day",
  .initialized "ShelfSlots$Walker",
  .initialized "ShelfSlots$Mover",
  .initialized "ShelfSlots$Pad",
  .initialized "ShelfSlots$Grammar",
  .initialized "ShelfSlots$History",
  .initialized "ShelfSlotsModel",
  .initialized "java/lang/System",
  .initialized "java/lang/Math",
  .initialized "java/lang/Integer",
  .initialized "ShelfSlots$Picked",
  .initialized "ShelfSlots$Bits",
  .classLink "ShelfSlotsLaw" 7 "ShelfSlots",
  .instantiable "ShelfSlots" 8,
  .methodLink "ShelfSlotsLaw" 9 ⟨"ShelfSlots", "<init>", "()V"⟩,
  .instanceMethod ⟨"ShelfSlots", "<init>", "()V"⟩,
  .code ⟨"ShelfSlots", "<init>", "()V"⟩ prog_1_method_1_code 2 (none),
  .methodLink "ShelfSlots" 1 ⟨"java/lang/Object", "<init>", "()V"⟩,
  .instanceMethod ⟨"java/lang/Object", "<init>", "()V"⟩,
  .code ⟨"java/lang/Object", "<init>", "()V"⟩ object_method_1_code 1 (none),
  .classLink "ShelfSlots" 7 "ShelfSlots$Shed",
  .instantiable "ShelfSlots$Shed" 16,
  .methodLink "ShelfSlots" 9 ⟨"ShelfSlots$Shed", "<init>", "()V"⟩,
  .instanceMethod ⟨"ShelfSlots$Shed", "<init>", "()V"⟩,
  .code ⟨"ShelfSlots$Shed", "<init>", "()V"⟩ prog_9_method_1_code 2 (none),
  .methodLink "ShelfSlots$Shed" 3 ⟨"java/lang/Object", "<init>", "()V"⟩,
  .classLink "ShelfSlots$Shed" 34 "ShelfSlots$Day",
  .instantiable "ShelfSlots$Day" 3,
  .instanceMethod ⟨"ShelfSlots$Day", "<init>", "()V"⟩,
  .code ⟨"ShelfSlots$Day", "<init>", "()V"⟩ prog_3_method_1_code 1 (none),
  .methodLink "ShelfSlots$Day" 3 ⟨"java/lang/Object", "<init>", "()V"⟩,
  .fieldLink "ShelfSlots$Day" 9 "ShelfSlots$Day" "baskets" "[I",
  .fieldLink "ShelfSlots$Walker" 48 "ShelfSlots$Day" "baskets" "[I",
  .fieldLink "ShelfSlots" 140 "ShelfSlots$Day" "baskets" "[I",
  .fieldLink "ShelfSlots$Day" 15 "ShelfSlots$Day" "lengths" "[I",
  .fieldLink "ShelfSlots" 143 "ShelfSlots$Day" "lengths" "[I",
  .fieldLink "ShelfSlots$Day" 24 "ShelfSlots$Day" "many" "I",
  .fieldLink "ShelfSlots$Walker" 45 "ShelfSlots$Day" "many" "I",
  .fieldLink "ShelfSlots" 135 "ShelfSlots$Day" "many" "I",
  .fieldLink "ShelfSlots$Shed" 130 "ShelfSlots$Day" "many" "I",
  .laysFinal "ShelfSlots$Day" "ShelfSlots$Day" "baskets" "[I",
  .laysFinal "ShelfSlots$Day" "ShelfSlots$Day" "lengths" "[I",
  .lays "ShelfSlots$Day" "ShelfSlots$Day" "many" "I",
  .arrayClass .int,
  .arrayClass .float,
  .fieldLink "ShelfSlots$Shed" 9 "ShelfSlots$Shed" "settings" "[I",
  .fieldLink "ShelfSlots$Mover" 24 "ShelfSlots$Shed" "settings" "[I",
  .fieldLink "ShelfSlots$Walker" 58 "ShelfSlots$Shed" "settings" "[I",
  .fieldLink "ShelfSlots" 182 "ShelfSlots$Shed" "settings" "[I",
  .fieldLink "ShelfSlots$Shed" 15 "ShelfSlots$Shed" "slotOf" "[I",
  .fieldLink "ShelfSlots$Walker" 24 "ShelfSlots$Shed" "slotOf" "[I",
  .fieldLink "ShelfSlots" 89 "ShelfSlots$Shed" "slotOf" "[I",
  .fieldLink "ShelfSlots$Shed" 18 "ShelfSlots$Shed" "goodIn" "[I",
  .fieldLink "ShelfSlots" 119 "ShelfSlots$Shed" "goodIn" "[I",
  .fieldLink "ShelfSlots$Shed" 21 "ShelfSlots$Shed" "speed" "[F",
  .fieldLink "ShelfSlots" 93 "ShelfSlots$Shed" "speed" "[F",
  .fieldLink "ShelfSlots$Shed" 25 "ShelfSlots$Shed" "pickedToday" "[I",
  .fieldLink "ShelfSlots" 103 "ShelfSlots$Shed" "pickedToday" "[I",
  .fieldLink "ShelfSlots$Shed" 28 "ShelfSlots$Shed" "pickedSoFar" "[I",
  .fieldLink "ShelfSlots" 106 "ShelfSlots$Shed" "pickedSoFar" "[I",
  .fieldLink "ShelfSlots$Shed" 31 "ShelfSlots$Shed" "swapped" "[I",
  .fieldLink "ShelfSlots" 112 "ShelfSlots$Shed" "swapped" "[I",
  .fieldLink "ShelfSlots$Shed" 37 "ShelfSlots$Shed" "today" "LShelfSlots$Day;",
  .fieldLink "ShelfSlots$Walker" 41 "ShelfSlots$Shed" "today" "LShelfSlots$Day;",
  .fieldLink "ShelfSlots" 128 "ShelfSlots$Shed" "today" "LShelfSlots$Day;",
  .fieldLink "ShelfSlots$Shed" 41 "ShelfSlots$Shed" "yesterday" "LShelfSlots$Day;",
  .fieldLink "ShelfSlots" 132 "ShelfSlots$Shed" "yesterday" "LShelfSlots$Day;",
  .fieldLink "ShelfSlots$Shed" 54 "ShelfSlots$Shed" "lastPicked" "LShelfSlots$Picked;",
  .fieldLink "ShelfSlots$Shed" 58 "ShelfSlots$Shed" "picks" "I",
  .fieldLink "ShelfSlots$Shed" 62 "ShelfSlots$Shed" "goods" "I",
  .fieldLink "ShelfSlots" 85 "ShelfSlots$Shed" "goods" "I",
  .fieldLink "ShelfSlots$Shed" 65 "ShelfSlots$Shed" "closed" "I",
  .fieldLink "ShelfSlots" 173 "ShelfSlots$Shed" "closed" "I",
  .fieldLink "ShelfSlots$Mover" 15 "ShelfSlots$Shed" "nights" "I",
  .fieldLink "ShelfSlots$Shed" 68 "ShelfSlots$Shed" "nights" "I",
  .fieldLink "ShelfSlots" 156 "ShelfSlots$Shed" "nights" "I",
  .fieldLink "ShelfSlots$Shed" 71 "ShelfSlots$Shed" "walksSoFar" "I",
  .fieldLink "ShelfSlots" 163 "ShelfSlots$Shed" "walksSoFar" "I",
  .fieldLink "ShelfSlots$Mover" 42 "ShelfSlots$Shed" "nightSwaps" "I",
  .fieldLink "ShelfSlots$Shed" 74 "ShelfSlots$Shed" "nightSwaps" "I",
  .fieldLink "ShelfSlots" 166 "ShelfSlots$Shed" "nightSwaps" "I",
  .laysFinal "ShelfSlots$Shed" "ShelfSlots$Shed" "settings" "[I",
  .laysFinal "ShelfSlots$Shed" "ShelfSlots$Shed" "slotOf" "[I",
  .laysFinal "ShelfSlots$Shed" "ShelfSlots$Shed" "goodIn" "[I",
  .laysFinal "ShelfSlots$Shed" "ShelfSlots$Shed" "speed" "[F",
  .laysFinal "ShelfSlots$Shed" "ShelfSlots$Shed" "pickedToday" "[I",
  .laysFinal "ShelfSlots$Shed" "ShelfSlots$Shed" "pickedSoFar" "[I",
  .laysFinal "ShelfSlots$Shed" "ShelfSlots$Shed" "swapped" "[I",
  .laysFinal "ShelfSlots$Shed" "ShelfSlots$Shed" "today" "LShelfSlots$Day;",
  .laysFinal "ShelfSlots$Shed" "ShelfSlots$Shed" "yesterday" "LShelfSlots$Day;",
  .lays "ShelfSlots$Shed" "ShelfSlots$Shed" "lastPicked" "LShelfSlots$Picked;",
  .lays "ShelfSlots$Shed" "ShelfSlots$Shed" "picks" "I",
  .lays "ShelfSlots$Shed" "ShelfSlots$Shed" "goods" "I",
  .lays "ShelfSlots$Shed" "ShelfSlots$Shed" "closed" "I",
  .lays "ShelfSlots$Shed" "ShelfSlots$Shed" "nights" "I",
  .lays "ShelfSlots$Shed" "ShelfSlots$Shed" "walksSoFar" "I",
  .lays "ShelfSlots$Shed" "ShelfSlots$Shed" "nightSwaps" "I",
  .classLink "ShelfSlots" 19 "ShelfSlots$Walker",
  .instantiable "ShelfSlots$Walker" 2,
  .instanceMethod ⟨"ShelfSlots$Walker", "<init>", "()V"⟩,
  .code ⟨"ShelfSlots$Walker", "<init>", "()V"⟩ prog_10_method_1_code 1 (none),
  .methodLink "ShelfSlots$Walker" 3 ⟨"java/lang/Object", "<init>", "()V"⟩,
  .fieldLink "ShelfSlots$Walker" 9 "ShelfSlots$Walker" "stops" "[I",
  .fieldLink "ShelfSlots$Walker" 19 "ShelfSlots$Walker" "many" "I",
  .laysFinal "ShelfSlots$Walker" "ShelfSlots$Walker" "stops" "[I",
  .lays "ShelfSlots$Walker" "ShelfSlots$Walker" "many" "I",
  .classLink "ShelfSlots" 26 "ShelfSlots$Mover",
  .instantiable "ShelfSlots$Mover" 3,
  .methodLink "ShelfSlots" 28 ⟨"ShelfSlots$Mover", "<init>", "(LShelfSlots$Walker;)V"⟩,
  .instanceMethod ⟨"ShelfSlots$Mover", "<init>", "(LShelfSlots$Walker;)V"⟩,
  .code ⟨"ShelfSlots$Mover", "<init>", "(LShelfSlots$Walker;)V"⟩ prog_6_method_1_code 2 (none),
  .methodLink "ShelfSlots$Mover" 3 ⟨"java/lang/Object", "<init>", "()V"⟩,
  .fieldLink "ShelfSlots$Mover" 9 "ShelfSlots$Mover" "walker" "LShelfSlots$Walker;",
  .fieldLink "ShelfSlots$Mover" 32 "ShelfSlots$Mover" "lower" "I",
  .fieldLink "ShelfSlots" 215 "ShelfSlots$Mover" "lower" "I",
  .fieldLink "ShelfSlots$Mover" 35 "ShelfSlots$Mover" "higher" "I",
  .fieldLink "ShelfSlots" 218 "ShelfSlots$Mover" "higher" "I",
  .laysFinal "ShelfSlots$Mover" "ShelfSlots$Mover" "walker" "LShelfSlots$Walker;",
  .lays "ShelfSlots$Mover" "ShelfSlots$Mover" "lower" "I",
  .lays "ShelfSlots$Mover" "ShelfSlots$Mover" "higher" "I",
  .classLink "ShelfSlots" 35 "ShelfSlots$Pad",
  .instantiable "ShelfSlots$Pad" 4,
  .instanceMethod ⟨"ShelfSlots$Pad", "<init>", "()V"⟩,
  .code ⟨"ShelfSlots$Pad", "<init>", "()V"⟩ prog_7_method_1_code 1 (none),
  .methodLink "ShelfSlots$Pad" 3 ⟨"java/lang/Object", "<init>", "()V"⟩,
  .classLink "ShelfSlots$Pad" 15 "ShelfSlots$Grammar",
  .instantiable "ShelfSlots$Grammar" 3,
  .instanceMethod ⟨"ShelfSlots$Grammar", "<init>", "()V"⟩,
  .code ⟨"ShelfSlots$Grammar", "<init>", "()V"⟩ prog_4_method_1_code 1 (none),
  .methodLink "ShelfSlots$Grammar" 1 ⟨"java/lang/Object", "<init>", "()V"⟩,
  .fieldLink "ShelfSlots$Grammar" 9 "ShelfSlots$Grammar" "due" "I",
  .fieldLink "ShelfSlots$Grammar" 27 "ShelfSlots$Grammar" "numberMark" "C",
  .fieldLink "ShelfSlots$Grammar" 13 "ShelfSlots$Grammar" "mayEnd" "Z",
  .lays "ShelfSlots$Grammar" "ShelfSlots$Grammar" "due" "I",
  .lays "ShelfSlots$Grammar" "ShelfSlots$Grammar" "numberMark" "C",
  .lays "ShelfSlots$Grammar" "ShelfSlots$Grammar" "mayEnd" "Z",
  .arrayClass .char,
  .fieldLink "ShelfSlots$Pad" 9 "ShelfSlots$Pad" "signs" "[C",
  .fieldLink "ShelfSlots$Pad" 18 "ShelfSlots$Pad" "grammar" "LShelfSlots$Grammar;",
  .fieldLink "ShelfSlots$Pad" 39 "ShelfSlots$Pad" "at" "I",
  .fieldLink "ShelfSlots$Pad" 24 "ShelfSlots$Pad" "length" "I",
  .fieldLink "ShelfSlots" 185 "ShelfSlots$Pad" "length" "I",
  .laysFinal "ShelfSlots$Pad" "ShelfSlots$Pad" "signs" "[C",
  .laysFinal "ShelfSlots$Pad" "ShelfSlots$Pad" "grammar" "LShelfSlots$Grammar;",
  .lays "ShelfSlots$Pad" "ShelfSlots$Pad" "at" "I",
  .lays "ShelfSlots$Pad" "ShelfSlots$Pad" "length" "I",
  .classLink "ShelfSlots" 42 "ShelfSlots$History",
  .instantiable "ShelfSlots$History" 3,
  .methodLink "ShelfSlots" 44 ⟨"ShelfSlots$History", "<init>", "()V"⟩,
  .instanceMethod ⟨"ShelfSlots$History", "<init>", "()V"⟩,
  .code ⟨"ShelfSlots$History", "<init>", "()V"⟩ prog_5_method_1_code 2 (none),
  .methodLink "ShelfSlots$History" 3 ⟨"java/lang/Object", "<init>", "()V"⟩,
  .classLink "ShelfSlots$History" 11 "ShelfSlots$Shed",
  .methodLink "ShelfSlots$History" 17 ⟨"ShelfSlots$Shed", "<init>", "()V"⟩,
  .fieldLink "ShelfSlots$History" 13 "ShelfSlots$History" "rows" "[LShelfSlots$Shed;",
  .fieldLink "ShelfSlots$History" 18 "ShelfSlots$History" "next" "I",
  .fieldLink "ShelfSlots$History" 26 "ShelfSlots$History" "kept" "I",
  .fieldLink "ShelfSlots" 188 "ShelfSlots$History" "kept" "I",
  .laysFinal "ShelfSlots$History" "ShelfSlots$History" "rows" "[LShelfSlots$Shed;",
  .lays "ShelfSlots$History" "ShelfSlots$History" "next" "I",
  .lays "ShelfSlots$History" "ShelfSlots$History" "kept" "I",
  .fieldLink "ShelfSlots" 10 "ShelfSlots" "now" "LShelfSlots$Shed;",
  .fieldLink "ShelfSlots" 16 "ShelfSlots" "trial" "LShelfSlots$Shed;",
  .fieldLink "ShelfSlots" 22 "ShelfSlots" "walker" "LShelfSlots$Walker;",
  .fieldLink "ShelfSlots" 31 "ShelfSlots" "mover" "LShelfSlots$Mover;",
  .fieldLink "ShelfSlots" 38 "ShelfSlots" "pad" "LShelfSlots$Pad;",
  .fieldLink "ShelfSlots" 45 "ShelfSlots" "history" "LShelfSlots$History;",
  .fieldLink "ShelfSlots" 49 "ShelfSlots" "saved" "[LShelfSlots$Shed;",
  .fieldLink "ShelfSlots" 53 "ShelfSlots" "wasSaved" "[Z",
  .laysFinal "ShelfSlots" "ShelfSlots" "now" "LShelfSlots$Shed;",
  .laysFinal "ShelfSlots" "ShelfSlots" "trial" "LShelfSlots$Shed;",
  .laysFinal "ShelfSlots" "ShelfSlots" "walker" "LShelfSlots$Walker;",
  .laysFinal "ShelfSlots" "ShelfSlots" "mover" "LShelfSlots$Mover;",
  .laysFinal "ShelfSlots" "ShelfSlots" "pad" "LShelfSlots$Pad;",
  .laysFinal "ShelfSlots" "ShelfSlots" "history" "LShelfSlots$History;",
  .laysFinal "ShelfSlots" "ShelfSlots" "saved" "[LShelfSlots$Shed;",
  .laysFinal "ShelfSlots" "ShelfSlots" "wasSaved" "[Z",
  .arrayClass .boolean,
  .methodLink "ShelfSlotsLaw" 13 ⟨"ShelfSlots", "set", "(II)I"⟩,
  .instanceMethod ⟨"ShelfSlots", "set", "(II)I"⟩,
  .selects "ShelfSlots" ⟨"ShelfSlots", "set", "(II)I"⟩ ⟨"ShelfSlots", "set", "(II)I"⟩,
  .code ⟨"ShelfSlots", "set", "(II)I"⟩ prog_1_method_2_code 3 (some .int)]
set_option maxRecDepth 100000 in
theorem m_p1_eq : m_mask [false, true, true, true, true, true, true, true, true, true, true, true, true, true, true, true, true, true, true, true, true, true, true, true, true, true, true, true, true, true, true, false, true, true, true, true, true, true, true, true, true, true, true, true, true, false, true, false, true, false, false, true, true, true, true, true, true, true, true, true, true, true, true, true, true, true, true, true, true, true, true, true, true, true, true, true, true, true, true, true, true, true, true, true, true, true, true, true, true, true, false, true, false, true, false, true, false, true, false, true, false, true, false, true, false, true, false, true, false, true, false, true, false, true, false, true, false, true, false, true, false, false, true, true, false, true, true, true, true, true, true, false, true, false, false, true, true, true, true, true, true, true, true, true, true, true, true, false, true, false, true, false, false, true, true, false, true, true, true, true, true, false, true, true, true, true, true, true, true, false, true, false, true, false, false, true, true, true, true, true, true, true, false, true, false, true, false, true, false, false, true, true, true, true, true, true, true, false, true, true, true, true, true, true, false, true, false, true, false, false, true, true, true, true, true, true, true, true, true, false, true, false, true, false, true, false, true, false, true, false, true, false, true, false, false, true, true, true, true, true] (tables_1_1) = m_p1 := rfl
theorem m_p1_good : m_p1.all goodWord = true := by decide +kernel
def m_p2 : List Cond := [.methodLink "ShelfSlots" 57 ⟨"ShelfSlots$History", "note", "(LShelfSlots$Shed;)V"⟩,
  .instanceMethod ⟨"ShelfSlots$History", "note", "(LShelfSlots$Shed;)V"⟩,
  .selects "ShelfSlots$History" ⟨"ShelfSlots$History", "note", "(LShelfSlots$Shed;)V"⟩ ⟨"ShelfSlots$History", "note", "(LShelfSlots$Shed;)V"⟩,
  .code ⟨"ShelfSlots$History", "note", "(LShelfSlots$Shed;)V"⟩ prog_5_method_2_code 2 (none),
  .methodLink "ShelfSlots$History" 22 ⟨"ShelfSlots$Shed", "copyFrom", "(LShelfSlots$Shed;)V"⟩,
  .instanceMethod ⟨"ShelfSlots$Shed", "copyFrom", "(LShelfSlots$Shed;)V"⟩,
  .selects "ShelfSlots$Shed" ⟨"ShelfSlots$Shed", "copyFrom", "(LShelfSlots$Shed;)V"⟩ ⟨"ShelfSlots$Shed", "copyFrom", "(LShelfSlots$Shed;)V"⟩,
  .code ⟨"ShelfSlots$Shed", "copyFrom", "(LShelfSlots$Shed;)V"⟩ prog_9_method_2_code 2 (none),
  .methodLink "ShelfSlots$Shed" 44 ⟨"java/lang/System", "arraycopy", "(Ljava/lang/Object;ILjava/lang/Object;II)V"⟩,
  .static ⟨"java/lang/System", "arraycopy", "(Ljava/lang/Object;ILjava/lang/Object;II)V"⟩,
  .native ⟨"java/lang/System", "arraycopy", "(Ljava/lang/Object;ILjava/lang/Object;II)V"⟩,
  .methodLink "ShelfSlots$Shed" 50 ⟨"ShelfSlots$Day", "copyFrom", "(LShelfSlots$Day;)V"⟩,
  .instanceMethod ⟨"ShelfSlots$Day", "copyFrom", "(LShelfSlots$Day;)V"⟩,
  .selects "ShelfSlots$Day" ⟨"ShelfSlots$Day", "copyFrom", "(LShelfSlots$Day;)V"⟩ ⟨"ShelfSlots$Day", "copyFrom", "(LShelfSlots$Day;)V"⟩,
  .code ⟨"ShelfSlots$Day", "copyFrom", "(LShelfSlots$Day;)V"⟩ prog_3_method_2_code 2 (none),
  .methodLink "ShelfSlots$Day" 18 ⟨"java/lang/System", "arraycopy", "(Ljava/lang/Object;ILjava/lang/Object;II)V"⟩,
  .methodLink "ShelfSlots" 61 ⟨"ShelfSlots$Shed", "changeSetting", "(II)I"⟩,
  .instanceMethod ⟨"ShelfSlots$Shed", "changeSetting", "(II)I"⟩,
  .selects "ShelfSlots$Shed" ⟨"ShelfSlots$Shed", "changeSetting", "(II)I"⟩ ⟨"ShelfSlots$Shed", "changeSetting", "(II)I"⟩,
  .code ⟨"ShelfSlots$Shed", "changeSetting", "(II)I"⟩ prog_9_method_5_code 6 (some .int),
  .methodLink "ShelfSlots" 65 ⟨"ShelfSlots", "recorded", "(I)I"⟩,
  .instanceMethod ⟨"ShelfSlots", "recorded", "(I)I"⟩,
  .code ⟨"ShelfSlots", "recorded", "(I)I"⟩ prog_1_method_28_code 2 (some .int),
  .methodLink "ShelfSlots" 254 ⟨"ShelfSlots$History", "keepNote", "()V"⟩,
  .instanceMethod ⟨"ShelfSlots$History", "keepNote", "()V"⟩,
  .selects "ShelfSlots$History" ⟨"ShelfSlots$History", "keepNote", "()V"⟩ ⟨"ShelfSlots$History", "keepNote", "()V"⟩,
  .code ⟨"ShelfSlots$History", "keepNote", "()V"⟩ prog_5_method_3_code 1 (none),
  .methodLink "ShelfSlots$History" 29 ⟨"java/lang/Math", "min", "(II)I"⟩,
  .static ⟨"java/lang/Math", "min", "(II)I"⟩,
  .code ⟨"java/lang/Math", "min", "(II)I"⟩ prog_14_method_69_code 2 (some .int),
  .methodLink "ShelfSlotsLaw" 18 ⟨"ShelfSlots", "good", "(I)I"⟩,
  .instanceMethod ⟨"ShelfSlots", "good", "(I)I"⟩,
  .selects "ShelfSlots" ⟨"ShelfSlots", "good", "(I)I"⟩ ⟨"ShelfSlots", "good", "(I)I"⟩,
  .code ⟨"ShelfSlots", "good", "(I)I"⟩ prog_1_method_3_code 2 (some .int),
  .methodLink "ShelfSlots" 69 ⟨"ShelfSlots$Shed", "bringGood", "(I)I"⟩,
  .instanceMethod ⟨"ShelfSlots$Shed", "bringGood", "(I)I"⟩,
  .selects "ShelfSlots$Shed" ⟨"ShelfSlots$Shed", "bringGood", "(I)I"⟩ ⟨"ShelfSlots$Shed", "bringGood", "(I)I"⟩,
  .code ⟨"ShelfSlots$Shed", "bringGood", "(I)I"⟩ prog_9_method_6_code 3 (some .int),
  .methodLink "ShelfSlots$Shed" 77 ⟨"ShelfSlots$Shed", "isSlot", "(I)Z"⟩,
  .static ⟨"ShelfSlots$Shed", "isSlot", "(I)Z"⟩,
  .code ⟨"ShelfSlots$Shed", "isSlot", "(I)Z"⟩ prog_9_method_3_code 1 (some .boolean),
  .methodLink "ShelfSlotsLaw" 23 ⟨"ShelfSlots", "swap", "(II)I"⟩,
  .instanceMethod ⟨"ShelfSlots", "swap", "(II)I"⟩,
  .selects "ShelfSlots" ⟨"ShelfSlots", "swap", "(II)I"⟩ ⟨"ShelfSlots", "swap", "(II)I"⟩,
  .code ⟨"ShelfSlots", "swap", "(II)I"⟩ prog_1_method_4_code 3 (some .int),
  .methodLink "ShelfSlots" 72 ⟨"ShelfSlots$Shed", "swapByHand", "(II)I"⟩,
  .instanceMethod ⟨"ShelfSlots$Shed", "swapByHand", "(II)I"⟩,
  .selects "ShelfSlots$Shed" ⟨"ShelfSlots$Shed", "swapByHand", "(II)I"⟩ ⟨"ShelfSlots$Shed", "swapByHand", "(II)I"⟩,
  .code ⟨"ShelfSlots$Shed", "swapByHand", "(II)I"⟩ prog_9_method_7_code 3 (some .int),
  .methodLink "ShelfSlots$Shed" 81 ⟨"ShelfSlots$Shed", "swapCounted", "(II)I"⟩,
  .instanceMethod ⟨"ShelfSlots$Shed", "swapCounted", "(II)I"⟩,
  .selects "ShelfSlots$Shed" ⟨"ShelfSlots$Shed", "swapCounted", "(II)I"⟩ ⟨"ShelfSlots$Shed", "swapCounted", "(II)I"⟩,
  .code ⟨"ShelfSlots$Shed", "swapCounted", "(II)I"⟩ prog_9_method_9_code 3 (some .int),
  .methodLink "ShelfSlots$Shed" 88 ⟨"ShelfSlots$Shed", "exchange", "(II)V"⟩,
  .instanceMethod ⟨"ShelfSlots$Shed", "exchange", "(II)V"⟩,
  .selects "ShelfSlots$Shed" ⟨"ShelfSlots$Shed", "exchange", "(II)V"⟩ ⟨"ShelfSlots$Shed", "exchange", "(II)V"⟩,
  .code ⟨"ShelfSlots$Shed", "exchange", "(II)V"⟩ prog_9_method_11_code 4 (none),
  .methodLink "ShelfSlots$Shed" 96 ⟨"ShelfSlots$Shed", "stand", "(II)V"⟩,
  .instanceMethod ⟨"ShelfSlots$Shed", "stand", "(II)V"⟩,
  .code ⟨"ShelfSlots$Shed", "stand", "(II)V"⟩ prog_9_method_12_code 3 (none),
  .methodLink "ShelfSlots$Shed" 92 ⟨"ShelfSlots$Shed", "countSwap", "(I)I"⟩,
  .instanceMethod ⟨"ShelfSlots$Shed", "countSwap", "(I)I"⟩,
  .code ⟨"ShelfSlots$Shed", "countSwap", "(I)I"⟩ prog_9_method_10_code 2 (some .int),
  .methodLink "ShelfSlotsLaw" 27 ⟨"ShelfSlots", "close", "(I)I"⟩,
  .instanceMethod ⟨"ShelfSlots", "close", "(I)I"⟩,
  .selects "ShelfSlots" ⟨"ShelfSlots", "close", "(I)I"⟩ ⟨"ShelfSlots", "close", "(I)I"⟩,
  .code ⟨"ShelfSlots", "close", "(I)I"⟩ prog_1_method_5_code 2 (some .int),
  .methodLink "ShelfSlots" 75 ⟨"ShelfSlots$Shed", "closeOrOpen", "(I)I"⟩,
  .instanceMethod ⟨"ShelfSlots$Shed", "closeOrOpen", "(I)I"⟩,
  .selects "ShelfSlots$Shed" ⟨"ShelfSlots$Shed", "closeOrOpen", "(I)I"⟩ ⟨"ShelfSlots$Shed", "closeOrOpen", "(I)I"⟩,
  .code ⟨"ShelfSlots$Shed", "closeOrOpen", "(I)I"⟩ prog_9_method_8_code 2 (some .int),
  .methodLink "ShelfSlots$Shed" 85 ⟨"ShelfSlots$Shed", "isClosed", "(I)Z"⟩,
  .instanceMethod ⟨"ShelfSlots$Shed", "isClosed", "(I)Z"⟩,
  .selects "ShelfSlots$Shed" ⟨"ShelfSlots$Shed", "isClosed", "(I)Z"⟩ ⟨"ShelfSlots$Shed", "isClosed", "(I)Z"⟩,
  .code ⟨"ShelfSlots$Shed", "isClosed", "(I)Z"⟩ prog_9_method_4_code 2 (some .boolean),
  .methodLink "ShelfSlotsLaw" 31 ⟨"ShelfSlots", "pick", "(I)I"⟩,
  .instanceMethod ⟨"ShelfSlots", "pick", "(I)I"⟩,
  .selects "ShelfSlots" ⟨"ShelfSlots", "pick", "(I)I"⟩ ⟨"ShelfSlots", "pick", "(I)I"⟩,
  .code ⟨"ShelfSlots", "pick", "(I)I"⟩ prog_1_method_6_code 2 (some .int),
  .methodLink "ShelfSlots" 78 ⟨"ShelfSlots", "pickBasket", "(I)I"⟩,
  .instanceMethod ⟨"ShelfSlots", "pickBasket", "(I)I"⟩,
  .code ⟨"ShelfSlots", "pickBasket", "(I)I"⟩ prog_1_method_30_code 4 (some .int),
  .methodLink "ShelfSlots" 150 ⟨"ShelfSlots", "errorOfBasket", "(I)I"⟩,
  .instanceMethod ⟨"ShelfSlots", "errorOfBasket", "(I)I"⟩,
  .code ⟨"ShelfSlots", "errorOfBasket", "(I)I"⟩ prog_1_method_29_code 3 (some .int),
  .methodLink "ShelfSlots" 257 ⟨"java/lang/Integer", "bitCount", "(I)I"⟩,
  .static ⟨"java/lang/Integer", "bitCount", "(I)I"⟩,
  .code ⟨"java/lang/Integer", "bitCount", "(I)I"⟩ prog_13_method_49_code 1 (some .int),
  .constant "java/lang/Integer" 265 1431655765,
  .constant "java/lang/Integer" 266 858993459,
  .constant "java/lang/Integer" 267 252645135,
  .methodLink "ShelfSlots" 146 ⟨"ShelfSlots$Walker", "lengthOf", "(LShelfSlots$Shed;I)I"⟩,
  .instanceMethod ⟨"ShelfSlots$Walker", "lengthOf", "(LShelfSlots$Shed;I)I"⟩,
  .selects "ShelfSlots$Walker" ⟨"ShelfSlots$Walker", "lengthOf", "(LShelfSlots$Shed;I)I"⟩ ⟨"ShelfSlots$Walker", "lengthOf", "(LShelfSlots$Shed;I)I"⟩,
  .code ⟨"ShelfSlots$Walker", "lengthOf", "(LShelfSlots$Shed;I)I"⟩ prog_10_method_2_code 10 (some .int),
  .methodLink "ShelfSlots$Walker" 15 ⟨"ShelfSlots$Walker", "listGoods", "(I)V"⟩,
  .instanceMethod ⟨"ShelfSlots$Walker", "listGoods", "(I)V"⟩,
  .code ⟨"ShelfSlots$Walker", "listGoods", "(I)V"⟩ prog_10_method_5_code 3 (none),
  .constant "ShelfSlots$Walker" 23 1000000,
  .methodLink "ShelfSlots$Walker" 29 ⟨"ShelfSlots$Shed", "stepsBetween", "(II)I"⟩,
  .instanceMethod ⟨"ShelfSlots$Shed", "stepsBetween", "(II)I"⟩,
  .selects "ShelfSlots$Shed" ⟨"ShelfSlots$Shed", "stepsBetween", "(II)I"⟩ ⟨"ShelfSlots$Shed", "stepsBetween", "(II)I"⟩,
  .code ⟨"ShelfSlots$Shed", "stepsBetween", "(II)I"⟩ prog_9_method_14_code 4 (some .int),
  .methodLink "ShelfSlots$Walker" 33 ⟨"ShelfSlots$Walker", "moveUp", "(II)V"⟩,
  .instanceMethod ⟨"ShelfSlots$Walker", "moveUp", "(II)V"⟩,
  .code ⟨"ShelfSlots$Walker", "moveUp", "(II)V"⟩ prog_10_method_6_code 5 (none),
  .methodLink "ShelfSlots$Walker" 37 ⟨"ShelfSlots$Shed", "deskSteps", "(I)I"⟩,
  .instanceMethod ⟨"ShelfSlots$Shed", "deskSteps", "(I)I"⟩,
  .selects "ShelfSlots$Shed" ⟨"ShelfSlots$Shed", "deskSteps", "(I)I"⟩ ⟨"ShelfSlots$Shed", "deskSteps", "(I)I"⟩,
  .code ⟨"ShelfSlots$Shed", "deskSteps", "(I)I"⟩ prog_9_method_15_code 2 (some .int),
  .methodLink "ShelfSlots" 262 ⟨"ShelfSlots$Shed", "notePicked", "(II)V"⟩,
  .instanceMethod ⟨"ShelfSlots$Shed", "notePicked", "(II)V"⟩,
  .selects "ShelfSlots$Shed" ⟨"ShelfSlots$Shed", "notePicked", "(II)V"⟩ ⟨"ShelfSlots$Shed", "notePicked", "(II)V"⟩,
  .code ⟨"ShelfSlots$Shed", "notePicked", "(II)V"⟩ prog_9_method_20_code 5 (none),
  .classLink "ShelfSlots$Shed" 102 "ShelfSlots$Picked",
  .instantiable "ShelfSlots$Picked" 4,
  .methodLink "ShelfSlots$Shed" 104 ⟨"ShelfSlots$Shed", "timesPicked", "(I)I"⟩,
  .instanceMethod ⟨"ShelfSlots$Shed", "timesPicked", "(I)I"⟩,
  .selects "ShelfSlots$Shed" ⟨"ShelfSlots$Shed", "timesPicked", "(I)I"⟩ ⟨"ShelfSlots$Shed", "timesPicked", "(I)I"⟩,
  .code ⟨"ShelfSlots$Shed", "timesPicked", "(I)I"⟩ prog_9_method_21_code 3 (some .int),
  .methodLink "ShelfSlots$Shed" 107 ⟨"ShelfSlots$Shed", "unlikeBaskets", "()I"⟩,
  .instanceMethod ⟨"ShelfSlots$Shed", "unlikeBaskets", "()I"⟩,
  .selects "ShelfSlots$Shed" ⟨"ShelfSlots$Shed", "unlikeBaskets", "()I"⟩ ⟨"ShelfSlots$Shed", "unlikeBaskets", "()I"⟩,
  .code ⟨"ShelfSlots$Shed", "unlikeBaskets", "()I"⟩ prog_9_method_22_code 1 (some .int),
  .methodLink "ShelfSlots$Shed" 111 ⟨"ShelfSlots$Picked", "<init>", "(IIILShelfSlots$Picked;)V"⟩,
  .instanceMethod ⟨"ShelfSlots$Picked", "<init>", "(IIILShelfSlots$Picked;)V"⟩,
  .code ⟨"ShelfSlots$Picked", "<init>", "(IIILShelfSlots$Picked;)V"⟩ prog_8_method_1_code 5 (none),
  .methodLink "ShelfSlots$Picked" 1 ⟨"java/lang/Object", "<init>", "()V"⟩,
  .fieldLink "ShelfSlots$Picked" 7 "ShelfSlots$Picked" "basket" "I",
  .fieldLink "ShelfSlots$Shed" 117 "ShelfSlots$Picked" "basket" "I",
  .fieldLink "ShelfSlots$Picked" 13 "ShelfSlots$Picked" "times" "I",
  .fieldLink "ShelfSlots$Shed" 120 "ShelfSlots$Picked" "times" "I",
  .fieldLink "ShelfSlots$Picked" 16 "ShelfSlots$Picked" "unlike" "I",
  .fieldLink "ShelfSlots$Shed" 126 "ShelfSlots$Picked" "unlike" "I",
  .fieldLink "ShelfSlots$Picked" 19 "ShelfSlots$Picked" "before" "LShelfSlots$Picked;",
  .fieldLink "ShelfSlots$Shed" 123 "ShelfSlots$Picked" "before" "LShelfSlots$Picked;",
  .laysFinal "ShelfSlots$Picked" "ShelfSlots$Picked" "basket" "I",
  .laysFinal "ShelfSlots$Picked" "ShelfSlots$Picked" "times" "I",
  .laysFinal "ShelfSlots$Picked" "ShelfSlots$Picked" "unlike" "I",
  .laysFinal "ShelfSlots$Picked" "ShelfSlots$Picked" "before" "LShelfSlots$Picked;",
  .methodLink "ShelfSlots$Shed" 114 ⟨"ShelfSlots$Day", "add", "(II)V"⟩,
  .instanceMethod ⟨"ShelfSlots$Day", "add", "(II)V"⟩,
  .selects "ShelfSlots$Day" ⟨"ShelfSlots$Day", "add", "(II)V"⟩ ⟨"ShelfSlots$Day", "add", "(II)V"⟩,
  .code ⟨"ShelfSlots$Day", "add", "(II)V"⟩ prog_3_method_3_code 3 (none),
  .methodLink "ShelfSlotsLaw" 35 ⟨"ShelfSlots", "night", "()I"⟩,
  .instanceMethod ⟨"ShelfSlots", "night", "()I"⟩,
  .selects "ShelfSlots" ⟨"ShelfSlots", "night", "()I"⟩ ⟨"ShelfSlots", "night", "()I"⟩,
  .code ⟨"ShelfSlots", "night", "()I"⟩ prog_1_method_7_code 1 (some .int),
  .methodLink "ShelfSlots" 81 ⟨"ShelfSlots$Mover", "passNight", "(LShelfSlots$Shed;)I"⟩,
  .instanceMethod ⟨"ShelfSlots$Mover", "passNight", "(LShelfSlots$Shed;)I"⟩,
  .selects "ShelfSlots$Mover" ⟨"ShelfSlots$Mover", "passNight", "(LShelfSlots$Shed;)I"⟩ ⟨"ShelfSlots$Mover", "passNight", "(LShelfSlots$Shed;)I"⟩,
  .code ⟨"ShelfSlots$Mover", "passNight", "(LShelfSlots$Shed;)I"⟩ prog_6_method_2_code 3 (some .int),
  .methodLink "ShelfSlots$Mover" 21 ⟨"ShelfSlots$Shed", "ageSpeeds", "()V"⟩,
  .instanceMethod ⟨"ShelfSlots$Shed", "ageSpeeds", "()V"⟩,
  .selects "ShelfSlots$Shed" ⟨"ShelfSlots$Shed", "ageSpeeds", "()V"⟩ ⟨"ShelfSlots$Shed", "ageSpeeds", "()V"⟩,
  .code ⟨"ShelfSlots$Shed", "ageSpeeds", "()V"⟩ prog_9_method_23_code 4 (none),
  .constantFloat "ShelfSlots$Shed" 129 1120403456,
  .methodLink "ShelfSlots$Mover" 28 ⟨"ShelfSlots$Mover", "findSwap", "(LShelfSlots$Shed;)Z"⟩,
  .instanceMethod ⟨"ShelfSlots$Mover", "findSwap", "(LShelfSlots$Shed;)Z"⟩,
  .selects "ShelfSlots$Mover" ⟨"ShelfSlots$Mover", "findSwap", "(LShelfSlots$Shed;)Z"⟩ ⟨"ShelfSlots$Mover", "findSwap", "(LShelfSlots$Shed;)Z"⟩,
  .code ⟨"ShelfSlots$Mover", "findSwap", "(LShelfSlots$Shed;)Z"⟩ prog_6_method_3_code 7 (some .boolean),
  .methodLink "ShelfSlots$Mover" 48 ⟨"ShelfSlots$Shed", "weight", "()F"⟩,
  .instanceMethod ⟨"ShelfSlots$Shed", "weight", "()F"⟩,
  .selects "ShelfSlots$Shed" ⟨"ShelfSlots$Shed", "weight", "()F"⟩ ⟨"ShelfSlots$Shed", "weight", "()F"⟩,
  .code ⟨"ShelfSlots$Shed", "weight", "()F"⟩ prog_9_method_16_code 3 (some .float),
  .methodLink "ShelfSlots$Shed" 99 ⟨"ShelfSlots$Shed", "deskSteps", "(I)I"⟩,
  .methodLink "ShelfSlots$Mover" 52 ⟨"ShelfSlots$Walker", "togetherOf", "(LShelfSlots$Shed;)I"⟩,
  .instanceMethod ⟨"ShelfSlots$Walker", "togetherOf", "(LShelfSlots$Shed;)I"⟩,
  .selects "ShelfSlots$Walker" ⟨"ShelfSlots$Walker", "togetherOf", "(LShelfSlots$Shed;)I"⟩ ⟨"ShelfSlots$Walker", "togetherOf", "(LShelfSlots$Shed;)I"⟩,
  .code ⟨"ShelfSlots$Walker", "togetherOf", "(LShelfSlots$Shed;)I"⟩ prog_10_method_4_code 4 (some .int),
  .methodLink "ShelfSlots$Walker" 51 ⟨"ShelfSlots$Walker", "lengthOf", "(LShelfSlots$Shed;I)I"⟩,
  .methodLink "ShelfSlots$Mover" 58 ⟨"ShelfSlots$Shed", "mayMoveByNight", "(II)Z"⟩,
  .instanceMethod ⟨"ShelfSlots$Shed", "mayMoveByNight", "(II)Z"⟩,
  .selects "ShelfSlots$Shed" ⟨"ShelfSlots$Shed", "mayMoveByNight", "(II)Z"⟩ ⟨"ShelfSlots$Shed", "mayMoveByNight", "(II)Z"⟩,
  .code ⟨"ShelfSlots$Shed", "mayMoveByNight", "(II)Z"⟩ prog_9_method_13_code 4 (some .boolean),
  .methodLink "ShelfSlots$Mover" 62 ⟨"ShelfSlots$Shed", "exchange", "(II)V"⟩,
  .methodLink "ShelfSlots$Mover" 38 ⟨"ShelfSlots$Shed", "swapCounted", "(II)I"⟩,
  .methodLink "ShelfSlots$Mover" 45 ⟨"ShelfSlots$Shed", "endDay", "()V"⟩,
  .instanceMethod ⟨"ShelfSlots$Shed", "endDay", "()V"⟩,
  .selects "ShelfSlots$Shed" ⟨"ShelfSlots$Shed", "endDay", "()V"⟩ ⟨"ShelfSlots$Shed", "endDay", "()V"⟩,
  .code ⟨"ShelfSlots$Shed", "endDay", "()V"⟩ prog_9_method_24_code 2 (none),
  .methodLink "ShelfSlotsLaw" 40 ⟨"ShelfSlots", "of", "(II)I"⟩,
  .instanceMethod ⟨"ShelfSlots", "of", "(II)I"⟩,
  .selects "ShelfSlots" ⟨"ShelfSlots", "of", "(II)I"⟩ ⟨"ShelfSlots", "of", "(II)I"⟩,
  .code ⟨"ShelfSlots", "of", "(II)I"⟩ prog_1_method_8_code 3 (some .int),
  .methodLink "ShelfSlots" 97 ⟨"ShelfSlots$Bits", "ofFloat", "(F)I"⟩,
  .static ⟨"ShelfSlots$Bits", "ofFloat", "(F)I"⟩,
  .code ⟨"ShelfSlots$Bits", "ofFloat", "(F)I"⟩ prog_2_method_2_code 3 (some .int),
  .methodLink "ShelfSlots$Bits" 7 ⟨"ShelfSlots$Bits", "exponentOf", "(D)I"⟩,
  .static ⟨"ShelfSlots$Bits", "exponentOf", "(D)I"⟩,
  .code ⟨"ShelfSlots$Bits", "exponentOf", "(D)I"⟩ prog_2_method_4_code 5 (some .int),
  .constantDouble "ShelfSlots$Bits" 30 4611686018427387904,
  .methodLink "ShelfSlots$Bits" 13 ⟨"ShelfSlots$Bits", "scaled", "(DI)D"⟩,
  .static ⟨"ShelfSlots$Bits", "scaled", "(DI)D"⟩,
  .code ⟨"ShelfSlots$Bits", "scaled", "(DI)D"⟩ prog_2_method_5_code 6 (some .double),
  .constantDouble "ShelfSlots$Bits" 17 4710765210229538816,
  .methodLink "ShelfSlots$Bits" 19 ⟨"java/lang/Math", "min", "(II)I"⟩,
  .constant "ShelfSlots$Bits" 25 8388608,
  .methodLink "ShelfSlots" 109 ⟨"ShelfSlots$Shed", "deskSteps", "(I)I"⟩,
  .methodLink "ShelfSlotsLaw" 44 ⟨"ShelfSlots", "ofSlot", "(II)I"⟩,
  .instanceMethod ⟨"ShelfSlots", "ofSlot", "(II)I"⟩,
  .selects "ShelfSlots" ⟨"ShelfSlots", "ofSlot", "(II)I"⟩ ⟨"ShelfSlots", "ofSlot", "(II)I"⟩,
  .code ⟨"ShelfSlots", "ofSlot", "(II)I"⟩ prog_1_method_9_code 3 (some .int),
  .methodLink "ShelfSlots" 115 ⟨"ShelfSlots$Shed", "isSlot", "(I)Z"⟩,
  .methodLink "ShelfSlots" 122 ⟨"ShelfSlots$Shed", "isClosed", "(I)Z"⟩,
  .methodLink "ShelfSlotsLaw" 48 ⟨"ShelfSlots", "steps", "(II)I"⟩,
  .instanceMethod ⟨"ShelfSlots", "steps", "(II)I"⟩,
  .selects "ShelfSlots" ⟨"ShelfSlots", "steps", "(II)I"⟩ ⟨"ShelfSlots", "steps", "(II)I"⟩,
  .code ⟨"ShelfSlots", "steps", "(II)I"⟩ prog_1_method_10_code 3 (some .int),
  .methodLink "ShelfSlots" 125 ⟨"ShelfSlots$Shed", "stepsBetween", "(II)I"⟩,
  .methodLink "ShelfSlotsLaw" 52 ⟨"ShelfSlots", "basket", "(III)I"⟩,
  .instanceMethod ⟨"ShelfSlots", "basket", "(III)I"⟩,
  .selects "ShelfSlots" ⟨"ShelfSlots", "basket", "(III)I"⟩ ⟨"ShelfSlots", "basket", "(III)I"⟩,
  .code ⟨"ShelfSlots", "basket", "(III)I"⟩ prog_1_method_11_code 5 (some .int),
  .methodLink "ShelfSlotsLaw" 57 ⟨"ShelfSlots", "often", "(I)I"⟩,
  .instanceMethod ⟨"ShelfSlots", "often", "(I)I"⟩,
  .selects "ShelfSlots" ⟨"ShelfSlots", "often", "(I)I"⟩ ⟨"ShelfSlots", "often", "(I)I"⟩,
  .code ⟨"ShelfSlots", "often", "(I)I"⟩ prog_1_method_12_code 3 (some .int),
  .methodLink "ShelfSlots" 153 ⟨"ShelfSlots$Shed", "timesPicked", "(I)I"⟩,
  .methodLink "ShelfSlotsLaw" 61 ⟨"ShelfSlots", "count", "(I)I"⟩,
  .instanceMethod ⟨"ShelfSlots", "count", "(I)I"⟩,
  .selects "ShelfSlots" ⟨"ShelfSlots", "count", "(I)I"⟩ ⟨"ShelfSlots", "count", "(I)I"⟩,
  .code ⟨"ShelfSlots", "count", "(I)I"⟩ prog_1_method_13_code 2 (some .int),
  .methodLink "ShelfSlots" 159 ⟨"ShelfSlots$Day", "together", "()I"⟩,
  .instanceMethod ⟨"ShelfSlots$Day", "together", "()I"⟩,
  .selects "ShelfSlots$Day" ⟨"ShelfSlots$Day", "together", "()I"⟩ ⟨"ShelfSlots$Day", "together", "()I"⟩,
  .code ⟨"ShelfSlots$Day", "together", "()I"⟩ prog_3_method_4_code 3 (some .int),
  .methodLink "ShelfSlots" 169 ⟨"ShelfSlots$Shed", "weight", "()F"⟩]
set_option maxRecDepth 100000 in
theorem m_p2_eq : m_mask [true, true, true, true, true, true, true, true, true, true, true, true, true, true, true, true, true, true, true, true, true, false, true, true, true, true, true, true, true, true, true, true, true, true, true, true, true, true, true, true, true, true, true, true, true, true, true, true, true, true, true, true, true, true, true, true, true, true, true, false, true, true, true, false, true, true, true, true, true, true, true, true, true, true, true, true, true, true, true, true, true, true, true, false, true, true, true, false, true, true, true, true, true, true, true, true, true, true, true, true, true, false, true, true, true, true, true, true, true, true, false, true, true, true, true, true, true, true, true, true, true, true, true, true, true, true, true, true, true, true, true, true, true, true, true, true, true, true, true, true, true, true, true, true, false, true, false, true, false, true, false, false, true, true, true, true, true, true, true, true, true, true, true, true, true, true, true, true, true, true, true, true, true, true, true, true, true, true, true, true, true, true, true, true, true, true, true, true, true, true, true, true, true, true, true, true, true, true, true, true, true, true, true, true, true, true, true, true, true, true, true, true, true, true, true, true, true, true, true, true, true, true, true, true, true, true, true, true, true, true, true, true, true, true, true, true, true, true, true, true] (tables_1_2) = m_p2 := rfl
theorem m_p2_good : m_p2.all goodWord = true := by decide +kernel
def m_p3 : List Cond := [.methodLink "ShelfSlots" 176 ⟨"ShelfSlots$Shed", "fastest", "()I"⟩,
  .instanceMethod ⟨"ShelfSlots$Shed", "fastest", "()I"⟩,
  .selects "ShelfSlots$Shed" ⟨"ShelfSlots$Shed", "fastest", "()I"⟩ ⟨"ShelfSlots$Shed", "fastest", "()I"⟩,
  .code ⟨"ShelfSlots$Shed", "fastest", "()I"⟩ prog_9_method_18_code 3 (some .int),
  .methodLink "ShelfSlots" 179 ⟨"ShelfSlots$Shed", "unlikeBaskets", "()I"⟩,
  .methodLink "ShelfSlotsLaw" 65 ⟨"ShelfSlots", "meanSpeed", "()J"⟩,
  .instanceMethod ⟨"ShelfSlots", "meanSpeed", "()J"⟩,
  .selects "ShelfSlots" ⟨"ShelfSlots", "meanSpeed", "()J"⟩ ⟨"ShelfSlots", "meanSpeed", "()J"⟩,
  .code ⟨"ShelfSlots", "meanSpeed", "()J"⟩ prog_1_method_14_code 1 (some .long),
  .methodLink "ShelfSlots" 191 ⟨"ShelfSlots$Shed", "mean", "()D"⟩,
  .instanceMethod ⟨"ShelfSlots$Shed", "mean", "()D"⟩,
  .selects "ShelfSlots$Shed" ⟨"ShelfSlots$Shed", "mean", "()D"⟩ ⟨"ShelfSlots$Shed", "mean", "()D"⟩,
  .code ⟨"ShelfSlots$Shed", "mean", "()D"⟩ prog_9_method_17_code 4 (some .double),
  .methodLink "ShelfSlots" 195 ⟨"ShelfSlots$Bits", "ofDouble", "(D)J"⟩,
  .static ⟨"ShelfSlots$Bits", "ofDouble", "(D)J"⟩,
  .code ⟨"ShelfSlots$Bits", "ofDouble", "(D)J"⟩ prog_2_method_3_code 5 (some .long),
  .constantDouble "ShelfSlots$Bits" 26 4841369599423283200,
  .constantLong "ShelfSlots$Bits" 28 4503599627370496,
  .methodLink "ShelfSlotsLaw" 70 ⟨"ShelfSlots", "walk", "(I)I"⟩,
  .instanceMethod ⟨"ShelfSlots", "walk", "(I)I"⟩,
  .selects "ShelfSlots" ⟨"ShelfSlots", "walk", "(I)I"⟩ ⟨"ShelfSlots", "walk", "(I)I"⟩,
  .code ⟨"ShelfSlots", "walk", "(I)I"⟩ prog_1_method_15_code 3 (some .int),
  .methodLink "ShelfSlotsLaw" 74 ⟨"ShelfSlots", "stop", "(II)I"⟩,
  .instanceMethod ⟨"ShelfSlots", "stop", "(II)I"⟩,
  .selects "ShelfSlots" ⟨"ShelfSlots", "stop", "(II)I"⟩ ⟨"ShelfSlots", "stop", "(II)I"⟩,
  .code ⟨"ShelfSlots", "stop", "(II)I"⟩ prog_1_method_16_code 4 (some .int),
  .methodLink "ShelfSlots" 199 ⟨"ShelfSlots$Walker", "goodAt", "(I)I"⟩,
  .instanceMethod ⟨"ShelfSlots$Walker", "goodAt", "(I)I"⟩,
  .selects "ShelfSlots$Walker" ⟨"ShelfSlots$Walker", "goodAt", "(I)I"⟩ ⟨"ShelfSlots$Walker", "goodAt", "(I)I"⟩,
  .code ⟨"ShelfSlots$Walker", "goodAt", "(I)I"⟩ prog_10_method_3_code 2 (some .int),
  .methodLink "ShelfSlotsLaw" 78 ⟨"ShelfSlots", "shortest", "(I)I"⟩,
  .instanceMethod ⟨"ShelfSlots", "shortest", "(I)I"⟩,
  .selects "ShelfSlots" ⟨"ShelfSlots", "shortest", "(I)I"⟩ ⟨"ShelfSlots", "shortest", "(I)I"⟩,
  .code ⟨"ShelfSlots", "shortest", "(I)I"⟩ prog_1_method_17_code 3 (some .int),
  .methodLink "ShelfSlots" 202 ⟨"ShelfSlots$Walker", "shortestOf", "(LShelfSlots$Shed;I)I"⟩,
  .instanceMethod ⟨"ShelfSlots$Walker", "shortestOf", "(LShelfSlots$Shed;I)I"⟩,
  .selects "ShelfSlots$Walker" ⟨"ShelfSlots$Walker", "shortestOf", "(LShelfSlots$Shed;I)I"⟩ ⟨"ShelfSlots$Walker", "shortestOf", "(LShelfSlots$Shed;I)I"⟩,
  .code ⟨"ShelfSlots$Walker", "shortestOf", "(LShelfSlots$Shed;I)I"⟩ prog_10_method_7_code 7 (some .int),
  .methodLink "ShelfSlots$Walker" 55 ⟨"ShelfSlots$Walker", "lastPlace", "(LShelfSlots$Shed;I)I"⟩,
  .instanceMethod ⟨"ShelfSlots$Walker", "lastPlace", "(LShelfSlots$Shed;I)I"⟩,
  .code ⟨"ShelfSlots$Walker", "lastPlace", "(LShelfSlots$Shed;I)I"⟩ prog_10_method_8_code 6 (some .int),
  .methodLink "ShelfSlots$Walker" 61 ⟨"java/lang/Math", "max", "(II)I"⟩,
  .static ⟨"java/lang/Math", "max", "(II)I"⟩,
  .code ⟨"java/lang/Math", "max", "(II)I"⟩ prog_14_method_65_code 2 (some .int),
  .methodLink "ShelfSlotsLaw" 82 ⟨"ShelfSlots", "bestSwap", "(I)I"⟩,
  .instanceMethod ⟨"ShelfSlots", "bestSwap", "(I)I"⟩,
  .selects "ShelfSlots" ⟨"ShelfSlots", "bestSwap", "(I)I"⟩ ⟨"ShelfSlots", "bestSwap", "(I)I"⟩,
  .code ⟨"ShelfSlots", "bestSwap", "(I)I"⟩ prog_1_method_18_code 2 (some .int),
  .methodLink "ShelfSlots" 205 ⟨"ShelfSlots$Shed", "copyFrom", "(LShelfSlots$Shed;)V"⟩,
  .methodLink "ShelfSlots" 208 ⟨"ShelfSlots$Shed", "ageSpeeds", "()V"⟩,
  .methodLink "ShelfSlots" 211 ⟨"ShelfSlots$Mover", "findSwap", "(LShelfSlots$Shed;)Z"⟩,
  .methodLink "ShelfSlotsLaw" 86 ⟨"ShelfSlots", "ifSwapped", "(II)I"⟩,
  .instanceMethod ⟨"ShelfSlots", "ifSwapped", "(II)I"⟩,
  .selects "ShelfSlots" ⟨"ShelfSlots", "ifSwapped", "(II)I"⟩ ⟨"ShelfSlots", "ifSwapped", "(II)I"⟩,
  .code ⟨"ShelfSlots", "ifSwapped", "(II)I"⟩ prog_1_method_19_code 3 (some .int),
  .methodLink "ShelfSlots" 221 ⟨"ShelfSlots$Shed", "exchange", "(II)V"⟩,
  .methodLink "ShelfSlots" 225 ⟨"ShelfSlots$Walker", "togetherOf", "(LShelfSlots$Shed;)I"⟩,
  .methodLink "ShelfSlotsLaw" 90 ⟨"ShelfSlots", "badly", "()I"⟩,
  .instanceMethod ⟨"ShelfSlots", "badly", "()I"⟩,
  .selects "ShelfSlots" ⟨"ShelfSlots", "badly", "()I"⟩ ⟨"ShelfSlots", "badly", "()I"⟩,
  .code ⟨"ShelfSlots", "badly", "()I"⟩ prog_1_method_20_code 3 (some .int),
  .methodLink "ShelfSlots" 228 ⟨"ShelfSlots$Shed", "standsBadly", "(I)Z"⟩,
  .instanceMethod ⟨"ShelfSlots$Shed", "standsBadly", "(I)Z"⟩,
  .selects "ShelfSlots$Shed" ⟨"ShelfSlots$Shed", "standsBadly", "(I)Z"⟩ ⟨"ShelfSlots$Shed", "standsBadly", "(I)Z"⟩,
  .code ⟨"ShelfSlots$Shed", "standsBadly", "(I)Z"⟩ prog_9_method_19_code 4 (some .boolean),
  .methodLink "ShelfSlotsLaw" 96 ⟨"ShelfSlots", "put", "(J)I"⟩,
  .instanceMethod ⟨"ShelfSlots", "put", "(J)I"⟩,
  .selects "ShelfSlots" ⟨"ShelfSlots", "put", "(J)I"⟩ ⟨"ShelfSlots", "put", "(J)I"⟩,
  .code ⟨"ShelfSlots", "put", "(J)I"⟩ prog_1_method_21_code 3 (some .int),
  .methodLink "ShelfSlots" 231 ⟨"ShelfSlots$Pad", "append", "(J)I"⟩,
  .instanceMethod ⟨"ShelfSlots$Pad", "append", "(J)I"⟩,
  .selects "ShelfSlots$Pad" ⟨"ShelfSlots$Pad", "append", "(J)I"⟩ ⟨"ShelfSlots$Pad", "append", "(J)I"⟩,
  .code ⟨"ShelfSlots$Pad", "append", "(J)I"⟩ prog_7_method_2_code 7 (some .int),
  .constantLong "ShelfSlots$Pad" 22 255,
  .methodLink "ShelfSlotsLaw" 101 ⟨"ShelfSlots", "wipe", "()I"⟩,
  .instanceMethod ⟨"ShelfSlots", "wipe", "()I"⟩,
  .selects "ShelfSlots" ⟨"ShelfSlots", "wipe", "()I"⟩ ⟨"ShelfSlots", "wipe", "()I"⟩,
  .code ⟨"ShelfSlots", "wipe", "()I"⟩ prog_1_method_22_code 1 (some .int),
  .methodLink "ShelfSlots" 235 ⟨"ShelfSlots$Pad", "empty", "()I"⟩,
  .instanceMethod ⟨"ShelfSlots$Pad", "empty", "()I"⟩,
  .selects "ShelfSlots$Pad" ⟨"ShelfSlots$Pad", "empty", "()I"⟩ ⟨"ShelfSlots$Pad", "empty", "()I"⟩,
  .code ⟨"ShelfSlots$Pad", "empty", "()I"⟩ prog_7_method_3_code 2 (some .int),
  .methodLink "ShelfSlotsLaw" 105 ⟨"ShelfSlots", "fault", "()I"⟩,
  .instanceMethod ⟨"ShelfSlots", "fault", "()I"⟩,
  .selects "ShelfSlots" ⟨"ShelfSlots", "fault", "()I"⟩ ⟨"ShelfSlots", "fault", "()I"⟩,
  .code ⟨"ShelfSlots", "fault", "()I"⟩ prog_1_method_23_code 1 (some .int),
  .methodLink "ShelfSlots" 238 ⟨"ShelfSlots$Pad", "firstFault", "()I"⟩,
  .instanceMethod ⟨"ShelfSlots$Pad", "firstFault", "()I"⟩,
  .selects "ShelfSlots$Pad" ⟨"ShelfSlots$Pad", "firstFault", "()I"⟩ ⟨"ShelfSlots$Pad", "firstFault", "()I"⟩,
  .code ⟨"ShelfSlots$Pad", "firstFault", "()I"⟩ prog_7_method_4_code 2 (some .int),
  .methodLink "ShelfSlots$Pad" 28 ⟨"ShelfSlots$Grammar", "startAnew", "()V"⟩,
  .instanceMethod ⟨"ShelfSlots$Grammar", "startAnew", "()V"⟩,
  .selects "ShelfSlots$Grammar" ⟨"ShelfSlots$Grammar", "startAnew", "()V"⟩ ⟨"ShelfSlots$Grammar", "startAnew", "()V"⟩,
  .code ⟨"ShelfSlots$Grammar", "startAnew", "()V"⟩ prog_4_method_3_code 1 (none),
  .methodLink "ShelfSlots$Pad" 31 ⟨"ShelfSlots$Grammar", "takes", "(C)Z"⟩,
  .instanceMethod ⟨"ShelfSlots$Grammar", "takes", "(C)Z"⟩,
  .selects "ShelfSlots$Grammar" ⟨"ShelfSlots$Grammar", "takes", "(C)Z"⟩ ⟨"ShelfSlots$Grammar", "takes", "(C)Z"⟩,
  .code ⟨"ShelfSlots$Grammar", "takes", "(C)Z"⟩ prog_4_method_5_code 2 (some .boolean),
  .methodLink "ShelfSlots$Grammar" 17 ⟨"ShelfSlots$Grammar", "takesLetter", "(C)Z"⟩,
  .instanceMethod ⟨"ShelfSlots$Grammar", "takesLetter", "(C)Z"⟩,
  .code ⟨"ShelfSlots$Grammar", "takesLetter", "(C)Z"⟩ prog_4_method_6_code 2 (some .boolean),
  .methodLink "ShelfSlots$Grammar" 21 ⟨"ShelfSlots$Grammar", "isDigit", "(C)Z"⟩,
  .static ⟨"ShelfSlots$Grammar", "isDigit", "(C)Z"⟩,
  .code ⟨"ShelfSlots$Grammar", "isDigit", "(C)Z"⟩ prog_4_method_2_code 1 (some .boolean),
  .methodLink "ShelfSlots$Grammar" 24 ⟨"ShelfSlots$Grammar", "takesMark", "(C)Z"⟩,
  .instanceMethod ⟨"ShelfSlots$Grammar", "takesMark", "(C)Z"⟩,
  .code ⟨"ShelfSlots$Grammar", "takesMark", "(C)Z"⟩ prog_4_method_7_code 2 (some .boolean),
  .methodLink "ShelfSlots$Pad" 35 ⟨"ShelfSlots$Grammar", "mayStop", "()Z"⟩,
  .instanceMethod ⟨"ShelfSlots$Grammar", "mayStop", "()Z"⟩,
  .selects "ShelfSlots$Grammar" ⟨"ShelfSlots$Grammar", "mayStop", "()Z"⟩ ⟨"ShelfSlots$Grammar", "mayStop", "()Z"⟩,
  .code ⟨"ShelfSlots$Grammar", "mayStop", "()Z"⟩ prog_4_method_4_code 1 (some .boolean),
  .methodLink "ShelfSlotsLaw" 109 ⟨"ShelfSlots", "carryOut", "()I"⟩,
  .instanceMethod ⟨"ShelfSlots", "carryOut", "()I"⟩,
  .selects "ShelfSlots" ⟨"ShelfSlots", "carryOut", "()I"⟩ ⟨"ShelfSlots", "carryOut", "()I"⟩,
  .code ⟨"ShelfSlots", "carryOut", "()I"⟩ prog_1_method_24_code 3 (some .int),
  .methodLink "ShelfSlots" 241 ⟨"ShelfSlots$Pad", "rewind", "()V"⟩,
  .instanceMethod ⟨"ShelfSlots$Pad", "rewind", "()V"⟩,
  .selects "ShelfSlots$Pad" ⟨"ShelfSlots$Pad", "rewind", "()V"⟩ ⟨"ShelfSlots$Pad", "rewind", "()V"⟩,
  .code ⟨"ShelfSlots$Pad", "rewind", "()V"⟩ prog_7_method_5_code 1 (none),
  .methodLink "ShelfSlots" 244 ⟨"ShelfSlots", "carryOutOrder", "()I"⟩,
  .instanceMethod ⟨"ShelfSlots", "carryOutOrder", "()I"⟩,
  .code ⟨"ShelfSlots", "carryOutOrder", "()I"⟩ prog_1_method_31_code 3 (some .int),
  .methodLink "ShelfSlots" 265 ⟨"ShelfSlots$Pad", "takeLetter", "()C"⟩,
  .instanceMethod ⟨"ShelfSlots$Pad", "takeLetter", "()C"⟩,
  .selects "ShelfSlots$Pad" ⟨"ShelfSlots$Pad", "takeLetter", "()C"⟩ ⟨"ShelfSlots$Pad", "takeLetter", "()C"⟩,
  .code ⟨"ShelfSlots$Pad", "takeLetter", "()C"⟩ prog_7_method_6_code 2 (some .char),
  .methodLink "ShelfSlots" 269 ⟨"ShelfSlots$Pad", "takeNumber", "()I"⟩,
  .instanceMethod ⟨"ShelfSlots$Pad", "takeNumber", "()I"⟩,
  .selects "ShelfSlots$Pad" ⟨"ShelfSlots$Pad", "takeNumber", "()I"⟩ ⟨"ShelfSlots$Pad", "takeNumber", "()I"⟩,
  .code ⟨"ShelfSlots$Pad", "takeNumber", "()I"⟩ prog_7_method_7_code 2 (some .int),
  .methodLink "ShelfSlots$Pad" 42 ⟨"ShelfSlots$Grammar", "isDigit", "(C)Z"⟩,
  .methodLink "ShelfSlots" 272 ⟨"ShelfSlots$Pad", "takeBasket", "()I"⟩,
  .instanceMethod ⟨"ShelfSlots$Pad", "takeBasket", "()I"⟩,
  .selects "ShelfSlots$Pad" ⟨"ShelfSlots$Pad", "takeBasket", "()I"⟩ ⟨"ShelfSlots$Pad", "takeBasket", "()I"⟩,
  .code ⟨"ShelfSlots$Pad", "takeBasket", "()I"⟩ prog_7_method_8_code 4 (some .int),
  .methodLink "ShelfSlots$Pad" 45 ⟨"ShelfSlots$Pad", "takeNumber", "()I"⟩,
  .methodLink "ShelfSlots$Pad" 49 ⟨"java/lang/Math", "min", "(II)I"⟩,
  .methodLink "ShelfSlots$Pad" 55 ⟨"ShelfSlots$Pad", "passes", "(C)Z"⟩,
  .instanceMethod ⟨"ShelfSlots$Pad", "passes", "(C)Z"⟩,
  .selects "ShelfSlots$Pad" ⟨"ShelfSlots$Pad", "passes", "(C)Z"⟩ ⟨"ShelfSlots$Pad", "passes", "(C)Z"⟩,
  .code ⟨"ShelfSlots$Pad", "passes", "(C)Z"⟩ prog_7_method_9_code 3 (some .boolean),
  .methodLink "ShelfSlots" 247 ⟨"ShelfSlots$Pad", "passes", "(C)Z"⟩,
  .methodLink "ShelfSlotsLaw" 113 ⟨"ShelfSlots", "undo", "()I"⟩,
  .instanceMethod ⟨"ShelfSlots", "undo", "()I"⟩,
  .selects "ShelfSlots" ⟨"ShelfSlots", "undo", "()I"⟩ ⟨"ShelfSlots", "undo", "()I"⟩,
  .code ⟨"ShelfSlots", "undo", "()I"⟩ prog_1_method_25_code 1 (some .int),
  .methodLink "ShelfSlots" 251 ⟨"ShelfSlots$History", "takeBack", "(LShelfSlots$Shed;)I"⟩,
  .instanceMethod ⟨"ShelfSlots$History", "takeBack", "(LShelfSlots$Shed;)I"⟩,
  .selects "ShelfSlots$History" ⟨"ShelfSlots$History", "takeBack", "(LShelfSlots$Shed;)I"⟩ ⟨"ShelfSlots$History", "takeBack", "(LShelfSlots$Shed;)I"⟩,
  .code ⟨"ShelfSlots$History", "takeBack", "(LShelfSlots$Shed;)I"⟩ prog_5_method_4_code 2 (some .int),
  .methodLink "ShelfSlotsLaw" 117 ⟨"ShelfSlots", "save", "(I)I"⟩,
  .instanceMethod ⟨"ShelfSlots", "save", "(I)I"⟩,
  .selects "ShelfSlots" ⟨"ShelfSlots", "save", "(I)I"⟩ ⟨"ShelfSlots", "save", "(I)I"⟩,
  .code ⟨"ShelfSlots", "save", "(I)I"⟩ prog_1_method_26_code 2 (some .int),
  .methodLink "ShelfSlotsLaw" 121 ⟨"ShelfSlots", "restore", "(I)I"⟩,
  .instanceMethod ⟨"ShelfSlots", "restore", "(I)I"⟩,
  .selects "ShelfSlots" ⟨"ShelfSlots", "restore", "(I)I"⟩ ⟨"ShelfSlots", "restore", "(I)I"⟩,
  .code ⟨"ShelfSlots", "restore", "(I)I"⟩ prog_1_method_27_code 2 (some .int),
  .classLink "ShelfSlotsLaw" 10 "ShelfSlotsModel",
  .instantiable "ShelfSlotsModel" 24,
  .methodLink "ShelfSlotsLaw" 12 ⟨"ShelfSlotsModel", "<init>", "()V"⟩,
  .instanceMethod ⟨"ShelfSlotsModel", "<init>", "()V"⟩,
  .code ⟨"ShelfSlotsModel", "<init>", "()V"⟩ prog_12_method_1_code 1 (none),
  .methodLink "ShelfSlotsModel" 1 ⟨"java/lang/Object", "<init>", "()V"⟩,
  .fieldLink "ShelfSlotsModel" 7 "ShelfSlotsModel" "s" "[I",
  .fieldLink "ShelfSlotsModel" 13 "ShelfSlotsModel" "speeds" "[F",
  .fieldLink "ShelfSlotsModel" 17 "ShelfSlotsModel" "aside" "[I",
  .fieldLink "ShelfSlotsModel" 20 "ShelfSlotsModel" "speedsAside" "[F",
  .fieldLink "ShelfSlotsModel" 23 "ShelfSlotsModel" "history" "[I",
  .fieldLink "ShelfSlotsModel" 26 "ShelfSlotsModel" "speedHistory" "[F",
  .fieldLink "ShelfSlotsModel" 54 "ShelfSlotsModel" "known" "I",
  .fieldLink "ShelfSlotsModel" 29 "ShelfSlotsModel" "slots" "[I",
  .fieldLink "ShelfSlotsModel" 32 "ShelfSlotsModel" "speedSlots" "[F",
  .fieldLink "ShelfSlotsModel" 243 "ShelfSlotsModel" "kept" "I",
  .fieldLink "ShelfSlotsModel" 35 "ShelfSlotsModel" "pad" "[I",
  .fieldLink "ShelfSlotsModel" 167 "ShelfSlotsModel" "length" "I",
  .fieldLink "ShelfSlotsModel" 38 "ShelfSlotsModel" "picks" "[I",
  .fieldLink "ShelfSlotsModel" 41 "ShelfSlotsModel" "ahead" "[I",
  .fieldLink "ShelfSlotsModel" 143 "ShelfSlotsModel" "pickMany" "I",
  .fieldLink "ShelfSlotsModel" 44 "ShelfSlotsModel" "ways" "[I",
  .fieldLink "ShelfSlotsModel" 47 "ShelfSlotsModel" "members" "[I",
  .fieldLink "ShelfSlotsModel" 199 "ShelfSlotsModel" "spot" "I",
  .fieldLink "ShelfSlotsModel" 195 "ShelfSlotsModel" "isFaulty" "Z",
  .fieldLink "ShelfSlotsModel" 215 "ShelfSlotsModel" "letter" "I",
  .fieldLink "ShelfSlotsModel" 221 "ShelfSlotsModel" "first" "I",
  .fieldLink "ShelfSlotsModel" 227 "ShelfSlotsModel" "second" "I",
  .fieldLink "ShelfSlotsModel" 212 "ShelfSlotsModel" "told" "I",
  .fieldLink "ShelfSlotsModel" 209 "ShelfSlotsModel" "isStrange" "Z",
  .laysFinal "ShelfSlotsModel" "ShelfSlotsModel" "s" "[I",
  .laysFinal "ShelfSlotsModel" "ShelfSlotsModel" "speeds" "[F",
  .laysFinal "ShelfSlotsModel" "ShelfSlotsModel" "aside" "[I",
  .laysFinal "ShelfSlotsModel" "ShelfSlotsModel" "speedsAside" "[F",
  .laysFinal "ShelfSlotsModel" "ShelfSlotsModel" "history" "[I",
  .laysFinal "ShelfSlotsModel" "ShelfSlotsModel" "speedHistory" "[F",
  .lays "ShelfSlotsModel" "ShelfSlotsModel" "known" "I",
  .laysFinal "ShelfSlotsModel" "ShelfSlotsModel" "slots" "[I",
  .laysFinal "ShelfSlotsModel" "ShelfSlotsModel" "speedSlots" "[F",
  .lays "ShelfSlotsModel" "ShelfSlotsModel" "kept" "I",
  .laysFinal "ShelfSlotsModel" "ShelfSlotsModel" "pad" "[I",
  .lays "ShelfSlotsModel" "ShelfSlotsModel" "length" "I",
  .laysFinal "ShelfSlotsModel" "ShelfSlotsModel" "picks" "[I",
  .laysFinal "ShelfSlotsModel" "ShelfSlotsModel" "ahead" "[I",
  .lays "ShelfSlotsModel" "ShelfSlotsModel" "pickMany" "I",
  .laysFinal "ShelfSlotsModel" "ShelfSlotsModel" "ways" "[I",
  .laysFinal "ShelfSlotsModel" "ShelfSlotsModel" "members" "[I",
  .lays "ShelfSlotsModel" "ShelfSlotsModel" "spot" "I",
  .lays "ShelfSlotsModel" "ShelfSlotsModel" "isFaulty" "Z",
  .lays "ShelfSlotsModel" "ShelfSlotsModel" "letter" "I",
  .lays "ShelfSlotsModel" "ShelfSlotsModel" "first" "I",
  .lays "ShelfSlotsModel" "ShelfSlotsModel" "second" "I",
  .lays "ShelfSlotsModel" "ShelfSlotsModel" "told" "I",
  .lays "ShelfSlotsModel" "ShelfSlotsModel" "isStrange" "Z"]
set_option maxRecDepth 100000 in
theorem m_p3_eq : m_mask [true, true, true, true, true, true, true, true, true, true, true, true, true, true, true, true, true, true, true, true, true, true, true, true, true, true, true, true, true, true, true, true, true, true, true, true, true, true, true, false, true, true, true, true, true, true, true, true, true, true, true, true, true, true, true, true, true, true, true, true, true, true, true, true, true, true, true, true, true, true, true, true, true, true, true, true, true, true, true, true, true, true, true, true, true, true, true, true, true, true, true, true, true, true, true, true, true, true, true, true, false, true, true, true, true, true, true, false, true, true, true, true, true, true, true, true, true, true, true, true, true, true, true, false, true, true, true, true, true, true, true, true, true, true, true, true, true, true, true, true, true, true, true, true, true, true, true, true, true, true, true, true, true, true, true, true, true, true, true, true, true, true, true, true, true, true, true, true, true, true, true, true, true, true, true, true, true, true, true, true, true, true, true, true, true, true, true, true, true, true, true, true, true, false, true, false, true, false, true, false, true, false, true, false, true, false, true, false, true, false, true, false, true, false, true, false, true, false, true, false, true, false, true, false, true, false, true, false, true, false, true, false, true, false, true, false, true, false, true] (tables_1_3) = m_p3 := rfl
theorem m_p3_good : m_p3.all goodWord = true := by decide +kernel
def m_p4 : List Cond := [.methodLink "ShelfSlotsLaw" 17 ⟨"ShelfSlotsModel", "set", "(II)I"⟩,
  .instanceMethod ⟨"ShelfSlotsModel", "set", "(II)I"⟩,
  .selects "ShelfSlotsModel" ⟨"ShelfSlotsModel", "set", "(II)I"⟩ ⟨"ShelfSlotsModel", "set", "(II)I"⟩,
  .code ⟨"ShelfSlotsModel", "set", "(II)I"⟩ prog_12_method_28_code 4 (some .int),
  .methodLink "ShelfSlotsModel" 116 ⟨"ShelfSlotsModel", "putAside", "()V"⟩,
  .instanceMethod ⟨"ShelfSlotsModel", "putAside", "()V"⟩,
  .code ⟨"ShelfSlotsModel", "putAside", "()V"⟩ prog_12_method_6_code 2 (none),
  .methodLink "ShelfSlotsModel" 50 ⟨"ShelfSlotsModel", "in", "(III)Z"⟩,
  .static ⟨"ShelfSlotsModel", "in", "(III)Z"⟩,
  .code ⟨"ShelfSlotsModel", "in", "(III)Z"⟩ prog_12_method_2_code 3 (some .boolean),
  .methodLink "ShelfSlotsModel" 119 ⟨"ShelfSlotsModel", "least", "(I)I"⟩,
  .static ⟨"ShelfSlotsModel", "least", "(I)I"⟩,
  .code ⟨"ShelfSlotsModel", "least", "(I)I"⟩ prog_12_method_26_code 1 (some .int),
  .methodLink "ShelfSlotsModel" 122 ⟨"ShelfSlotsModel", "most", "(I)I"⟩,
  .static ⟨"ShelfSlotsModel", "most", "(I)I"⟩,
  .code ⟨"ShelfSlotsModel", "most", "(I)I"⟩ prog_12_method_27_code 1 (some .int),
  .methodLink "ShelfSlotsModel" 125 ⟨"ShelfSlotsModel", "changed", "(I)I"⟩,
  .instanceMethod ⟨"ShelfSlotsModel", "changed", "(I)I"⟩,
  .code ⟨"ShelfSlotsModel", "changed", "(I)I"⟩ prog_12_method_9_code 2 (some .int),
  .methodLink "ShelfSlotsModel" 58 ⟨"ShelfSlotsModel", "record", "()V"⟩,
  .instanceMethod ⟨"ShelfSlotsModel", "record", "()V"⟩,
  .code ⟨"ShelfSlotsModel", "record", "()V"⟩ prog_12_method_8_code 2 (none),
  .methodLink "ShelfSlotsLaw" 22 ⟨"ShelfSlotsModel", "good", "(I)I"⟩,
  .instanceMethod ⟨"ShelfSlotsModel", "good", "(I)I"⟩,
  .selects "ShelfSlotsModel" ⟨"ShelfSlotsModel", "good", "(I)I"⟩ ⟨"ShelfSlotsModel", "good", "(I)I"⟩,
  .code ⟨"ShelfSlotsModel", "good", "(I)I"⟩ prog_12_method_30_code 2 (some .int),
  .methodLink "ShelfSlotsModel" 128 ⟨"ShelfSlotsModel", "adds", "(I)I"⟩,
  .instanceMethod ⟨"ShelfSlotsModel", "adds", "(I)I"⟩,
  .code ⟨"ShelfSlotsModel", "adds", "(I)I"⟩ prog_12_method_29_code 3 (some .int),
  .methodLink "ShelfSlotsModel" 99 ⟨"ShelfSlotsModel", "isSlot", "(I)Z"⟩,
  .static ⟨"ShelfSlotsModel", "isSlot", "(I)Z"⟩,
  .code ⟨"ShelfSlotsModel", "isSlot", "(I)Z"⟩ prog_12_method_3_code 1 (some .boolean),
  .methodLink "ShelfSlotsModel" 81 ⟨"ShelfSlotsModel", "goodIn", "(I)I"⟩,
  .instanceMethod ⟨"ShelfSlotsModel", "goodIn", "(I)I"⟩,
  .code ⟨"ShelfSlotsModel", "goodIn", "(I)I"⟩ prog_12_method_18_code 4 (some .int),
  .methodLink "ShelfSlotsModel" 68 ⟨"ShelfSlotsModel", "slotOf", "(I)I"⟩,
  .instanceMethod ⟨"ShelfSlotsModel", "slotOf", "(I)I"⟩,
  .code ⟨"ShelfSlotsModel", "slotOf", "(I)I"⟩ prog_12_method_12_code 2 (some .int),
  .methodLink "ShelfSlotsModel" 65 ⟨"ShelfSlotsModel", "ofGood", "(II)I"⟩,
  .static ⟨"ShelfSlotsModel", "ofGood", "(II)I"⟩,
  .code ⟨"ShelfSlotsModel", "ofGood", "(II)I"⟩ prog_12_method_5_code 2 (some .int),
  .methodLink "ShelfSlotsLaw" 26 ⟨"ShelfSlotsModel", "swap", "(II)I"⟩,
  .instanceMethod ⟨"ShelfSlotsModel", "swap", "(II)I"⟩,
  .selects "ShelfSlotsModel" ⟨"ShelfSlotsModel", "swap", "(II)I"⟩ ⟨"ShelfSlotsModel", "swap", "(II)I"⟩,
  .code ⟨"ShelfSlotsModel", "swap", "(II)I"⟩ prog_12_method_31_code 3 (some .int),
  .methodLink "ShelfSlotsModel" 113 ⟨"ShelfSlotsModel", "swaps", "(II)I"⟩,
  .instanceMethod ⟨"ShelfSlotsModel", "swaps", "(II)I"⟩,
  .code ⟨"ShelfSlotsModel", "swaps", "(II)I"⟩ prog_12_method_23_code 4 (some .int),
  .methodLink "ShelfSlotsModel" 96 ⟨"ShelfSlotsModel", "exchanges", "(II)I"⟩,
  .instanceMethod ⟨"ShelfSlotsModel", "exchanges", "(II)I"⟩,
  .code ⟨"ShelfSlotsModel", "exchanges", "(II)I"⟩ prog_12_method_19_code 5 (some .int),
  .methodLink "ShelfSlotsModel" 102 ⟨"ShelfSlotsModel", "counts", "(I)V"⟩,
  .instanceMethod ⟨"ShelfSlotsModel", "counts", "(I)V"⟩,
  .code ⟨"ShelfSlotsModel", "counts", "(I)V"⟩ prog_12_method_22_code 3 (none),
  .methodLink "ShelfSlotsLaw" 30 ⟨"ShelfSlotsModel", "close", "(I)I"⟩,
  .instanceMethod ⟨"ShelfSlotsModel", "close", "(I)I"⟩,
  .selects "ShelfSlotsModel" ⟨"ShelfSlotsModel", "close", "(I)I"⟩ ⟨"ShelfSlotsModel", "close", "(I)I"⟩,
  .code ⟨"ShelfSlotsModel", "close", "(I)I"⟩ prog_12_method_33_code 2 (some .int),
  .methodLink "ShelfSlotsModel" 131 ⟨"ShelfSlotsModel", "closes", "(I)I"⟩,
  .instanceMethod ⟨"ShelfSlotsModel", "closes", "(I)I"⟩,
  .code ⟨"ShelfSlotsModel", "closes", "(I)I"⟩ prog_12_method_32_code 2 (some .int),
  .methodLink "ShelfSlotsLaw" 34 ⟨"ShelfSlotsModel", "pick", "(I)I"⟩,
  .instanceMethod ⟨"ShelfSlotsModel", "pick", "(I)I"⟩,
  .selects "ShelfSlotsModel" ⟨"ShelfSlotsModel", "pick", "(I)I"⟩ ⟨"ShelfSlotsModel", "pick", "(I)I"⟩,
  .code ⟨"ShelfSlotsModel", "pick", "(I)I"⟩ prog_12_method_37_code 2 (some .int),
  .methodLink "ShelfSlotsModel" 146 ⟨"ShelfSlotsModel", "picksOne", "(I)I"⟩,
  .instanceMethod ⟨"ShelfSlotsModel", "picksOne", "(I)I"⟩,
  .code ⟨"ShelfSlotsModel", "picksOne", "(I)I"⟩ prog_12_method_36_code 5 (some .int),
  .methodLink "ShelfSlotsModel" 137 ⟨"ShelfSlotsModel", "errorOf", "(I)I"⟩,
  .instanceMethod ⟨"ShelfSlotsModel", "errorOf", "(I)I"⟩,
  .code ⟨"ShelfSlotsModel", "errorOf", "(I)I"⟩ prog_12_method_34_code 2 (some .int),
  .methodLink "ShelfSlotsModel" 134 ⟨"ShelfSlotsModel", "ones", "(I)I"⟩,
  .static ⟨"ShelfSlotsModel", "ones", "(I)I"⟩,
  .code ⟨"ShelfSlotsModel", "ones", "(I)I"⟩ prog_12_method_13_code 3 (some .int),
  .methodLink "ShelfSlotsModel" 78 ⟨"ShelfSlotsModel", "walkOf", "(I)I"⟩,
  .instanceMethod ⟨"ShelfSlotsModel", "walkOf", "(I)I"⟩,
  .code ⟨"ShelfSlotsModel", "walkOf", "(I)I"⟩ prog_12_method_15_code 6 (some .int),
  .methodLink "ShelfSlotsModel" 75 ⟨"ShelfSlotsModel", "nearest", "(II)I"⟩,
  .instanceMethod ⟨"ShelfSlotsModel", "nearest", "(II)I"⟩,
  .code ⟨"ShelfSlotsModel", "nearest", "(II)I"⟩ prog_12_method_14_code 8 (some .int),
  .methodLink "ShelfSlotsModel" 72 ⟨"ShelfSlotsModel", "far", "(I)I"⟩,
  .instanceMethod ⟨"ShelfSlotsModel", "far", "(I)I"⟩,
  .code ⟨"ShelfSlotsModel", "far", "(I)I"⟩ prog_12_method_11_code 2 (some .int),
  .methodLink "ShelfSlotsModel" 61 ⟨"ShelfSlotsModel", "stepsOf", "(II)I"⟩,
  .instanceMethod ⟨"ShelfSlotsModel", "stepsOf", "(II)I"⟩,
  .code ⟨"ShelfSlotsModel", "stepsOf", "(II)I"⟩ prog_12_method_10_code 5 (some .int),
  .methodLink "ShelfSlotsModel" 140 ⟨"ShelfSlotsModel", "oftenOf", "(I)I"⟩,
  .instanceMethod ⟨"ShelfSlotsModel", "oftenOf", "(I)I"⟩,
  .code ⟨"ShelfSlotsModel", "oftenOf", "(I)I"⟩ prog_12_method_35_code 4 (some .int),
  .methodLink "ShelfSlotsLaw" 39 ⟨"ShelfSlotsModel", "night", "()I"⟩,
  .instanceMethod ⟨"ShelfSlotsModel", "night", "()I"⟩,
  .selects "ShelfSlotsModel" ⟨"ShelfSlotsModel", "night", "()I"⟩ ⟨"ShelfSlotsModel", "night", "()I"⟩,
  .code ⟨"ShelfSlotsModel", "night", "()I"⟩ prog_12_method_38_code 1 (some .int),
  .methodLink "ShelfSlotsModel" 149 ⟨"ShelfSlotsModel", "nights", "()I"⟩,
  .instanceMethod ⟨"ShelfSlotsModel", "nights", "()I"⟩,
  .code ⟨"ShelfSlotsModel", "nights", "()I"⟩ prog_12_method_25_code 4 (some .int),
  .methodLink "ShelfSlotsModel" 107 ⟨"ShelfSlotsModel", "forgets", "()V"⟩,
  .instanceMethod ⟨"ShelfSlotsModel", "forgets", "()V"⟩,
  .code ⟨"ShelfSlotsModel", "forgets", "()V"⟩ prog_12_method_24_code 3 (none),
  .constantFloat "ShelfSlotsModel" 106 1120403456,
  .methodLink "ShelfSlotsModel" 110 ⟨"ShelfSlotsModel", "best", "()I"⟩,
  .instanceMethod ⟨"ShelfSlotsModel", "best", "()I"⟩,
  .code ⟨"ShelfSlotsModel", "best", "()I"⟩ prog_12_method_21_code 10 (some .int),
  .methodLink "ShelfSlotsModel" 84 ⟨"ShelfSlotsModel", "walksNow", "()I"⟩,
  .instanceMethod ⟨"ShelfSlotsModel", "walksNow", "()I"⟩,
  .code ⟨"ShelfSlotsModel", "walksNow", "()I"⟩ prog_12_method_16_code 3 (some .int),
  .methodLink "ShelfSlotsModel" 88 ⟨"ShelfSlotsModel", "weight", "()F"⟩,
  .instanceMethod ⟨"ShelfSlotsModel", "weight", "()F"⟩,
  .code ⟨"ShelfSlotsModel", "weight", "()F"⟩ prog_12_method_17_code 3 (some .float),
  .methodLink "ShelfSlotsModel" 92 ⟨"ShelfSlotsModel", "isOpen", "(I)Z"⟩,
  .instanceMethod ⟨"ShelfSlotsModel", "isOpen", "(I)Z"⟩,
  .code ⟨"ShelfSlotsModel", "isOpen", "(I)Z"⟩ prog_12_method_20_code 2 (some .boolean),
  .methodLink "ShelfSlotsLaw" 43 ⟨"ShelfSlotsModel", "of", "(II)I"⟩,
  .instanceMethod ⟨"ShelfSlotsModel", "of", "(II)I"⟩,
  .selects "ShelfSlotsModel" ⟨"ShelfSlotsModel", "of", "(II)I"⟩ ⟨"ShelfSlotsModel", "of", "(II)I"⟩,
  .code ⟨"ShelfSlotsModel", "of", "(II)I"⟩ prog_12_method_40_code 3 (some .int),
  .methodLink "ShelfSlotsModel" 154 ⟨"ShelfSlotsModel", "isGood", "(I)Z"⟩,
  .instanceMethod ⟨"ShelfSlotsModel", "isGood", "(I)Z"⟩,
  .code ⟨"ShelfSlotsModel", "isGood", "(I)Z"⟩ prog_12_method_4_code 2 (some .boolean),
  .methodLink "ShelfSlotsModel" 157 ⟨"ShelfSlotsModel", "bitsOf", "(F)I"⟩,
  .static ⟨"ShelfSlotsModel", "bitsOf", "(F)I"⟩,
  .code ⟨"ShelfSlotsModel", "bitsOf", "(F)I"⟩ prog_12_method_39_code 3 (some .int),
  .constantFloat "ShelfSlotsModel" 152 1258291200,
  .constant "ShelfSlotsModel" 153 8388608,
  .methodLink "ShelfSlotsLaw" 47 ⟨"ShelfSlotsModel", "ofSlot", "(II)I"⟩,
  .instanceMethod ⟨"ShelfSlotsModel", "ofSlot", "(II)I"⟩,
  .selects "ShelfSlotsModel" ⟨"ShelfSlotsModel", "ofSlot", "(II)I"⟩ ⟨"ShelfSlotsModel", "ofSlot", "(II)I"⟩,
  .code ⟨"ShelfSlotsModel", "ofSlot", "(II)I"⟩ prog_12_method_41_code 3 (some .int),
  .methodLink "ShelfSlotsLaw" 51 ⟨"ShelfSlotsModel", "steps", "(II)I"⟩,
  .instanceMethod ⟨"ShelfSlotsModel", "steps", "(II)I"⟩,
  .selects "ShelfSlotsModel" ⟨"ShelfSlotsModel", "steps", "(II)I"⟩ ⟨"ShelfSlotsModel", "steps", "(II)I"⟩,
  .code ⟨"ShelfSlotsModel", "steps", "(II)I"⟩ prog_12_method_42_code 3 (some .int),
  .methodLink "ShelfSlotsLaw" 56 ⟨"ShelfSlotsModel", "basket", "(III)I"⟩,
  .instanceMethod ⟨"ShelfSlotsModel", "basket", "(III)I"⟩,
  .selects "ShelfSlotsModel" ⟨"ShelfSlotsModel", "basket", "(III)I"⟩ ⟨"ShelfSlotsModel", "basket", "(III)I"⟩,
  .code ⟨"ShelfSlotsModel", "basket", "(III)I"⟩ prog_12_method_43_code 5 (some .int),
  .methodLink "ShelfSlotsLaw" 60 ⟨"ShelfSlotsModel", "often", "(I)I"⟩,
  .instanceMethod ⟨"ShelfSlotsModel", "often", "(I)I"⟩,
  .selects "ShelfSlotsModel" ⟨"ShelfSlotsModel", "often", "(I)I"⟩ ⟨"ShelfSlotsModel", "often", "(I)I"⟩,
  .code ⟨"ShelfSlotsModel", "often", "(I)I"⟩ prog_12_method_44_code 3 (some .int),
  .methodLink "ShelfSlotsLaw" 64 ⟨"ShelfSlotsModel", "count", "(I)I"⟩,
  .instanceMethod ⟨"ShelfSlotsModel", "count", "(I)I"⟩,
  .selects "ShelfSlotsModel" ⟨"ShelfSlotsModel", "count", "(I)I"⟩ ⟨"ShelfSlotsModel", "count", "(I)I"⟩,
  .code ⟨"ShelfSlotsModel", "count", "(I)I"⟩ prog_12_method_47_code 2 (some .int),
  .methodLink "ShelfSlotsModel" 161 ⟨"ShelfSlotsModel", "sumOf", "(II)I"⟩,
  .instanceMethod ⟨"ShelfSlotsModel", "sumOf", "(II)I"⟩,
  .code ⟨"ShelfSlotsModel", "sumOf", "(II)I"⟩ prog_12_method_45_code 5 (some .int),
  .methodLink "ShelfSlotsModel" 164 ⟨"ShelfSlotsModel", "fastest", "()I"⟩,
  .instanceMethod ⟨"ShelfSlotsModel", "fastest", "()I"⟩,
  .code ⟨"ShelfSlotsModel", "fastest", "()I"⟩ prog_12_method_46_code 3 (some .int),
  .methodLink "ShelfSlotsLaw" 69 ⟨"ShelfSlotsModel", "meanSpeed", "()J"⟩,
  .instanceMethod ⟨"ShelfSlotsModel", "meanSpeed", "()J"⟩,
  .selects "ShelfSlotsModel" ⟨"ShelfSlotsModel", "meanSpeed", "()J"⟩ ⟨"ShelfSlotsModel", "meanSpeed", "()J"⟩,
  .code ⟨"ShelfSlotsModel", "meanSpeed", "()J"⟩ prog_12_method_49_code 4 (some .long),
  .methodLink "ShelfSlotsModel" 178 ⟨"ShelfSlotsModel", "longBitsOf", "(D)J"⟩,
  .static ⟨"ShelfSlotsModel", "longBitsOf", "(D)J"⟩,
  .code ⟨"ShelfSlotsModel", "longBitsOf", "(D)J"⟩ prog_12_method_48_code 6 (some .long),
  .constantLong "ShelfSlotsModel" 170 1023,
  .constantDouble "ShelfSlotsModel" 172 4611686018427387904,
  .constantLong "ShelfSlotsModel" 174 4503599627370496,
  .constantDouble "ShelfSlotsModel" 176 4841369599423283200,
  .methodLink "ShelfSlotsLaw" 73 ⟨"ShelfSlotsModel", "walk", "(I)I"⟩,
  .instanceMethod ⟨"ShelfSlotsModel", "walk", "(I)I"⟩,
  .selects "ShelfSlotsModel" ⟨"ShelfSlotsModel", "walk", "(I)I"⟩ ⟨"ShelfSlotsModel", "walk", "(I)I"⟩,
  .code ⟨"ShelfSlotsModel", "walk", "(I)I"⟩ prog_12_method_50_code 3 (some .int),
  .methodLink "ShelfSlotsLaw" 77 ⟨"ShelfSlotsModel", "stop", "(II)I"⟩,
  .instanceMethod ⟨"ShelfSlotsModel", "stop", "(II)I"⟩,
  .selects "ShelfSlotsModel" ⟨"ShelfSlotsModel", "stop", "(II)I"⟩ ⟨"ShelfSlotsModel", "stop", "(II)I"⟩,
  .code ⟨"ShelfSlotsModel", "stop", "(II)I"⟩ prog_12_method_51_code 7 (some .int),
  .methodLink "ShelfSlotsLaw" 81 ⟨"ShelfSlotsModel", "shortest", "(I)I"⟩,
  .instanceMethod ⟨"ShelfSlotsModel", "shortest", "(I)I"⟩,
  .selects "ShelfSlotsModel" ⟨"ShelfSlotsModel", "shortest", "(I)I"⟩ ⟨"ShelfSlotsModel", "shortest", "(I)I"⟩,
  .code ⟨"ShelfSlotsModel", "shortest", "(I)I"⟩ prog_12_method_54_code 3 (some .int),
  .methodLink "ShelfSlotsModel" 187 ⟨"ShelfSlotsModel", "shortestOf", "(I)I"⟩,
  .instanceMethod ⟨"ShelfSlotsModel", "shortestOf", "(I)I"⟩,
  .code ⟨"ShelfSlotsModel", "shortestOf", "(I)I"⟩ prog_12_method_52_code 7 (some .int),
  .methodLink "ShelfSlotsModel" 182 ⟨"ShelfSlotsModel", "wayTo", "(III)I"⟩,
  .instanceMethod ⟨"ShelfSlotsModel", "wayTo", "(III)I"⟩,
  .code ⟨"ShelfSlotsModel", "wayTo", "(III)I"⟩ prog_12_method_53_code 9 (some .int),
  .constant "ShelfSlotsModel" 186 1000000,
  .methodLink "ShelfSlotsLaw" 85 ⟨"ShelfSlotsModel", "bestSwap", "(I)I"⟩,
  .instanceMethod ⟨"ShelfSlotsModel", "bestSwap", "(I)I"⟩,
  .selects "ShelfSlotsModel" ⟨"ShelfSlotsModel", "bestSwap", "(I)I"⟩ ⟨"ShelfSlotsModel", "bestSwap", "(I)I"⟩,
  .code ⟨"ShelfSlotsModel", "bestSwap", "(I)I"⟩ prog_12_method_55_code 3 (some .int),
  .methodLink "ShelfSlotsModel" 190 ⟨"ShelfSlotsModel", "putBack", "()V"⟩,
  .instanceMethod ⟨"ShelfSlotsModel", "putBack", "()V"⟩,
  .code ⟨"ShelfSlotsModel", "putBack", "()V"⟩ prog_12_method_7_code 2 (none),
  .methodLink "ShelfSlotsLaw" 89 ⟨"ShelfSlotsModel", "ifSwapped", "(II)I"⟩,
  .instanceMethod ⟨"ShelfSlotsModel", "ifSwapped", "(II)I"⟩,
  .selects "ShelfSlotsModel" ⟨"ShelfSlotsModel", "ifSwapped", "(II)I"⟩ ⟨"ShelfSlotsModel", "ifSwapped", "(II)I"⟩,
  .code ⟨"ShelfSlotsModel", "ifSwapped", "(II)I"⟩ prog_12_method_56_code 5 (some .int),
  .methodLink "ShelfSlotsLaw" 93 ⟨"ShelfSlotsModel", "badly", "()I"⟩,
  .instanceMethod ⟨"ShelfSlotsModel", "badly", "()I"⟩,
  .selects "ShelfSlotsModel" ⟨"ShelfSlotsModel", "badly", "()I"⟩ ⟨"ShelfSlotsModel", "badly", "()I"⟩,
  .code ⟨"ShelfSlotsModel", "badly", "()I"⟩ prog_12_method_57_code 5 (some .int),
  .methodLink "ShelfSlotsLaw" 100 ⟨"ShelfSlotsModel", "put", "(J)I"⟩,
  .instanceMethod ⟨"ShelfSlotsModel", "put", "(J)I"⟩,
  .selects "ShelfSlotsModel" ⟨"ShelfSlotsModel", "put", "(J)I"⟩ ⟨"ShelfSlotsModel", "put", "(J)I"⟩,
  .code ⟨"ShelfSlotsModel", "put", "(J)I"⟩ prog_12_method_58_code 8 (some .int),
  .constantLong "ShelfSlotsModel" 193 255,
  .methodLink "ShelfSlotsLaw" 104 ⟨"ShelfSlotsModel", "wipe", "()I"⟩,
  .instanceMethod ⟨"ShelfSlotsModel", "wipe", "()I"⟩,
  .selects "ShelfSlotsModel" ⟨"ShelfSlotsModel", "wipe", "()I"⟩ ⟨"ShelfSlotsModel", "wipe", "()I"⟩,
  .code ⟨"ShelfSlotsModel", "wipe", "()I"⟩ prog_12_method_59_code 2 (some .int),
  .methodLink "ShelfSlotsLaw" 108 ⟨"ShelfSlotsModel", "fault", "()I"⟩,
  .instanceMethod ⟨"ShelfSlotsModel", "fault", "()I"⟩,
  .selects "ShelfSlotsModel" ⟨"ShelfSlotsModel", "fault", "()I"⟩ ⟨"ShelfSlotsModel", "fault", "()I"⟩,
  .code ⟨"ShelfSlotsModel", "fault", "()I"⟩ prog_12_method_67_code 2 (some .int),
  .methodLink "ShelfSlotsModel" 236 ⟨"ShelfSlotsModel", "goesThrough", "(Z)I"⟩]
set_option maxRecDepth 100000 in
theorem m_p4_eq : m_mask [false, true, true, true, true, true, false, true, true, true, true, true, true, true, true, true, true, true, true, false, true, true, true, false, true, true, true, true, true, true, true, false, true, true, true, true, true, true, false, true, true, true, false, true, true, true, true, true, true, true, true, true, true, false, true, true, true, false, true, true, true, false, true, true, true, true, true, true, true, false, true, true, true, true, true, true, true, false, true, true, true, false, true, true, true, true, true, true, false, true, true, true, false, true, true, true, false, true, true, true, false, true, true, true, false, true, true, true, true, true, true, true, false, true, true, true, false, true, true, true, true, false, true, true, true, false, true, true, true, false, true, true, true, false, true, true, true, true, true, true, true, false, true, true, true, true, true, true, true, true, true, true, true, true, true, true, true, true, true, true, true, true, true, true, true, true, true, true, true, true, false, true, true, true, false, true, true, true, true, true, true, true, true, true, true, true, true, true, true, true, true, true, true, true, true, true, true, true, true, true, true, false, true, true, true, false, true, true, true, true, true, true, true, true, false, true, true, true, true, true, true, true, true, true, true, true, true, true, true, true, true, true, true, true, true, true, true, true, true] (tables_1_4) = m_p4 := rfl
theorem m_p4_good : m_p4.all goodWord = true := by decide +kernel
def m_p5 : List Cond := [.instanceMethod ⟨"ShelfSlotsModel", "goesThrough", "(Z)I"⟩,
  .code ⟨"ShelfSlotsModel", "goesThrough", "(Z)I"⟩ prog_12_method_66_code 4 (some .int),
  .methodLink "ShelfSlotsModel" 230 ⟨"ShelfSlotsModel", "readOrder", "()V"⟩,
  .instanceMethod ⟨"ShelfSlotsModel", "readOrder", "()V"⟩,
  .code ⟨"ShelfSlotsModel", "readOrder", "()V"⟩ prog_12_method_64_code 1 (none),
  .methodLink "ShelfSlotsModel" 218 ⟨"ShelfSlotsModel", "readGood", "()V"⟩,
  .instanceMethod ⟨"ShelfSlotsModel", "readGood", "()V"⟩,
  .code ⟨"ShelfSlotsModel", "readGood", "()V"⟩ prog_12_method_63_code 2 (none),
  .methodLink "ShelfSlotsModel" 206 ⟨"ShelfSlotsModel", "number", "()I"⟩,
  .instanceMethod ⟨"ShelfSlotsModel", "number", "()I"⟩,
  .code ⟨"ShelfSlotsModel", "number", "()I"⟩ prog_12_method_62_code 2 (some .int),
  .methodLink "ShelfSlotsModel" 202 ⟨"ShelfSlotsModel", "isNext", "(II)Z"⟩,
  .instanceMethod ⟨"ShelfSlotsModel", "isNext", "(II)Z"⟩,
  .code ⟨"ShelfSlotsModel", "isNext", "(II)Z"⟩ prog_12_method_60_code 3 (some .boolean),
  .methodLink "ShelfSlotsModel" 224 ⟨"ShelfSlotsModel", "takes", "(I)V"⟩,
  .instanceMethod ⟨"ShelfSlotsModel", "takes", "(I)V"⟩,
  .code ⟨"ShelfSlotsModel", "takes", "(I)V"⟩ prog_12_method_61_code 3 (none),
  .methodLink "ShelfSlotsModel" 233 ⟨"ShelfSlotsModel", "does", "()I"⟩,
  .instanceMethod ⟨"ShelfSlotsModel", "does", "()I"⟩,
  .code ⟨"ShelfSlotsModel", "does", "()I"⟩ prog_12_method_65_code 1 (some .int),
  .methodLink "ShelfSlotsLaw" 112 ⟨"ShelfSlotsModel", "carryOut", "()I"⟩,
  .instanceMethod ⟨"ShelfSlotsModel", "carryOut", "()I"⟩,
  .selects "ShelfSlotsModel" ⟨"ShelfSlotsModel", "carryOut", "()I"⟩ ⟨"ShelfSlotsModel", "carryOut", "()I"⟩,
  .code ⟨"ShelfSlotsModel", "carryOut", "()I"⟩ prog_12_method_68_code 2 (some .int),
  .methodLink "ShelfSlotsModel" 240 ⟨"ShelfSlotsModel", "fault", "()I"⟩,
  .methodLink "ShelfSlotsLaw" 116 ⟨"ShelfSlotsModel", "undo", "()I"⟩,
  .instanceMethod ⟨"ShelfSlotsModel", "undo", "()I"⟩,
  .selects "ShelfSlotsModel" ⟨"ShelfSlotsModel", "undo", "()I"⟩ ⟨"ShelfSlotsModel", "undo", "()I"⟩,
  .code ⟨"ShelfSlotsModel", "undo", "()I"⟩ prog_12_method_69_code 2 (some .int),
  .methodLink "ShelfSlotsLaw" 120 ⟨"ShelfSlotsModel", "save", "(I)I"⟩,
  .instanceMethod ⟨"ShelfSlotsModel", "save", "(I)I"⟩,
  .selects "ShelfSlotsModel" ⟨"ShelfSlotsModel", "save", "(I)I"⟩ ⟨"ShelfSlotsModel", "save", "(I)I"⟩,
  .code ⟨"ShelfSlotsModel", "save", "(I)I"⟩ prog_12_method_70_code 3 (some .int),
  .methodLink "ShelfSlotsLaw" 124 ⟨"ShelfSlotsModel", "restore", "(I)I"⟩,
  .instanceMethod ⟨"ShelfSlotsModel", "restore", "(I)I"⟩,
  .selects "ShelfSlotsModel" ⟨"ShelfSlotsModel", "restore", "(I)I"⟩ ⟨"ShelfSlotsModel", "restore", "(I)I"⟩,
  .code ⟨"ShelfSlotsModel", "restore", "(I)I"⟩ prog_12_method_71_code 3 (some .int),
  .constantLong "ShelfSlotsLaw" 94 4294967295]
set_option maxRecDepth 100000 in
theorem m_p5_eq : m_mask [true, true, true, false, true, true, true, false, true, true, true, false, true, true, true, false, true, true, true, false, true, true, true, false, true, true, true, true, true, true, true, true, true, true, true, true, true, true, true, true, true, true, true, true] (tables_1_5) = m_p5 := rfl
theorem m_p5_good : m_p5.all goodWord = true := by decide +kernel
theorem m_p0_in {w : Cond} (h : w ∈ k2_sels lw_privs) : w ∈ lw_tbl := List.mem_append_left _ h
theorem m_p0_wt {j : Nat} {w : Cond} (h : m_p0[j]? = some w) : w ∈ m_wt := by
  have h2 := List.mem_of_getElem? h
  refine List.mem_filter.mpr ⟨m_p0_in ?_, List.all_eq_true.mp m_p0_good w h2⟩
  rw [← m_p0_eq] at h2
  exact m_mask_mem h2
theorem m_p1_in {w : Cond} (h : w ∈ tables_1_1) : w ∈ lw_tbl := List.mem_append_right _ (List.mem_append_left _ h)
theorem m_p1_wt {j : Nat} {w : Cond} (h : m_p1[j]? = some w) : w ∈ m_wt := by
  have h2 := List.mem_of_getElem? h
  refine List.mem_filter.mpr ⟨m_p1_in ?_, List.all_eq_true.mp m_p1_good w h2⟩
  rw [← m_p1_eq] at h2
  exact m_mask_mem h2
theorem m_p2_in {w : Cond} (h : w ∈ tables_1_2) : w ∈ lw_tbl := List.mem_append_right _ (List.mem_append_right _ (List.mem_append_left _ h))
theorem m_p2_wt {j : Nat} {w : Cond} (h : m_p2[j]? = some w) : w ∈ m_wt := by
  have h2 := List.mem_of_getElem? h
  refine List.mem_filter.mpr ⟨m_p2_in ?_, List.all_eq_true.mp m_p2_good w h2⟩
  rw [← m_p2_eq] at h2
  exact m_mask_mem h2
theorem m_p3_in {w : Cond} (h : w ∈ tables_1_3) : w ∈ lw_tbl := List.mem_append_right _ (List.mem_append_right _ (List.mem_append_right _ (List.mem_append_left _ h)))
theorem m_p3_wt {j : Nat} {w : Cond} (h : m_p3[j]? = some w) : w ∈ m_wt := by
  have h2 := List.mem_of_getElem? h
  refine List.mem_filter.mpr ⟨m_p3_in ?_, List.all_eq_true.mp m_p3_good w h2⟩
  rw [← m_p3_eq] at h2
  exact m_mask_mem h2
theorem m_p4_in {w : Cond} (h : w ∈ tables_1_4) : w ∈ lw_tbl := List.mem_append_right _ (List.mem_append_right _ (List.mem_append_right _ (List.mem_append_right _ (List.mem_append_left _ h))))
theorem m_p4_wt {j : Nat} {w : Cond} (h : m_p4[j]? = some w) : w ∈ m_wt := by
  have h2 := List.mem_of_getElem? h
  refine List.mem_filter.mpr ⟨m_p4_in ?_, List.all_eq_true.mp m_p4_good w h2⟩
  rw [← m_p4_eq] at h2
  exact m_mask_mem h2
theorem m_p5_in {w : Cond} (h : w ∈ tables_1_5) : w ∈ lw_tbl := List.mem_append_right _ (List.mem_append_right _ (List.mem_append_right _ (List.mem_append_right _ (List.mem_append_right _ (h)))))
theorem m_p5_wt {j : Nat} {w : Cond} (h : m_p5[j]? = some w) : w ∈ m_wt := by
  have h2 := List.mem_of_getElem? h
  refine List.mem_filter.mpr ⟨m_p5_in ?_, List.all_eq_true.mp m_p5_good w h2⟩
  rw [← m_p5_eq] at h2
  exact m_mask_mem h2
theorem m_w0 : Cond.selects "ShelfSlots" ⟨"ShelfSlots", "recorded", "(I)I"⟩ ⟨"ShelfSlots", "recorded", "(I)I"⟩ ∈ m_wt := m_p0_wt (j := 0) rfl
theorem m_w1 : Cond.selects "ShelfSlots$Shed" ⟨"ShelfSlots$Shed", "stand", "(II)V"⟩ ⟨"ShelfSlots$Shed", "stand", "(II)V"⟩ ∈ m_wt := m_p0_wt (j := 1) rfl
theorem m_w2 : Cond.selects "ShelfSlots$Shed" ⟨"ShelfSlots$Shed", "countSwap", "(I)I"⟩ ⟨"ShelfSlots$Shed", "countSwap", "(I)I"⟩ ∈ m_wt := m_p0_wt (j := 2) rfl
theorem m_w3 : Cond.selects "ShelfSlots" ⟨"ShelfSlots", "pickBasket", "(I)I"⟩ ⟨"ShelfSlots", "pickBasket", "(I)I"⟩ ∈ m_wt := m_p0_wt (j := 3) rfl
theorem m_w4 : Cond.selects "ShelfSlots" ⟨"ShelfSlots", "errorOfBasket", "(I)I"⟩ ⟨"ShelfSlots", "errorOfBasket", "(I)I"⟩ ∈ m_wt := m_p0_wt (j := 4) rfl
theorem m_w5 : Cond.selects "ShelfSlots$Walker" ⟨"ShelfSlots$Walker", "listGoods", "(I)V"⟩ ⟨"ShelfSlots$Walker", "listGoods", "(I)V"⟩ ∈ m_wt := m_p0_wt (j := 5) rfl
theorem m_w6 : Cond.selects "ShelfSlots$Walker" ⟨"ShelfSlots$Walker", "moveUp", "(II)V"⟩ ⟨"ShelfSlots$Walker", "moveUp", "(II)V"⟩ ∈ m_wt := m_p0_wt (j := 6) rfl
theorem m_w7 : Cond.selects "ShelfSlots$Walker" ⟨"ShelfSlots$Walker", "lastPlace", "(LShelfSlots$Shed;I)I"⟩ ⟨"ShelfSlots$Walker", "lastPlace", "(LShelfSlots$Shed;I)I"⟩ ∈ m_wt := m_p0_wt (j := 7) rfl
theorem m_w8 : Cond.selects "ShelfSlots$Grammar" ⟨"ShelfSlots$Grammar", "takesLetter", "(C)Z"⟩ ⟨"ShelfSlots$Grammar", "takesLetter", "(C)Z"⟩ ∈ m_wt := m_p0_wt (j := 8) rfl
theorem m_w9 : Cond.selects "ShelfSlots$Grammar" ⟨"ShelfSlots$Grammar", "takesMark", "(C)Z"⟩ ⟨"ShelfSlots$Grammar", "takesMark", "(C)Z"⟩ ∈ m_wt := m_p0_wt (j := 9) rfl
theorem m_w10 : Cond.selects "ShelfSlots" ⟨"ShelfSlots", "carryOutOrder", "()I"⟩ ⟨"ShelfSlots", "carryOutOrder", "()I"⟩ ∈ m_wt := m_p0_wt (j := 10) rfl
theorem m_w11 : Cond.selects "ShelfSlotsModel" ⟨"ShelfSlotsModel", "putAside", "()V"⟩ ⟨"ShelfSlotsModel", "putAside", "()V"⟩ ∈ m_wt := m_p0_wt (j := 11) rfl
theorem m_w12 : Cond.selects "ShelfSlotsModel" ⟨"ShelfSlotsModel", "changed", "(I)I"⟩ ⟨"ShelfSlotsModel", "changed", "(I)I"⟩ ∈ m_wt := m_p0_wt (j := 12) rfl
theorem m_w13 : Cond.selects "ShelfSlotsModel" ⟨"ShelfSlotsModel", "record", "()V"⟩ ⟨"ShelfSlotsModel", "record", "()V"⟩ ∈ m_wt := m_p0_wt (j := 13) rfl
theorem m_w14 : Cond.selects "ShelfSlotsModel" ⟨"ShelfSlotsModel", "adds", "(I)I"⟩ ⟨"ShelfSlotsModel", "adds", "(I)I"⟩ ∈ m_wt := m_p0_wt (j := 14) rfl
theorem m_w15 : Cond.selects "ShelfSlotsModel" ⟨"ShelfSlotsModel", "goodIn", "(I)I"⟩ ⟨"ShelfSlotsModel", "goodIn", "(I)I"⟩ ∈ m_wt := m_p0_wt (j := 15) rfl
theorem m_w16 : Cond.selects "ShelfSlotsModel" ⟨"ShelfSlotsModel", "slotOf", "(I)I"⟩ ⟨"ShelfSlotsModel", "slotOf", "(I)I"⟩ ∈ m_wt := m_p0_wt (j := 16) rfl
theorem m_w17 : Cond.selects "ShelfSlotsModel" ⟨"ShelfSlotsModel", "swaps", "(II)I"⟩ ⟨"ShelfSlotsModel", "swaps", "(II)I"⟩ ∈ m_wt := m_p0_wt (j := 17) rfl
theorem m_w18 : Cond.selects "ShelfSlotsModel" ⟨"ShelfSlotsModel", "exchanges", "(II)I"⟩ ⟨"ShelfSlotsModel", "exchanges", "(II)I"⟩ ∈ m_wt := m_p0_wt (j := 18) rfl
theorem m_w19 : Cond.selects "ShelfSlotsModel" ⟨"ShelfSlotsModel", "counts", "(I)V"⟩ ⟨"ShelfSlotsModel", "counts", "(I)V"⟩ ∈ m_wt := m_p0_wt (j := 19) rfl
theorem m_w20 : Cond.selects "ShelfSlotsModel" ⟨"ShelfSlotsModel", "closes", "(I)I"⟩ ⟨"ShelfSlotsModel", "closes", "(I)I"⟩ ∈ m_wt := m_p0_wt (j := 20) rfl
theorem m_w21 : Cond.selects "ShelfSlotsModel" ⟨"ShelfSlotsModel", "picksOne", "(I)I"⟩ ⟨"ShelfSlotsModel", "picksOne", "(I)I"⟩ ∈ m_wt := m_p0_wt (j := 21) rfl
theorem m_w22 : Cond.selects "ShelfSlotsModel" ⟨"ShelfSlotsModel", "errorOf", "(I)I"⟩ ⟨"ShelfSlotsModel", "errorOf", "(I)I"⟩ ∈ m_wt := m_p0_wt (j := 22) rfl
theorem m_w23 : Cond.selects "ShelfSlotsModel" ⟨"ShelfSlotsModel", "walkOf", "(I)I"⟩ ⟨"ShelfSlotsModel", "walkOf", "(I)I"⟩ ∈ m_wt := m_p0_wt (j := 23) rfl
theorem m_w24 : Cond.selects "ShelfSlotsModel" ⟨"ShelfSlotsModel", "nearest", "(II)I"⟩ ⟨"ShelfSlotsModel", "nearest", "(II)I"⟩ ∈ m_wt := m_p0_wt (j := 24) rfl
theorem m_w25 : Cond.selects "ShelfSlotsModel" ⟨"ShelfSlotsModel", "far", "(I)I"⟩ ⟨"ShelfSlotsModel", "far", "(I)I"⟩ ∈ m_wt := m_p0_wt (j := 25) rfl
theorem m_w26 : Cond.selects "ShelfSlotsModel" ⟨"ShelfSlotsModel", "stepsOf", "(II)I"⟩ ⟨"ShelfSlotsModel", "stepsOf", "(II)I"⟩ ∈ m_wt := m_p0_wt (j := 26) rfl
theorem m_w27 : Cond.selects "ShelfSlotsModel" ⟨"ShelfSlotsModel", "oftenOf", "(I)I"⟩ ⟨"ShelfSlotsModel", "oftenOf", "(I)I"⟩ ∈ m_wt := m_p0_wt (j := 27) rfl
theorem m_w28 : Cond.selects "ShelfSlotsModel" ⟨"ShelfSlotsModel", "nights", "()I"⟩ ⟨"ShelfSlotsModel", "nights", "()I"⟩ ∈ m_wt := m_p0_wt (j := 28) rfl
theorem m_w29 : Cond.selects "ShelfSlotsModel" ⟨"ShelfSlotsModel", "forgets", "()V"⟩ ⟨"ShelfSlotsModel", "forgets", "()V"⟩ ∈ m_wt := m_p0_wt (j := 29) rfl
theorem m_w30 : Cond.selects "ShelfSlotsModel" ⟨"ShelfSlotsModel", "best", "()I"⟩ ⟨"ShelfSlotsModel", "best", "()I"⟩ ∈ m_wt := m_p0_wt (j := 30) rfl
theorem m_w31 : Cond.selects "ShelfSlotsModel" ⟨"ShelfSlotsModel", "walksNow", "()I"⟩ ⟨"ShelfSlotsModel", "walksNow", "()I"⟩ ∈ m_wt := m_p0_wt (j := 31) rfl
theorem m_w32 : Cond.selects "ShelfSlotsModel" ⟨"ShelfSlotsModel", "weight", "()F"⟩ ⟨"ShelfSlotsModel", "weight", "()F"⟩ ∈ m_wt := m_p0_wt (j := 32) rfl
theorem m_w33 : Cond.selects "ShelfSlotsModel" ⟨"ShelfSlotsModel", "isOpen", "(I)Z"⟩ ⟨"ShelfSlotsModel", "isOpen", "(I)Z"⟩ ∈ m_wt := m_p0_wt (j := 33) rfl
theorem m_w34 : Cond.selects "ShelfSlotsModel" ⟨"ShelfSlotsModel", "isGood", "(I)Z"⟩ ⟨"ShelfSlotsModel", "isGood", "(I)Z"⟩ ∈ m_wt := m_p0_wt (j := 34) rfl
theorem m_w35 : Cond.selects "ShelfSlotsModel" ⟨"ShelfSlotsModel", "sumOf", "(II)I"⟩ ⟨"ShelfSlotsModel", "sumOf", "(II)I"⟩ ∈ m_wt := m_p0_wt (j := 35) rfl
theorem m_w36 : Cond.selects "ShelfSlotsModel" ⟨"ShelfSlotsModel", "fastest", "()I"⟩ ⟨"ShelfSlotsModel", "fastest", "()I"⟩ ∈ m_wt := m_p0_wt (j := 36) rfl
theorem m_w37 : Cond.selects "ShelfSlotsModel" ⟨"ShelfSlotsModel", "shortestOf", "(I)I"⟩ ⟨"ShelfSlotsModel", "shortestOf", "(I)I"⟩ ∈ m_wt := m_p0_wt (j := 37) rfl
theorem m_w38 : Cond.selects "ShelfSlotsModel" ⟨"ShelfSlotsModel", "wayTo", "(III)I"⟩ ⟨"ShelfSlotsModel", "wayTo", "(III)I"⟩ ∈ m_wt := m_p0_wt (j := 38) rfl
theorem m_w39 : Cond.selects "ShelfSlotsModel" ⟨"ShelfSlotsModel", "putBack", "()V"⟩ ⟨"ShelfSlotsModel", "putBack", "()V"⟩ ∈ m_wt := m_p0_wt (j := 39) rfl
theorem m_w40 : Cond.selects "ShelfSlotsModel" ⟨"ShelfSlotsModel", "goesThrough", "(Z)I"⟩ ⟨"ShelfSlotsModel", "goesThrough", "(Z)I"⟩ ∈ m_wt := m_p0_wt (j := 40) rfl
theorem m_w41 : Cond.selects "ShelfSlotsModel" ⟨"ShelfSlotsModel", "readOrder", "()V"⟩ ⟨"ShelfSlotsModel", "readOrder", "()V"⟩ ∈ m_wt := m_p0_wt (j := 41) rfl
theorem m_w42 : Cond.selects "ShelfSlotsModel" ⟨"ShelfSlotsModel", "readGood", "()V"⟩ ⟨"ShelfSlotsModel", "readGood", "()V"⟩ ∈ m_wt := m_p0_wt (j := 42) rfl
theorem m_w43 : Cond.selects "ShelfSlotsModel" ⟨"ShelfSlotsModel", "number", "()I"⟩ ⟨"ShelfSlotsModel", "number", "()I"⟩ ∈ m_wt := m_p0_wt (j := 43) rfl
theorem m_w44 : Cond.selects "ShelfSlotsModel" ⟨"ShelfSlotsModel", "isNext", "(II)Z"⟩ ⟨"ShelfSlotsModel", "isNext", "(II)Z"⟩ ∈ m_wt := m_p0_wt (j := 44) rfl
theorem m_w45 : Cond.selects "ShelfSlotsModel" ⟨"ShelfSlotsModel", "takes", "(I)V"⟩ ⟨"ShelfSlotsModel", "takes", "(I)V"⟩ ∈ m_wt := m_p0_wt (j := 45) rfl
theorem m_w46 : Cond.selects "ShelfSlotsModel" ⟨"ShelfSlotsModel", "does", "()I"⟩ ⟨"ShelfSlotsModel", "does", "()I"⟩ ∈ m_wt := m_p0_wt (j := 46) rfl
theorem m_w48 : Cond.initialized "ShelfSlots" ∈ m_wt := m_p1_wt (j := 0) rfl
theorem m_w49 : Cond.initialized "ShelfSlots$Shed" ∈ m_wt := m_p1_wt (j := 1) rfl
theorem m_w50 : Cond.initialized "ShelfSlots$Day" ∈ m_wt := m_p1_wt (j := 2) rfl
theorem m_w51 : Cond.initialized "ShelfSlots$Walker" ∈ m_wt := m_p1_wt (j := 3) rfl
theorem m_w52 : Cond.initialized "ShelfSlots$Mover" ∈ m_wt := m_p1_wt (j := 4) rfl
theorem m_w53 : Cond.initialized "ShelfSlots$Pad" ∈ m_wt := m_p1_wt (j := 5) rfl
theorem m_w54 : Cond.initialized "ShelfSlots$Grammar" ∈ m_wt := m_p1_wt (j := 6) rfl
theorem m_w55 : Cond.initialized "ShelfSlots$History" ∈ m_wt := m_p1_wt (j := 7) rfl
theorem m_w56 : Cond.initialized "ShelfSlotsModel" ∈ m_wt := m_p1_wt (j := 8) rfl
theorem m_w57 : Cond.initialized "java/lang/System" ∈ m_wt := m_p1_wt (j := 9) rfl
theorem m_w58 : Cond.initialized "java/lang/Math" ∈ m_wt := m_p1_wt (j := 10) rfl
theorem m_w59 : Cond.initialized "java/lang/Integer" ∈ m_wt := m_p1_wt (j := 11) rfl
theorem m_w60 : Cond.initialized "ShelfSlots$Picked" ∈ m_wt := m_p1_wt (j := 12) rfl
theorem m_w61 : Cond.initialized "ShelfSlots$Bits" ∈ m_wt := m_p1_wt (j := 13) rfl
theorem m_w62 : Cond.classLink "ShelfSlotsLaw" 7 "ShelfSlots" ∈ m_wt := m_p1_wt (j := 14) rfl
theorem m_w63 : Cond.instantiable "ShelfSlots" 8 ∈ m_wt := m_p1_wt (j := 15) rfl
theorem m_w64 : Cond.methodLink "ShelfSlotsLaw" 9 ⟨"ShelfSlots", "<init>", "()V"⟩ ∈ m_wt := m_p1_wt (j := 16) rfl
theorem m_w65 : Cond.instanceMethod ⟨"ShelfSlots", "<init>", "()V"⟩ ∈ m_wt := m_p1_wt (j := 17) rfl
theorem m_w66 : Cond.code ⟨"ShelfSlots", "<init>", "()V"⟩ prog_1_method_1_code 2 (none) ∈ m_wt := m_p1_wt (j := 18) rfl
theorem m_w67 : Cond.methodLink "ShelfSlots" 1 ⟨"java/lang/Object", "<init>", "()V"⟩ ∈ m_wt := m_p1_wt (j := 19) rfl
theorem m_w68 : Cond.instanceMethod ⟨"java/lang/Object", "<init>", "()V"⟩ ∈ m_wt := m_p1_wt (j := 20) rfl
theorem m_w69 : Cond.code ⟨"java/lang/Object", "<init>", "()V"⟩ object_method_1_code 1 (none) ∈ m_wt := m_p1_wt (j := 21) rfl
theorem m_w70 : Cond.classLink "ShelfSlots" 7 "ShelfSlots$Shed" ∈ m_wt := m_p1_wt (j := 22) rfl
theorem m_w71 : Cond.instantiable "ShelfSlots$Shed" 16 ∈ m_wt := m_p1_wt (j := 23) rfl
theorem m_w72 : Cond.methodLink "ShelfSlots" 9 ⟨"ShelfSlots$Shed", "<init>", "()V"⟩ ∈ m_wt := m_p1_wt (j := 24) rfl
theorem m_w73 : Cond.instanceMethod ⟨"ShelfSlots$Shed", "<init>", "()V"⟩ ∈ m_wt := m_p1_wt (j := 25) rfl
theorem m_w74 : Cond.code ⟨"ShelfSlots$Shed", "<init>", "()V"⟩ prog_9_method_1_code 2 (none) ∈ m_wt := m_p1_wt (j := 26) rfl
theorem m_w75 : Cond.methodLink "ShelfSlots$Shed" 3 ⟨"java/lang/Object", "<init>", "()V"⟩ ∈ m_wt := m_p1_wt (j := 27) rfl
theorem m_w76 : Cond.classLink "ShelfSlots$Shed" 34 "ShelfSlots$Day" ∈ m_wt := m_p1_wt (j := 28) rfl
theorem m_w77 : Cond.instantiable "ShelfSlots$Day" 3 ∈ m_wt := m_p1_wt (j := 29) rfl
theorem m_w79 : Cond.instanceMethod ⟨"ShelfSlots$Day", "<init>", "()V"⟩ ∈ m_wt := m_p1_wt (j := 30) rfl
theorem m_w80 : Cond.code ⟨"ShelfSlots$Day", "<init>", "()V"⟩ prog_3_method_1_code 1 (none) ∈ m_wt := m_p1_wt (j := 31) rfl
theorem m_w81 : Cond.methodLink "ShelfSlots$Day" 3 ⟨"java/lang/Object", "<init>", "()V"⟩ ∈ m_wt := m_p1_wt (j := 32) rfl
theorem m_w82 : Cond.fieldLink "ShelfSlots$Day" 9 "ShelfSlots$Day" "baskets" "[I" ∈ m_wt := m_p1_wt (j := 33) rfl
theorem m_w83 : Cond.fieldLink "ShelfSlots$Walker" 48 "ShelfSlots$Day" "baskets" "[I" ∈ m_wt := m_p1_wt (j := 34) rfl
theorem m_w84 : Cond.fieldLink "ShelfSlots" 140 "ShelfSlots$Day" "baskets" "[I" ∈ m_wt := m_p1_wt (j := 35) rfl
theorem m_w85 : Cond.fieldLink "ShelfSlots$Day" 15 "ShelfSlots$Day" "lengths" "[I" ∈ m_wt := m_p1_wt (j := 36) rfl
theorem m_w86 : Cond.fieldLink "ShelfSlots" 143 "ShelfSlots$Day" "lengths" "[I" ∈ m_wt := m_p1_wt (j := 37) rfl
theorem m_w87 : Cond.fieldLink "ShelfSlots$Day" 24 "ShelfSlots$Day" "many" "I" ∈ m_wt := m_p1_wt (j := 38) rfl
theorem m_w88 : Cond.fieldLink "ShelfSlots$Walker" 45 "ShelfSlots$Day" "many" "I" ∈ m_wt := m_p1_wt (j := 39) rfl
theorem m_w89 : Cond.fieldLink "ShelfSlots" 135 "ShelfSlots$Day" "many" "I" ∈ m_wt := m_p1_wt (j := 40) rfl
theorem m_w90 : Cond.fieldLink "ShelfSlots$Shed" 130 "ShelfSlots$Day" "many" "I" ∈ m_wt := m_p1_wt (j := 41) rfl
theorem m_w91 : Cond.laysFinal "ShelfSlots$Day" "ShelfSlots$Day" "baskets" "[I" ∈ m_wt := m_p1_wt (j := 42) rfl
theorem m_w93 : Cond.laysFinal "ShelfSlots$Day" "ShelfSlots$Day" "lengths" "[I" ∈ m_wt := m_p1_wt (j := 43) rfl
theorem m_w95 : Cond.lays "ShelfSlots$Day" "ShelfSlots$Day" "many" "I" ∈ m_wt := m_p1_wt (j := 44) rfl
theorem m_w98 : Cond.arrayClass .int ∈ m_wt := m_p1_wt (j := 45) rfl
theorem m_w99 : Cond.arrayClass .float ∈ m_wt := m_p1_wt (j := 46) rfl
theorem m_w100 : Cond.fieldLink "ShelfSlots$Shed" 9 "ShelfSlots$Shed" "settings" "[I" ∈ m_wt := m_p1_wt (j := 47) rfl
theorem m_w101 : Cond.fieldLink "ShelfSlots$Mover" 24 "ShelfSlots$Shed" "settings" "[I" ∈ m_wt := m_p1_wt (j := 48) rfl
theorem m_w102 : Cond.fieldLink "ShelfSlots$Walker" 58 "ShelfSlots$Shed" "settings" "[I" ∈ m_wt := m_p1_wt (j := 49) rfl
theorem m_w103 : Cond.fieldLink "ShelfSlots" 182 "ShelfSlots$Shed" "settings" "[I" ∈ m_wt := m_p1_wt (j := 50) rfl
theorem m_w104 : Cond.fieldLink "ShelfSlots$Shed" 15 "ShelfSlots$Shed" "slotOf" "[I" ∈ m_wt := m_p1_wt (j := 51) rfl
theorem m_w105 : Cond.fieldLink "ShelfSlots$Walker" 24 "ShelfSlots$Shed" "slotOf" "[I" ∈ m_wt := m_p1_wt (j := 52) rfl
theorem m_w106 : Cond.fieldLink "ShelfSlots" 89 "ShelfSlots$Shed" "slotOf" "[I" ∈ m_wt := m_p1_wt (j := 53) rfl
theorem m_w107 : Cond.fieldLink "ShelfSlots$Shed" 18 "ShelfSlots$Shed" "goodIn" "[I" ∈ m_wt := m_p1_wt (j := 54) rfl
theorem m_w108 : Cond.fieldLink "ShelfSlots" 119 "ShelfSlots$Shed" "goodIn" "[I" ∈ m_wt := m_p1_wt (j := 55) rfl
theorem m_w109 : Cond.fieldLink "ShelfSlots$Shed" 21 "ShelfSlots$Shed" "speed" "[F" ∈ m_wt := m_p1_wt (j := 56) rfl
theorem m_w110 : Cond.fieldLink "ShelfSlots" 93 "ShelfSlots$Shed" "speed" "[F" ∈ m_wt := m_p1_wt (j := 57) rfl
theorem m_w111 : Cond.fieldLink "ShelfSlots$Shed" 25 "ShelfSlots$Shed" "pickedToday" "[I" ∈ m_wt := m_p1_wt (j := 58) rfl
theorem m_w112 : Cond.fieldLink "ShelfSlots" 103 "ShelfSlots$Shed" "pickedToday" "[I" ∈ m_wt := m_p1_wt (j := 59) rfl
theorem m_w113 : Cond.fieldLink "ShelfSlots$Shed" 28 "ShelfSlots$Shed" "pickedSoFar" "[I" ∈ m_wt := m_p1_wt (j := 60) rfl
theorem m_w114 : Cond.fieldLink "ShelfSlots" 106 "ShelfSlots$Shed" "pickedSoFar" "[I" ∈ m_wt := m_p1_wt (j := 61) rfl
theorem m_w115 : Cond.fieldLink "ShelfSlots$Shed" 31 "ShelfSlots$Shed" "swapped" "[I" ∈ m_wt := m_p1_wt (j := 62) rfl
theorem m_w116 : Cond.fieldLink "ShelfSlots" 112 "ShelfSlots$Shed" "swapped" "[I" ∈ m_wt := m_p1_wt (j := 63) rfl
theorem m_w117 : Cond.fieldLink "ShelfSlots$Shed" 37 "ShelfSlots$Shed" "today" "LShelfSlots$Day;" ∈ m_wt := m_p1_wt (j := 64) rfl
theorem m_w118 : Cond.fieldLink "ShelfSlots$Walker" 41 "ShelfSlots$Shed" "today" "LShelfSlots$Day;" ∈ m_wt := m_p1_wt (j := 65) rfl
theorem m_w119 : Cond.fieldLink "ShelfSlots" 128 "ShelfSlots$Shed" "today" "LShelfSlots$Day;" ∈ m_wt := m_p1_wt (j := 66) rfl
theorem m_w120 : Cond.fieldLink "ShelfSlots$Shed" 41 "ShelfSlots$Shed" "yesterday" "LShelfSlots$Day;" ∈ m_wt := m_p1_wt (j := 67) rfl
theorem m_w121 : Cond.fieldLink "ShelfSlots" 132 "ShelfSlots$Shed" "yesterday" "LShelfSlots$Day;" ∈ m_wt := m_p1_wt (j := 68) rfl
theorem m_w122 : Cond.fieldLink "ShelfSlots$Shed" 54 "ShelfSlots$Shed" "lastPicked" "LShelfSlots$Picked;" ∈ m_wt := m_p1_wt (j := 69) rfl
theorem m_w123 : Cond.fieldLink "ShelfSlots$Shed" 58 "ShelfSlots$Shed" "picks" "I" ∈ m_wt := m_p1_wt (j := 70) rfl
theorem m_w124 : Cond.fieldLink "ShelfSlots$Shed" 62 "ShelfSlots$Shed" "goods" "I" ∈ m_wt := m_p1_wt (j := 71) rfl
theorem m_w125 : Cond.fieldLink "ShelfSlots" 85 "ShelfSlots$Shed" "goods" "I" ∈ m_wt := m_p1_wt (j := 72) rfl
theorem m_w126 : Cond.fieldLink "ShelfSlots$Shed" 65 "ShelfSlots$Shed" "closed" "I" ∈ m_wt := m_p1_wt (j := 73) rfl
theorem m_w127 : Cond.fieldLink "ShelfSlots" 173 "ShelfSlots$Shed" "closed" "I" ∈ m_wt := m_p1_wt (j := 74) rfl
theorem m_w128 : Cond.fieldLink "ShelfSlots$Mover" 15 "ShelfSlots$Shed" "nights" "I" ∈ m_wt := m_p1_wt (j := 75) rfl
theorem m_w129 : Cond.fieldLink "ShelfSlots$Shed" 68 "ShelfSlots$Shed" "nights" "I" ∈ m_wt := m_p1_wt (j := 76) rfl
theorem m_w130 : Cond.fieldLink "ShelfSlots" 156 "ShelfSlots$Shed" "nights" "I" ∈ m_wt := m_p1_wt (j := 77) rfl
theorem m_w131 : Cond.fieldLink "ShelfSlots$Shed" 71 "ShelfSlots$Shed" "walksSoFar" "I" ∈ m_wt := m_p1_wt (j := 78) rfl
theorem m_w132 : Cond.fieldLink "ShelfSlots" 163 "ShelfSlots$Shed" "walksSoFar" "I" ∈ m_wt := m_p1_wt (j := 79) rfl
theorem m_w133 : Cond.fieldLink "ShelfSlots$Mover" 42 "ShelfSlots$Shed" "nightSwaps" "I" ∈ m_wt := m_p1_wt (j := 80) rfl
theorem m_w134 : Cond.fieldLink "ShelfSlots$Shed" 74 "ShelfSlots$Shed" "nightSwaps" "I" ∈ m_wt := m_p1_wt (j := 81) rfl
theorem m_w135 : Cond.fieldLink "ShelfSlots" 166 "ShelfSlots$Shed" "nightSwaps" "I" ∈ m_wt := m_p1_wt (j := 82) rfl
theorem m_w136 : Cond.laysFinal "ShelfSlots$Shed" "ShelfSlots$Shed" "settings" "[I" ∈ m_wt := m_p1_wt (j := 83) rfl
theorem m_w138 : Cond.laysFinal "ShelfSlots$Shed" "ShelfSlots$Shed" "slotOf" "[I" ∈ m_wt := m_p1_wt (j := 84) rfl
theorem m_w140 : Cond.laysFinal "ShelfSlots$Shed" "ShelfSlots$Shed" "goodIn" "[I" ∈ m_wt := m_p1_wt (j := 85) rfl
theorem m_w142 : Cond.laysFinal "ShelfSlots$Shed" "ShelfSlots$Shed" "speed" "[F" ∈ m_wt := m_p1_wt (j := 86) rfl
theorem m_w144 : Cond.laysFinal "ShelfSlots$Shed" "ShelfSlots$Shed" "pickedToday" "[I" ∈ m_wt := m_p1_wt (j := 87) rfl
theorem m_w146 : Cond.laysFinal "ShelfSlots$Shed" "ShelfSlots$Shed" "pickedSoFar" "[I" ∈ m_wt := m_p1_wt (j := 88) rfl
theorem m_w148 : Cond.laysFinal "ShelfSlots$Shed" "ShelfSlots$Shed" "swapped" "[I" ∈ m_wt := m_p1_wt (j := 89) rfl
theorem m_w150 : Cond.laysFinal "ShelfSlots$Shed" "ShelfSlots$Shed" "today" "LShelfSlots$Day;" ∈ m_wt := m_p1_wt (j := 90) rfl
theorem m_w152 : Cond.laysFinal "ShelfSlots$Shed" "ShelfSlots$Shed" "yesterday" "LShelfSlots$Day;" ∈ m_wt := m_p1_wt (j := 91) rfl
theorem m_w154 : Cond.lays "ShelfSlots$Shed" "ShelfSlots$Shed" "lastPicked" "LShelfSlots$Picked;" ∈ m_wt := m_p1_wt (j := 92) rfl
theorem m_w156 : Cond.lays "ShelfSlots$Shed" "ShelfSlots$Shed" "picks" "I" ∈ m_wt := m_p1_wt (j := 93) rfl
theorem m_w158 : Cond.lays "ShelfSlots$Shed" "ShelfSlots$Shed" "goods" "I" ∈ m_wt := m_p1_wt (j := 94) rfl
theorem m_w160 : Cond.lays "ShelfSlots$Shed" "ShelfSlots$Shed" "closed" "I" ∈ m_wt := m_p1_wt (j := 95) rfl
theorem m_w162 : Cond.lays "ShelfSlots$Shed" "ShelfSlots$Shed" "nights" "I" ∈ m_wt := m_p1_wt (j := 96) rfl
theorem m_w164 : Cond.lays "ShelfSlots$Shed" "ShelfSlots$Shed" "walksSoFar" "I" ∈ m_wt := m_p1_wt (j := 97) rfl
theorem m_w166 : Cond.lays "ShelfSlots$Shed" "ShelfSlots$Shed" "nightSwaps" "I" ∈ m_wt := m_p1_wt (j := 98) rfl
theorem m_w169 : Cond.classLink "ShelfSlots" 19 "ShelfSlots$Walker" ∈ m_wt := m_p1_wt (j := 99) rfl
theorem m_w170 : Cond.instantiable "ShelfSlots$Walker" 2 ∈ m_wt := m_p1_wt (j := 100) rfl
theorem m_w172 : Cond.instanceMethod ⟨"ShelfSlots$Walker", "<init>", "()V"⟩ ∈ m_wt := m_p1_wt (j := 101) rfl
theorem m_w173 : Cond.code ⟨"ShelfSlots$Walker", "<init>", "()V"⟩ prog_10_method_1_code 1 (none) ∈ m_wt := m_p1_wt (j := 102) rfl
theorem m_w174 : Cond.methodLink "ShelfSlots$Walker" 3 ⟨"java/lang/Object", "<init>", "()V"⟩ ∈ m_wt := m_p1_wt (j := 103) rfl
theorem m_w175 : Cond.fieldLink "ShelfSlots$Walker" 9 "ShelfSlots$Walker" "stops" "[I" ∈ m_wt := m_p1_wt (j := 104) rfl
theorem m_w176 : Cond.fieldLink "ShelfSlots$Walker" 19 "ShelfSlots$Walker" "many" "I" ∈ m_wt := m_p1_wt (j := 105) rfl
theorem m_w177 : Cond.laysFinal "ShelfSlots$Walker" "ShelfSlots$Walker" "stops" "[I" ∈ m_wt := m_p1_wt (j := 106) rfl
theorem m_w179 : Cond.lays "ShelfSlots$Walker" "ShelfSlots$Walker" "many" "I" ∈ m_wt := m_p1_wt (j := 107) rfl
theorem m_w182 : Cond.classLink "ShelfSlots" 26 "ShelfSlots$Mover" ∈ m_wt := m_p1_wt (j := 108) rfl
theorem m_w183 : Cond.instantiable "ShelfSlots$Mover" 3 ∈ m_wt := m_p1_wt (j := 109) rfl
theorem m_w184 : Cond.methodLink "ShelfSlots" 28 ⟨"ShelfSlots$Mover", "<init>", "(LShelfSlots$Walker;)V"⟩ ∈ m_wt := m_p1_wt (j := 110) rfl
theorem m_w185 : Cond.instanceMethod ⟨"ShelfSlots$Mover", "<init>", "(LShelfSlots$Walker;)V"⟩ ∈ m_wt := m_p1_wt (j := 111) rfl
theorem m_w186 : Cond.code ⟨"ShelfSlots$Mover", "<init>", "(LShelfSlots$Walker;)V"⟩ prog_6_method_1_code 2 (none) ∈ m_wt := m_p1_wt (j := 112) rfl
theorem m_w187 : Cond.methodLink "ShelfSlots$Mover" 3 ⟨"java/lang/Object", "<init>", "()V"⟩ ∈ m_wt := m_p1_wt (j := 113) rfl
theorem m_w188 : Cond.fieldLink "ShelfSlots$Mover" 9 "ShelfSlots$Mover" "walker" "LShelfSlots$Walker;" ∈ m_wt := m_p1_wt (j := 114) rfl
theorem m_w189 : Cond.fieldLink "ShelfSlots$Mover" 32 "ShelfSlots$Mover" "lower" "I" ∈ m_wt := m_p1_wt (j := 115) rfl
theorem m_w190 : Cond.fieldLink "ShelfSlots" 215 "ShelfSlots$Mover" "lower" "I" ∈ m_wt := m_p1_wt (j := 116) rfl
theorem m_w191 : Cond.fieldLink "ShelfSlots$Mover" 35 "ShelfSlots$Mover" "higher" "I" ∈ m_wt := m_p1_wt (j := 117) rfl
theorem m_w192 : Cond.fieldLink "ShelfSlots" 218 "ShelfSlots$Mover" "higher" "I" ∈ m_wt := m_p1_wt (j := 118) rfl
theorem m_w193 : Cond.laysFinal "ShelfSlots$Mover" "ShelfSlots$Mover" "walker" "LShelfSlots$Walker;" ∈ m_wt := m_p1_wt (j := 119) rfl
theorem m_w195 : Cond.lays "ShelfSlots$Mover" "ShelfSlots$Mover" "lower" "I" ∈ m_wt := m_p1_wt (j := 120) rfl
theorem m_w197 : Cond.lays "ShelfSlots$Mover" "ShelfSlots$Mover" "higher" "I" ∈ m_wt := m_p1_wt (j := 121) rfl
theorem m_w200 : Cond.classLink "ShelfSlots" 35 "ShelfSlots$Pad" ∈ m_wt := m_p1_wt (j := 122) rfl
theorem m_w201 : Cond.instantiable "ShelfSlots$Pad" 4 ∈ m_wt := m_p1_wt (j := 123) rfl
theorem m_w203 : Cond.instanceMethod ⟨"ShelfSlots$Pad", "<init>", "()V"⟩ ∈ m_wt := m_p1_wt (j := 124) rfl
theorem m_w204 : Cond.code ⟨"ShelfSlots$Pad", "<init>", "()V"⟩ prog_7_method_1_code 1 (none) ∈ m_wt := m_p1_wt (j := 125) rfl
theorem m_w205 : Cond.methodLink "ShelfSlots$Pad" 3 ⟨"java/lang/Object", "<init>", "()V"⟩ ∈ m_wt := m_p1_wt (j := 126) rfl
theorem m_w206 : Cond.classLink "ShelfSlots$Pad" 15 "ShelfSlots$Grammar" ∈ m_wt := m_p1_wt (j := 127) rfl
theorem m_w207 : Cond.instantiable "ShelfSlots$Grammar" 3 ∈ m_wt := m_p1_wt (j := 128) rfl
theorem m_w209 : Cond.instanceMethod ⟨"ShelfSlots$Grammar", "<init>", "()V"⟩ ∈ m_wt := m_p1_wt (j := 129) rfl
theorem m_w210 : Cond.code ⟨"ShelfSlots$Grammar", "<init>", "()V"⟩ prog_4_method_1_code 1 (none) ∈ m_wt := m_p1_wt (j := 130) rfl
theorem m_w211 : Cond.methodLink "ShelfSlots$Grammar" 1 ⟨"java/lang/Object", "<init>", "()V"⟩ ∈ m_wt := m_p1_wt (j := 131) rfl
theorem m_w212 : Cond.fieldLink "ShelfSlots$Grammar" 9 "ShelfSlots$Grammar" "due" "I" ∈ m_wt := m_p1_wt (j := 132) rfl
theorem m_w213 : Cond.fieldLink "ShelfSlots$Grammar" 27 "ShelfSlots$Grammar" "numberMark" "C" ∈ m_wt := m_p1_wt (j := 133) rfl
theorem m_w214 : Cond.fieldLink "ShelfSlots$Grammar" 13 "ShelfSlots$Grammar" "mayEnd" "Z" ∈ m_wt := m_p1_wt (j := 134) rfl
theorem m_w215 : Cond.lays "ShelfSlots$Grammar" "ShelfSlots$Grammar" "due" "I" ∈ m_wt := m_p1_wt (j := 135) rfl
theorem m_w217 : Cond.lays "ShelfSlots$Grammar" "ShelfSlots$Grammar" "numberMark" "C" ∈ m_wt := m_p1_wt (j := 136) rfl
theorem m_w219 : Cond.lays "ShelfSlots$Grammar" "ShelfSlots$Grammar" "mayEnd" "Z" ∈ m_wt := m_p1_wt (j := 137) rfl
theorem m_w222 : Cond.arrayClass .char ∈ m_wt := m_p1_wt (j := 138) rfl
theorem m_w223 : Cond.fieldLink "ShelfSlots$Pad" 9 "ShelfSlots$Pad" "signs" "[C" ∈ m_wt := m_p1_wt (j := 139) rfl
theorem m_w224 : Cond.fieldLink "ShelfSlots$Pad" 18 "ShelfSlots$Pad" "grammar" "LShelfSlots$Grammar;" ∈ m_wt := m_p1_wt (j := 140) rfl
theorem m_w225 : Cond.fieldLink "ShelfSlots$Pad" 39 "ShelfSlots$Pad" "at" "I" ∈ m_wt := m_p1_wt (j := 141) rfl
theorem m_w226 : Cond.fieldLink "ShelfSlots$Pad" 24 "ShelfSlots$Pad" "length" "I" ∈ m_wt := m_p1_wt (j := 142) rfl
theorem m_w227 : Cond.fieldLink "ShelfSlots" 185 "ShelfSlots$Pad" "length" "I" ∈ m_wt := m_p1_wt (j := 143) rfl
theorem m_w228 : Cond.laysFinal "ShelfSlots$Pad" "ShelfSlots$Pad" "signs" "[C" ∈ m_wt := m_p1_wt (j := 144) rfl
theorem m_w230 : Cond.laysFinal "ShelfSlots$Pad" "ShelfSlots$Pad" "grammar" "LShelfSlots$Grammar;" ∈ m_wt := m_p1_wt (j := 145) rfl
theorem m_w232 : Cond.lays "ShelfSlots$Pad" "ShelfSlots$Pad" "at" "I" ∈ m_wt := m_p1_wt (j := 146) rfl
theorem m_w234 : Cond.lays "ShelfSlots$Pad" "ShelfSlots$Pad" "length" "I" ∈ m_wt := m_p1_wt (j := 147) rfl
theorem m_w237 : Cond.classLink "ShelfSlots" 42 "ShelfSlots$History" ∈ m_wt := m_p1_wt (j := 148) rfl
theorem m_w238 : Cond.instantiable "ShelfSlots$History" 3 ∈ m_wt := m_p1_wt (j := 149) rfl
theorem m_w239 : Cond.methodLink "ShelfSlots" 44 ⟨"ShelfSlots$History", "<init>", "()V"⟩ ∈ m_wt := m_p1_wt (j := 150) rfl
theorem m_w240 : Cond.instanceMethod ⟨"ShelfSlots$History", "<init>", "()V"⟩ ∈ m_wt := m_p1_wt (j := 151) rfl
theorem m_w241 : Cond.code ⟨"ShelfSlots$History", "<init>", "()V"⟩ prog_5_method_1_code 2 (none) ∈ m_wt := m_p1_wt (j := 152) rfl
theorem m_w242 : Cond.methodLink "ShelfSlots$History" 3 ⟨"java/lang/Object", "<init>", "()V"⟩ ∈ m_wt := m_p1_wt (j := 153) rfl
theorem m_w243 : Cond.classLink "ShelfSlots$History" 11 "ShelfSlots$Shed" ∈ m_wt := m_p1_wt (j := 154) rfl
theorem m_w245 : Cond.methodLink "ShelfSlots$History" 17 ⟨"ShelfSlots$Shed", "<init>", "()V"⟩ ∈ m_wt := m_p1_wt (j := 155) rfl
theorem m_w246 : Cond.fieldLink "ShelfSlots$History" 13 "ShelfSlots$History" "rows" "[LShelfSlots$Shed;" ∈ m_wt := m_p1_wt (j := 156) rfl
theorem m_w247 : Cond.fieldLink "ShelfSlots$History" 18 "ShelfSlots$History" "next" "I" ∈ m_wt := m_p1_wt (j := 157) rfl
theorem m_w248 : Cond.fieldLink "ShelfSlots$History" 26 "ShelfSlots$History" "kept" "I" ∈ m_wt := m_p1_wt (j := 158) rfl
theorem m_w249 : Cond.fieldLink "ShelfSlots" 188 "ShelfSlots$History" "kept" "I" ∈ m_wt := m_p1_wt (j := 159) rfl
theorem m_w250 : Cond.laysFinal "ShelfSlots$History" "ShelfSlots$History" "rows" "[LShelfSlots$Shed;" ∈ m_wt := m_p1_wt (j := 160) rfl
theorem m_w252 : Cond.lays "ShelfSlots$History" "ShelfSlots$History" "next" "I" ∈ m_wt := m_p1_wt (j := 161) rfl
theorem m_w254 : Cond.lays "ShelfSlots$History" "ShelfSlots$History" "kept" "I" ∈ m_wt := m_p1_wt (j := 162) rfl
theorem m_w257 : Cond.fieldLink "ShelfSlots" 10 "ShelfSlots" "now" "LShelfSlots$Shed;" ∈ m_wt := m_p1_wt (j := 163) rfl
theorem m_w258 : Cond.fieldLink "ShelfSlots" 16 "ShelfSlots" "trial" "LShelfSlots$Shed;" ∈ m_wt := m_p1_wt (j := 164) rfl
theorem m_w259 : Cond.fieldLink "ShelfSlots" 22 "ShelfSlots" "walker" "LShelfSlots$Walker;" ∈ m_wt := m_p1_wt (j := 165) rfl
theorem m_w260 : Cond.fieldLink "ShelfSlots" 31 "ShelfSlots" "mover" "LShelfSlots$Mover;" ∈ m_wt := m_p1_wt (j := 166) rfl
theorem m_w261 : Cond.fieldLink "ShelfSlots" 38 "ShelfSlots" "pad" "LShelfSlots$Pad;" ∈ m_wt := m_p1_wt (j := 167) rfl
theorem m_w262 : Cond.fieldLink "ShelfSlots" 45 "ShelfSlots" "history" "LShelfSlots$History;" ∈ m_wt := m_p1_wt (j := 168) rfl
theorem m_w263 : Cond.fieldLink "ShelfSlots" 49 "ShelfSlots" "saved" "[LShelfSlots$Shed;" ∈ m_wt := m_p1_wt (j := 169) rfl
theorem m_w264 : Cond.fieldLink "ShelfSlots" 53 "ShelfSlots" "wasSaved" "[Z" ∈ m_wt := m_p1_wt (j := 170) rfl
theorem m_w265 : Cond.laysFinal "ShelfSlots" "ShelfSlots" "now" "LShelfSlots$Shed;" ∈ m_wt := m_p1_wt (j := 171) rfl
theorem m_w267 : Cond.laysFinal "ShelfSlots" "ShelfSlots" "trial" "LShelfSlots$Shed;" ∈ m_wt := m_p1_wt (j := 172) rfl
theorem m_w269 : Cond.laysFinal "ShelfSlots" "ShelfSlots" "walker" "LShelfSlots$Walker;" ∈ m_wt := m_p1_wt (j := 173) rfl
theorem m_w271 : Cond.laysFinal "ShelfSlots" "ShelfSlots" "mover" "LShelfSlots$Mover;" ∈ m_wt := m_p1_wt (j := 174) rfl
theorem m_w273 : Cond.laysFinal "ShelfSlots" "ShelfSlots" "pad" "LShelfSlots$Pad;" ∈ m_wt := m_p1_wt (j := 175) rfl
theorem m_w275 : Cond.laysFinal "ShelfSlots" "ShelfSlots" "history" "LShelfSlots$History;" ∈ m_wt := m_p1_wt (j := 176) rfl
theorem m_w277 : Cond.laysFinal "ShelfSlots" "ShelfSlots" "saved" "[LShelfSlots$Shed;" ∈ m_wt := m_p1_wt (j := 177) rfl
theorem m_w279 : Cond.laysFinal "ShelfSlots" "ShelfSlots" "wasSaved" "[Z" ∈ m_wt := m_p1_wt (j := 178) rfl
theorem m_w282 : Cond.arrayClass .boolean ∈ m_wt := m_p1_wt (j := 179) rfl
theorem m_w283 : Cond.methodLink "ShelfSlotsLaw" 13 ⟨"ShelfSlots", "set", "(II)I"⟩ ∈ m_wt := m_p1_wt (j := 180) rfl
theorem m_w284 : Cond.instanceMethod ⟨"ShelfSlots", "set", "(II)I"⟩ ∈ m_wt := m_p1_wt (j := 181) rfl
theorem m_w285 : Cond.selects "ShelfSlots" ⟨"ShelfSlots", "set", "(II)I"⟩ ⟨"ShelfSlots", "set", "(II)I"⟩ ∈ m_wt := m_p1_wt (j := 182) rfl
theorem m_w286 : Cond.code ⟨"ShelfSlots", "set", "(II)I"⟩ prog_1_method_2_code 3 (some .int) ∈ m_wt := m_p1_wt (j := 183) rfl
theorem m_w287 : Cond.methodLink "ShelfSlots" 57 ⟨"ShelfSlots$History", "note", "(LShelfSlots$Shed;)V"⟩ ∈ m_wt := m_p2_wt (j := 0) rfl
theorem m_w288 : Cond.instanceMethod ⟨"ShelfSlots$History", "note", "(LShelfSlots$Shed;)V"⟩ ∈ m_wt := m_p2_wt (j := 1) rfl
theorem m_w289 : Cond.selects "ShelfSlots$History" ⟨"ShelfSlots$History", "note", "(LShelfSlots$Shed;)V"⟩ ⟨"ShelfSlots$History", "note", "(LShelfSlots$Shed;)V"⟩ ∈ m_wt := m_p2_wt (j := 2) rfl
theorem m_w290 : Cond.code ⟨"ShelfSlots$History", "note", "(LShelfSlots$Shed;)V"⟩ prog_5_method_2_code 2 (none) ∈ m_wt := m_p2_wt (j := 3) rfl
theorem m_w291 : Cond.methodLink "ShelfSlots$History" 22 ⟨"ShelfSlots$Shed", "copyFrom", "(LShelfSlots$Shed;)V"⟩ ∈ m_wt := m_p2_wt (j := 4) rfl
theorem m_w292 : Cond.instanceMethod ⟨"ShelfSlots$Shed", "copyFrom", "(LShelfSlots$Shed;)V"⟩ ∈ m_wt := m_p2_wt (j := 5) rfl
theorem m_w293 : Cond.selects "ShelfSlots$Shed" ⟨"ShelfSlots$Shed", "copyFrom", "(LShelfSlots$Shed;)V"⟩ ⟨"ShelfSlots$Shed", "copyFrom", "(LShelfSlots$Shed;)V"⟩ ∈ m_wt := m_p2_wt (j := 6) rfl
theorem m_w294 : Cond.code ⟨"ShelfSlots$Shed", "copyFrom", "(LShelfSlots$Shed;)V"⟩ prog_9_method_2_code 2 (none) ∈ m_wt := m_p2_wt (j := 7) rfl
theorem m_w295 : Cond.methodLink "ShelfSlots$Shed" 44 ⟨"java/lang/System", "arraycopy", "(Ljava/lang/Object;ILjava/lang/Object;II)V"⟩ ∈ m_wt := m_p2_wt (j := 8) rfl
theorem m_w296 : Cond.static ⟨"java/lang/System", "arraycopy", "(Ljava/lang/Object;ILjava/lang/Object;II)V"⟩ ∈ m_wt := m_p2_wt (j := 9) rfl
theorem m_w297 : Cond.native ⟨"java/lang/System", "arraycopy", "(Ljava/lang/Object;ILjava/lang/Object;II)V"⟩ ∈ m_wt := m_p2_wt (j := 10) rfl
theorem m_w298 : Cond.methodLink "ShelfSlots$Shed" 50 ⟨"ShelfSlots$Day", "copyFrom", "(LShelfSlots$Day;)V"⟩ ∈ m_wt := m_p2_wt (j := 11) rfl
theorem m_w299 : Cond.instanceMethod ⟨"ShelfSlots$Day", "copyFrom", "(LShelfSlots$Day;)V"⟩ ∈ m_wt := m_p2_wt (j := 12) rfl
theorem m_w300 : Cond.selects "ShelfSlots$Day" ⟨"ShelfSlots$Day", "copyFrom", "(LShelfSlots$Day;)V"⟩ ⟨"ShelfSlots$Day", "copyFrom", "(LShelfSlots$Day;)V"⟩ ∈ m_wt := m_p2_wt (j := 13) rfl
theorem m_w301 : Cond.code ⟨"ShelfSlots$Day", "copyFrom", "(LShelfSlots$Day;)V"⟩ prog_3_method_2_code 2 (none) ∈ m_wt := m_p2_wt (j := 14) rfl
theorem m_w302 : Cond.methodLink "ShelfSlots$Day" 18 ⟨"java/lang/System", "arraycopy", "(Ljava/lang/Object;ILjava/lang/Object;II)V"⟩ ∈ m_wt := m_p2_wt (j := 15) rfl
theorem m_w303 : Cond.methodLink "ShelfSlots" 61 ⟨"ShelfSlots$Shed", "changeSetting", "(II)I"⟩ ∈ m_wt := m_p2_wt (j := 16) rfl
theorem m_w304 : Cond.instanceMethod ⟨"ShelfSlots$Shed", "changeSetting", "(II)I"⟩ ∈ m_wt := m_p2_wt (j := 17) rfl
theorem m_w305 : Cond.selects "ShelfSlots$Shed" ⟨"ShelfSlots$Shed", "changeSetting", "(II)I"⟩ ⟨"ShelfSlots$Shed", "changeSetting", "(II)I"⟩ ∈ m_wt := m_p2_wt (j := 18) rfl
theorem m_w306 : Cond.code ⟨"ShelfSlots$Shed", "changeSetting", "(II)I"⟩ prog_9_method_5_code 6 (some .int) ∈ m_wt := m_p2_wt (j := 19) rfl
theorem m_w307 : Cond.methodLink "ShelfSlots" 65 ⟨"ShelfSlots", "recorded", "(I)I"⟩ ∈ m_wt := m_p2_wt (j := 20) rfl
theorem m_w309 : Cond.instanceMethod ⟨"ShelfSlots", "recorded", "(I)I"⟩ ∈ m_wt := m_p2_wt (j := 21) rfl
theorem m_w310 : Cond.code ⟨"ShelfSlots", "recorded", "(I)I"⟩ prog_1_method_28_code 2 (some .int) ∈ m_wt := m_p2_wt (j := 22) rfl
theorem m_w311 : Cond.methodLink "ShelfSlots" 254 ⟨"ShelfSlots$History", "keepNote", "()V"⟩ ∈ m_wt := m_p2_wt (j := 23) rfl
theorem m_w312 : Cond.instanceMethod ⟨"ShelfSlots$History", "keepNote", "()V"⟩ ∈ m_wt := m_p2_wt (j := 24) rfl
theorem m_w313 : Cond.selects "ShelfSlots$History" ⟨"ShelfSlots$History", "keepNote", "()V"⟩ ⟨"ShelfSlots$History", "keepNote", "()V"⟩ ∈ m_wt := m_p2_wt (j := 25) rfl
theorem m_w314 : Cond.code ⟨"ShelfSlots$History", "keepNote", "()V"⟩ prog_5_method_3_code 1 (none) ∈ m_wt := m_p2_wt (j := 26) rfl
theorem m_w315 : Cond.methodLink "ShelfSlots$History" 29 ⟨"java/lang/Math", "min", "(II)I"⟩ ∈ m_wt := m_p2_wt (j := 27) rfl
theorem m_w316 : Cond.static ⟨"java/lang/Math", "min", "(II)I"⟩ ∈ m_wt := m_p2_wt (j := 28) rfl
theorem m_w317 : Cond.code ⟨"java/lang/Math", "min", "(II)I"⟩ prog_14_method_69_code 2 (some .int) ∈ m_wt := m_p2_wt (j := 29) rfl
theorem m_w318 : Cond.methodLink "ShelfSlotsLaw" 18 ⟨"ShelfSlots", "good", "(I)I"⟩ ∈ m_wt := m_p2_wt (j := 30) rfl
theorem m_w319 : Cond.instanceMethod ⟨"ShelfSlots", "good", "(I)I"⟩ ∈ m_wt := m_p2_wt (j := 31) rfl
theorem m_w320 : Cond.selects "ShelfSlots" ⟨"ShelfSlots", "good", "(I)I"⟩ ⟨"ShelfSlots", "good", "(I)I"⟩ ∈ m_wt := m_p2_wt (j := 32) rfl
theorem m_w321 : Cond.code ⟨"ShelfSlots", "good", "(I)I"⟩ prog_1_method_3_code 2 (some .int) ∈ m_wt := m_p2_wt (j := 33) rfl
theorem m_w322 : Cond.methodLink "ShelfSlots" 69 ⟨"ShelfSlots$Shed", "bringGood", "(I)I"⟩ ∈ m_wt := m_p2_wt (j := 34) rfl
theorem m_w323 : Cond.instanceMethod ⟨"ShelfSlots$Shed", "bringGood", "(I)I"⟩ ∈ m_wt := m_p2_wt (j := 35) rfl
theorem m_w324 : Cond.selects "ShelfSlots$Shed" ⟨"ShelfSlots$Shed", "bringGood", "(I)I"⟩ ⟨"ShelfSlots$Shed", "bringGood", "(I)I"⟩ ∈ m_wt := m_p2_wt (j := 36) rfl
theorem m_w325 : Cond.code ⟨"ShelfSlots$Shed", "bringGood", "(I)I"⟩ prog_9_method_6_code 3 (some .int) ∈ m_wt := m_p2_wt (j := 37) rfl
theorem m_w326 : Cond.methodLink "ShelfSlots$Shed" 77 ⟨"ShelfSlots$Shed", "isSlot", "(I)Z"⟩ ∈ m_wt := m_p2_wt (j := 38) rfl
theorem m_w327 : Cond.static ⟨"ShelfSlots$Shed", "isSlot", "(I)Z"⟩ ∈ m_wt := m_p2_wt (j := 39) rfl
theorem m_w328 : Cond.code ⟨"ShelfSlots$Shed", "isSlot", "(I)Z"⟩ prog_9_method_3_code 1 (some .boolean) ∈ m_wt := m_p2_wt (j := 40) rfl
theorem m_w329 : Cond.methodLink "ShelfSlotsLaw" 23 ⟨"ShelfSlots", "swap", "(II)I"⟩ ∈ m_wt := m_p2_wt (j := 41) rfl
theorem m_w330 : Cond.instanceMethod ⟨"ShelfSlots", "swap", "(II)I"⟩ ∈ m_wt := m_p2_wt (j := 42) rfl
theorem m_w331 : Cond.selects "ShelfSlots" ⟨"ShelfSlots", "swap", "(II)I"⟩ ⟨"ShelfSlots", "swap", "(II)I"⟩ ∈ m_wt := m_p2_wt (j := 43) rfl
theorem m_w332 : Cond.code ⟨"ShelfSlots", "swap", "(II)I"⟩ prog_1_method_4_code 3 (some .int) ∈ m_wt := m_p2_wt (j := 44) rfl
theorem m_w333 : Cond.methodLink "ShelfSlots" 72 ⟨"ShelfSlots$Shed", "swapByHand", "(II)I"⟩ ∈ m_wt := m_p2_wt (j := 45) rfl
theorem m_w334 : Cond.instanceMethod ⟨"ShelfSlots$Shed", "swapByHand", "(II)I"⟩ ∈ m_wt := m_p2_wt (j := 46) rfl
theorem m_w335 : Cond.selects "ShelfSlots$Shed" ⟨"ShelfSlots$Shed", "swapByHand", "(II)I"⟩ ⟨"ShelfSlots$Shed", "swapByHand", "(II)I"⟩ ∈ m_wt := m_p2_wt (j := 47) rfl
theorem m_w336 : Cond.code ⟨"ShelfSlots$Shed", "swapByHand", "(II)I"⟩ prog_9_method_7_code 3 (some .int) ∈ m_wt := m_p2_wt (j := 48) rfl
theorem m_w337 : Cond.methodLink "ShelfSlots$Shed" 81 ⟨"ShelfSlots$Shed", "swapCounted", "(II)I"⟩ ∈ m_wt := m_p2_wt (j := 49) rfl
theorem m_w338 : Cond.instanceMethod ⟨"ShelfSlots$Shed", "swapCounted", "(II)I"⟩ ∈ m_wt := m_p2_wt (j := 50) rfl
theorem m_w339 : Cond.selects "ShelfSlots$Shed" ⟨"ShelfSlots$Shed", "swapCounted", "(II)I"⟩ ⟨"ShelfSlots$Shed", "swapCounted", "(II)I"⟩ ∈ m_wt := m_p2_wt (j := 51) rfl
theorem m_w340 : Cond.code ⟨"ShelfSlots$Shed", "swapCounted", "(II)I"⟩ prog_9_method_9_code 3 (some .int) ∈ m_wt := m_p2_wt (j := 52) rfl
theorem m_w341 : Cond.methodLink "ShelfSlots$Shed" 88 ⟨"ShelfSlots$Shed", "exchange", "(II)V"⟩ ∈ m_wt := m_p2_wt (j := 53) rfl
theorem m_w342 : Cond.instanceMethod ⟨"ShelfSlots$Shed", "exchange", "(II)V"⟩ ∈ m_wt := m_p2_wt (j := 54) rfl
theorem m_w343 : Cond.selects "ShelfSlots$Shed" ⟨"ShelfSlots$Shed", "exchange", "(II)V"⟩ ⟨"ShelfSlots$Shed", "exchange", "(II)V"⟩ ∈ m_wt := m_p2_wt (j := 55) rfl
theorem m_w344 : Cond.code ⟨"ShelfSlots$Shed", "exchange", "(II)V"⟩ prog_9_method_11_code 4 (none) ∈ m_wt := m_p2_wt (j := 56) rfl
theorem m_w345 : Cond.methodLink "ShelfSlots$Shed" 96 ⟨"ShelfSlots$Shed", "stand", "(II)V"⟩ ∈ m_wt := m_p2_wt (j := 57) rfl
theorem m_w347 : Cond.instanceMethod ⟨"ShelfSlots$Shed", "stand", "(II)V"⟩ ∈ m_wt := m_p2_wt (j := 58) rfl
theorem m_w348 : Cond.code ⟨"ShelfSlots$Shed", "stand", "(II)V"⟩ prog_9_method_12_code 3 (none) ∈ m_wt := m_p2_wt (j := 59) rfl
theorem m_w349 : Cond.methodLink "ShelfSlots$Shed" 92 ⟨"ShelfSlots$Shed", "countSwap", "(I)I"⟩ ∈ m_wt := m_p2_wt (j := 60) rfl
theorem m_w351 : Cond.instanceMethod ⟨"ShelfSlots$Shed", "countSwap", "(I)I"⟩ ∈ m_wt := m_p2_wt (j := 61) rfl
theorem m_w352 : Cond.code ⟨"ShelfSlots$Shed", "countSwap", "(I)I"⟩ prog_9_method_10_code 2 (some .int) ∈ m_wt := m_p2_wt (j := 62) rfl
theorem m_w353 : Cond.methodLink "ShelfSlotsLaw" 27 ⟨"ShelfSlots", "close", "(I)I"⟩ ∈ m_wt := m_p2_wt (j := 63) rfl
theorem m_w354 : Cond.instanceMethod ⟨"ShelfSlots", "close", "(I)I"⟩ ∈ m_wt := m_p2_wt (j := 64) rfl
theorem m_w355 : Cond.selects "ShelfSlots" ⟨"ShelfSlots", "close", "(I)I"⟩ ⟨"ShelfSlots", "close", "(I)I"⟩ ∈ m_wt := m_p2_wt (j := 65) rfl
theorem m_w356 : Cond.code ⟨"ShelfSlots", "close", "(I)I"⟩ prog_1_method_5_code 2 (some .int) ∈ m_wt := m_p2_wt (j := 66) rfl
theorem m_w357 : Cond.methodLink "ShelfSlots" 75 ⟨"ShelfSlots$Shed", "closeOrOpen", "(I)I"⟩ ∈ m_wt := m_p2_wt (j := 67) rfl
theorem m_w358 : Cond.instanceMethod ⟨"ShelfSlots$Shed", "closeOrOpen", "(I)I"⟩ ∈ m_wt := m_p2_wt (j := 68) rfl
theorem m_w359 : Cond.selects "ShelfSlots$Shed" ⟨"ShelfSlots$Shed", "closeOrOpen", "(I)I"⟩ ⟨"ShelfSlots$Shed", "closeOrOpen", "(I)I"⟩ ∈ m_wt := m_p2_wt (j := 69) rfl
theorem m_w360 : Cond.code ⟨"ShelfSlots$Shed", "closeOrOpen", "(I)I"⟩ prog_9_method_8_code 2 (some .int) ∈ m_wt := m_p2_wt (j := 70) rfl
theorem m_w361 : Cond.methodLink "ShelfSlots$Shed" 85 ⟨"ShelfSlots$Shed", "isClosed", "(I)Z"⟩ ∈ m_wt := m_p2_wt (j := 71) rfl
theorem m_w362 : Cond.instanceMethod ⟨"ShelfSlots$Shed", "isClosed", "(I)Z"⟩ ∈ m_wt := m_p2_wt (j := 72) rfl
theorem m_w363 : Cond.selects "ShelfSlots$Shed" ⟨"ShelfSlots$Shed", "isClosed", "(I)Z"⟩ ⟨"ShelfSlots$Shed", "isClosed", "(I)Z"⟩ ∈ m_wt := m_p2_wt (j := 73) rfl
theorem m_w364 : Cond.code ⟨"ShelfSlots$Shed", "isClosed", "(I)Z"⟩ prog_9_method_4_code 2 (some .boolean) ∈ m_wt := m_p2_wt (j := 74) rfl
theorem m_w365 : Cond.methodLink "ShelfSlotsLaw" 31 ⟨"ShelfSlots", "pick", "(I)I"⟩ ∈ m_wt := m_p2_wt (j := 75) rfl
theorem m_w366 : Cond.instanceMethod ⟨"ShelfSlots", "pick", "(I)I"⟩ ∈ m_wt := m_p2_wt (j := 76) rfl
theorem m_w367 : Cond.selects "ShelfSlots" ⟨"ShelfSlots", "pick", "(I)I"⟩ ⟨"ShelfSlots", "pick", "(I)I"⟩ ∈ m_wt := m_p2_wt (j := 77) rfl
theorem m_w368 : Cond.code ⟨"ShelfSlots", "pick", "(I)I"⟩ prog_1_method_6_code 2 (some .int) ∈ m_wt := m_p2_wt (j := 78) rfl
theorem m_w369 : Cond.methodLink "ShelfSlots" 78 ⟨"ShelfSlots", "pickBasket", "(I)I"⟩ ∈ m_wt := m_p2_wt (j := 79) rfl
theorem m_w371 : Cond.instanceMethod ⟨"ShelfSlots", "pickBasket", "(I)I"⟩ ∈ m_wt := m_p2_wt (j := 80) rfl
theorem m_w372 : Cond.code ⟨"ShelfSlots", "pickBasket", "(I)I"⟩ prog_1_method_30_code 4 (some .int) ∈ m_wt := m_p2_wt (j := 81) rfl
theorem m_w373 : Cond.methodLink "ShelfSlots" 150 ⟨"ShelfSlots", "errorOfBasket", "(I)I"⟩ ∈ m_wt := m_p2_wt (j := 82) rfl
theorem m_w375 : Cond.instanceMethod ⟨"ShelfSlots", "errorOfBasket", "(I)I"⟩ ∈ m_wt := m_p2_wt (j := 83) rfl
theorem m_w376 : Cond.code ⟨"ShelfSlots", "errorOfBasket", "(I)I"⟩ prog_1_method_29_code 3 (some .int) ∈ m_wt := m_p2_wt (j := 84) rfl
theorem m_w377 : Cond.methodLink "ShelfSlots" 257 ⟨"java/lang/Integer", "bitCount", "(I)I"⟩ ∈ m_wt := m_p2_wt (j := 85) rfl
theorem m_w378 : Cond.static ⟨"java/lang/Integer", "bitCount", "(I)I"⟩ ∈ m_wt := m_p2_wt (j := 86) rfl
theorem m_w379 : Cond.code ⟨"java/lang/Integer", "bitCount", "(I)I"⟩ prog_13_method_49_code 1 (some .int) ∈ m_wt := m_p2_wt (j := 87) rfl
theorem m_w380 : Cond.constant "java/lang/Integer" 265 1431655765 ∈ m_wt := m_p2_wt (j := 88) rfl
theorem m_w381 : Cond.constant "java/lang/Integer" 266 858993459 ∈ m_wt := m_p2_wt (j := 89) rfl
theorem m_w382 : Cond.constant "java/lang/Integer" 267 252645135 ∈ m_wt := m_p2_wt (j := 90) rfl
theorem m_w383 : Cond.methodLink "ShelfSlots" 146 ⟨"ShelfSlots$Walker", "lengthOf", "(LShelfSlots$Shed;I)I"⟩ ∈ m_wt := m_p2_wt (j := 91) rfl
theorem m_w384 : Cond.instanceMethod ⟨"ShelfSlots$Walker", "lengthOf", "(LShelfSlots$Shed;I)I"⟩ ∈ m_wt := m_p2_wt (j := 92) rfl
theorem m_w385 : Cond.selects "ShelfSlots$Walker" ⟨"ShelfSlots$Walker", "lengthOf", "(LShelfSlots$Shed;I)I"⟩ ⟨"ShelfSlots$Walker", "lengthOf", "(LShelfSlots$Shed;I)I"⟩ ∈ m_wt := m_p2_wt (j := 93) rfl
theorem m_w386 : Cond.code ⟨"ShelfSlots$Walker", "lengthOf", "(LShelfSlots$Shed;I)I"⟩ prog_10_method_2_code 10 (some .int) ∈ m_wt := m_p2_wt (j := 94) rfl
theorem m_w387 : Cond.methodLink "ShelfSlots$Walker" 15 ⟨"ShelfSlots$Walker", "listGoods", "(I)V"⟩ ∈ m_wt := m_p2_wt (j := 95) rfl
theorem m_w389 : Cond.instanceMethod ⟨"ShelfSlots$Walker", "listGoods", "(I)V"⟩ ∈ m_wt := m_p2_wt (j := 96) rfl
theorem m_w390 : Cond.code ⟨"ShelfSlots$Walker", "listGoods", "(I)V"⟩ prog_10_method_5_code 3 (none) ∈ m_wt := m_p2_wt (j := 97) rfl
theorem m_w391 : Cond.constant "ShelfSlots$Walker" 23 1000000 ∈ m_wt := m_p2_wt (j := 98) rfl
theorem m_w392 : Cond.methodLink "ShelfSlots$Walker" 29 ⟨"ShelfSlots$Shed", "stepsBetween", "(II)I"⟩ ∈ m_wt := m_p2_wt (j := 99) rfl
theorem m_w393 : Cond.instanceMethod ⟨"ShelfSlots$Shed", "stepsBetween", "(II)I"⟩ ∈ m_wt := m_p2_wt (j := 100) rfl
theorem m_w394 : Cond.selects "ShelfSlots$Shed" ⟨"ShelfSlots$Shed", "stepsBetween", "(II)I"⟩ ⟨"ShelfSlots$Shed", "stepsBetween", "(II)I"⟩ ∈ m_wt := m_p2_wt (j := 101) rfl
theorem m_w395 : Cond.code ⟨"ShelfSlots$Shed", "stepsBetween", "(II)I"⟩ prog_9_method_14_code 4 (some .int) ∈ m_wt := m_p2_wt (j := 102) rfl
theorem m_w396 : Cond.methodLink "ShelfSlots$Walker" 33 ⟨"ShelfSlots$Walker", "moveUp", "(II)V"⟩ ∈ m_wt := m_p2_wt (j := 103) rfl
theorem m_w398 : Cond.instanceMethod ⟨"ShelfSlots$Walker", "moveUp", "(II)V"⟩ ∈ m_wt := m_p2_wt (j := 104) rfl
theorem m_w399 : Cond.code ⟨"ShelfSlots$Walker", "moveUp", "(II)V"⟩ prog_10_method_6_code 5 (none) ∈ m_wt := m_p2_wt (j := 105) rfl
theorem m_w400 : Cond.methodLink "ShelfSlots$Walker" 37 ⟨"ShelfSlots$Shed", "deskSteps", "(I)I"⟩ ∈ m_wt := m_p2_wt (j := 106) rfl
theorem m_w401 : Cond.instanceMethod ⟨"ShelfSlots$Shed", "deskSteps", "(I)I"⟩ ∈ m_wt := m_p2_wt (j := 107) rfl
theorem m_w402 : Cond.selects "ShelfSlots$Shed" ⟨"ShelfSlots$Shed", "deskSteps", "(I)I"⟩ ⟨"ShelfSlots$Shed", "deskSteps", "(I)I"⟩ ∈ m_wt := m_p2_wt (j := 108) rfl
theorem m_w403 : Cond.code ⟨"ShelfSlots$Shed", "deskSteps", "(I)I"⟩ prog_9_method_15_code 2 (some .int) ∈ m_wt := m_p2_wt (j := 109) rfl
theorem m_w404 : Cond.methodLink "ShelfSlots" 262 ⟨"ShelfSlots$Shed", "notePicked", "(II)V"⟩ ∈ m_wt := m_p2_wt (j := 110) rfl
theorem m_w405 : Cond.instanceMethod ⟨"ShelfSlots$Shed", "notePicked", "(II)V"⟩ ∈ m_wt := m_p2_wt (j := 111) rfl
theorem m_w406 : Cond.selects "ShelfSlots$Shed" ⟨"ShelfSlots$Shed", "notePicked", "(II)V"⟩ ⟨"ShelfSlots$Shed", "notePicked", "(II)V"⟩ ∈ m_wt := m_p2_wt (j := 112) rfl
theorem m_w407 : Cond.code ⟨"ShelfSlots$Shed", "notePicked", "(II)V"⟩ prog_9_method_20_code 5 (none) ∈ m_wt := m_p2_wt (j := 113) rfl
theorem m_w408 : Cond.classLink "ShelfSlots$Shed" 102 "ShelfSlots$Picked" ∈ m_wt := m_p2_wt (j := 114) rfl
theorem m_w409 : Cond.instantiable "ShelfSlots$Picked" 4 ∈ m_wt := m_p2_wt (j := 115) rfl
theorem m_w410 : Cond.methodLink "ShelfSlots$Shed" 104 ⟨"ShelfSlots$Shed", "timesPicked", "(I)I"⟩ ∈ m_wt := m_p2_wt (j := 116) rfl
theorem m_w411 : Cond.instanceMethod ⟨"ShelfSlots$Shed", "timesPicked", "(I)I"⟩ ∈ m_wt := m_p2_wt (j := 117) rfl
theorem m_w412 : Cond.selects "ShelfSlots$Shed" ⟨"ShelfSlots$Shed", "timesPicked", "(I)I"⟩ ⟨"ShelfSlots$Shed", "timesPicked", "(I)I"⟩ ∈ m_wt := m_p2_wt (j := 118) rfl
theorem m_w413 : Cond.code ⟨"ShelfSlots$Shed", "timesPicked", "(I)I"⟩ prog_9_method_21_code 3 (some .int) ∈ m_wt := m_p2_wt (j := 119) rfl
theorem m_w414 : Cond.methodLink "ShelfSlots$Shed" 107 ⟨"ShelfSlots$Shed", "unlikeBaskets", "()I"⟩ ∈ m_wt := m_p2_wt (j := 120) rfl
theorem m_w415 : Cond.instanceMethod ⟨"ShelfSlots$Shed", "unlikeBaskets", "()I"⟩ ∈ m_wt := m_p2_wt (j := 121) rfl
theorem m_w416 : Cond.selects "ShelfSlots$Shed" ⟨"ShelfSlots$Shed", "unlikeBaskets", "()I"⟩ ⟨"ShelfSlots$Shed", "unlikeBaskets", "()I"⟩ ∈ m_wt := m_p2_wt (j := 122) rfl
theorem m_w417 : Cond.code ⟨"ShelfSlots$Shed", "unlikeBaskets", "()I"⟩ prog_9_method_22_code 1 (some .int) ∈ m_wt := m_p2_wt (j := 123) rfl
theorem m_w418 : Cond.methodLink "ShelfSlots$Shed" 111 ⟨"ShelfSlots$Picked", "<init>", "(IIILShelfSlots$Picked;)V"⟩ ∈ m_wt := m_p2_wt (j := 124) rfl
theorem m_w419 : Cond.instanceMethod ⟨"ShelfSlots$Picked", "<init>", "(IIILShelfSlots$Picked;)V"⟩ ∈ m_wt := m_p2_wt (j := 125) rfl
theorem m_w420 : Cond.code ⟨"ShelfSlots$Picked", "<init>", "(IIILShelfSlots$Picked;)V"⟩ prog_8_method_1_code 5 (none) ∈ m_wt := m_p2_wt (j := 126) rfl
theorem m_w421 : Cond.methodLink "ShelfSlots$Picked" 1 ⟨"java/lang/Object", "<init>", "()V"⟩ ∈ m_wt := m_p2_wt (j := 127) rfl
theorem m_w422 : Cond.fieldLink "ShelfSlots$Picked" 7 "ShelfSlots$Picked" "basket" "I" ∈ m_wt := m_p2_wt (j := 128) rfl
theorem m_w423 : Cond.fieldLink "ShelfSlots$Shed" 117 "ShelfSlots$Picked" "basket" "I" ∈ m_wt := m_p2_wt (j := 129) rfl
theorem m_w424 : Cond.fieldLink "ShelfSlots$Picked" 13 "ShelfSlots$Picked" "times" "I" ∈ m_wt := m_p2_wt (j := 130) rfl
theorem m_w425 : Cond.fieldLink "ShelfSlots$Shed" 120 "ShelfSlots$Picked" "times" "I" ∈ m_wt := m_p2_wt (j := 131) rfl
theorem m_w426 : Cond.fieldLink "ShelfSlots$Picked" 16 "ShelfSlots$Picked" "unlike" "I" ∈ m_wt := m_p2_wt (j := 132) rfl
theorem m_w427 : Cond.fieldLink "ShelfSlots$Shed" 126 "ShelfSlots$Picked" "unlike" "I" ∈ m_wt := m_p2_wt (j := 133) rfl
theorem m_w428 : Cond.fieldLink "ShelfSlots$Picked" 19 "ShelfSlots$Picked" "before" "LShelfSlots$Picked;" ∈ m_wt := m_p2_wt (j := 134) rfl
theorem m_w429 : Cond.fieldLink "ShelfSlots$Shed" 123 "ShelfSlots$Picked" "before" "LShelfSlots$Picked;" ∈ m_wt := m_p2_wt (j := 135) rfl
theorem m_w430 : Cond.laysFinal "ShelfSlots$Picked" "ShelfSlots$Picked" "basket" "I" ∈ m_wt := m_p2_wt (j := 136) rfl
theorem m_w432 : Cond.laysFinal "ShelfSlots$Picked" "ShelfSlots$Picked" "times" "I" ∈ m_wt := m_p2_wt (j := 137) rfl
theorem m_w434 : Cond.laysFinal "ShelfSlots$Picked" "ShelfSlots$Picked" "unlike" "I" ∈ m_wt := m_p2_wt (j := 138) rfl
theorem m_w436 : Cond.laysFinal "ShelfSlots$Picked" "ShelfSlots$Picked" "before" "LShelfSlots$Picked;" ∈ m_wt := m_p2_wt (j := 139) rfl
theorem m_w439 : Cond.methodLink "ShelfSlots$Shed" 114 ⟨"ShelfSlots$Day", "add", "(II)V"⟩ ∈ m_wt := m_p2_wt (j := 140) rfl
theorem m_w440 : Cond.instanceMethod ⟨"ShelfSlots$Day", "add", "(II)V"⟩ ∈ m_wt := m_p2_wt (j := 141) rfl
theorem m_w441 : Cond.selects "ShelfSlots$Day" ⟨"ShelfSlots$Day", "add", "(II)V"⟩ ⟨"ShelfSlots$Day", "add", "(II)V"⟩ ∈ m_wt := m_p2_wt (j := 142) rfl
theorem m_w442 : Cond.code ⟨"ShelfSlots$Day", "add", "(II)V"⟩ prog_3_method_3_code 3 (none) ∈ m_wt := m_p2_wt (j := 143) rfl
theorem m_w443 : Cond.methodLink "ShelfSlotsLaw" 35 ⟨"ShelfSlots", "night", "()I"⟩ ∈ m_wt := m_p2_wt (j := 144) rfl
theorem m_w444 : Cond.instanceMethod ⟨"ShelfSlots", "night", "()I"⟩ ∈ m_wt := m_p2_wt (j := 145) rfl
theorem m_w445 : Cond.selects "ShelfSlots" ⟨"ShelfSlots", "night", "()I"⟩ ⟨"ShelfSlots", "night", "()I"⟩ ∈ m_wt := m_p2_wt (j := 146) rfl
theorem m_w446 : Cond.code ⟨"ShelfSlots", "night", "()I"⟩ prog_1_method_7_code 1 (some .int) ∈ m_wt := m_p2_wt (j := 147) rfl
theorem m_w447 : Cond.methodLink "ShelfSlots" 81 ⟨"ShelfSlots$Mover", "passNight", "(LShelfSlots$Shed;)I"⟩ ∈ m_wt := m_p2_wt (j := 148) rfl
theorem m_w448 : Cond.instanceMethod ⟨"ShelfSlots$Mover", "passNight", "(LShelfSlots$Shed;)I"⟩ ∈ m_wt := m_p2_wt (j := 149) rfl
theorem m_w449 : Cond.selects "ShelfSlots$Mover" ⟨"ShelfSlots$Mover", "passNight", "(LShelfSlots$Shed;)I"⟩ ⟨"ShelfSlots$Mover", "passNight", "(LShelfSlots$Shed;)I"⟩ ∈ m_wt := m_p2_wt (j := 150) rfl
theorem m_w450 : Cond.code ⟨"ShelfSlots$Mover", "passNight", "(LShelfSlots$Shed;)I"⟩ prog_6_method_2_code 3 (some .int) ∈ m_wt := m_p2_wt (j := 151) rfl
theorem m_w451 : Cond.methodLink "ShelfSlots$Mover" 21 ⟨"ShelfSlots$Shed", "ageSpeeds", "()V"⟩ ∈ m_wt := m_p2_wt (j := 152) rfl
theorem m_w452 : Cond.instanceMethod ⟨"ShelfSlots$Shed", "ageSpeeds", "()V"⟩ ∈ m_wt := m_p2_wt (j := 153) rfl
theorem m_w453 : Cond.selects "ShelfSlots$Shed" ⟨"ShelfSlots$Shed", "ageSpeeds", "()V"⟩ ⟨"ShelfSlots$Shed", "ageSpeeds", "()V"⟩ ∈ m_wt := m_p2_wt (j := 154) rfl
theorem m_w454 : Cond.code ⟨"ShelfSlots$Shed", "ageSpeeds", "()V"⟩ prog_9_method_23_code 4 (none) ∈ m_wt := m_p2_wt (j := 155) rfl
theorem m_w455 : Cond.constantFloat "ShelfSlots$Shed" 129 1120403456 ∈ m_wt := m_p2_wt (j := 156) rfl
theorem m_w456 : Cond.methodLink "ShelfSlots$Mover" 28 ⟨"ShelfSlots$Mover", "findSwap", "(LShelfSlots$Shed;)Z"⟩ ∈ m_wt := m_p2_wt (j := 157) rfl
theorem m_w457 : Cond.instanceMethod ⟨"ShelfSlots$Mover", "findSwap", "(LShelfSlots$Shed;)Z"⟩ ∈ m_wt := m_p2_wt (j := 158) rfl
theorem m_w458 : Cond.selects "ShelfSlots$Mover" ⟨"ShelfSlots$Mover", "findSwap", "(LShelfSlots$Shed;)Z"⟩ ⟨"ShelfSlots$Mover", "findSwap", "(LShelfSlots$Shed;)Z"⟩ ∈ m_wt := m_p2_wt (j := 159) rfl
theorem m_w459 : Cond.code ⟨"ShelfSlots$Mover", "findSwap", "(LShelfSlots$Shed;)Z"⟩ prog_6_method_3_code 7 (some .boolean) ∈ m_wt := m_p2_wt (j := 160) rfl
theorem m_w460 : Cond.methodLink "ShelfSlots$Mover" 48 ⟨"ShelfSlots$Shed", "weight", "()F"⟩ ∈ m_wt := m_p2_wt (j := 161) rfl
theorem m_w461 : Cond.instanceMethod ⟨"ShelfSlots$Shed", "weight", "()F"⟩ ∈ m_wt := m_p2_wt (j := 162) rfl
theorem m_w462 : Cond.selects "ShelfSlots$Shed" ⟨"ShelfSlots$Shed", "weight", "()F"⟩ ⟨"ShelfSlots$Shed", "weight", "()F"⟩ ∈ m_wt := m_p2_wt (j := 163) rfl
theorem m_w463 : Cond.code ⟨"ShelfSlots$Shed", "weight", "()F"⟩ prog_9_method_16_code 3 (some .float) ∈ m_wt := m_p2_wt (j := 164) rfl
theorem m_w464 : Cond.methodLink "ShelfSlots$Shed" 99 ⟨"ShelfSlots$Shed", "deskSteps", "(I)I"⟩ ∈ m_wt := m_p2_wt (j := 165) rfl
theorem m_w465 : Cond.methodLink "ShelfSlots$Mover" 52 ⟨"ShelfSlots$Walker", "togetherOf", "(LShelfSlots$Shed;)I"⟩ ∈ m_wt := m_p2_wt (j := 166) rfl
theorem m_w466 : Cond.instanceMethod ⟨"ShelfSlots$Walker", "togetherOf", "(LShelfSlots$Shed;)I"⟩ ∈ m_wt := m_p2_wt (j := 167) rfl
theorem m_w467 : Cond.selects "ShelfSlots$Walker" ⟨"ShelfSlots$Walker", "togetherOf", "(LShelfSlots$Shed;)I"⟩ ⟨"ShelfSlots$Walker", "togetherOf", "(LShelfSlots$Shed;)I"⟩ ∈ m_wt := m_p2_wt (j := 168) rfl
theorem m_w468 : Cond.code ⟨"ShelfSlots$Walker", "togetherOf", "(LShelfSlots$Shed;)I"⟩ prog_10_method_4_code 4 (some .int) ∈ m_wt := m_p2_wt (j := 169) rfl
theorem m_w469 : Cond.methodLink "ShelfSlots$Walker" 51 ⟨"ShelfSlots$Walker", "lengthOf", "(LShelfSlots$Shed;I)I"⟩ ∈ m_wt := m_p2_wt (j := 170) rfl
theorem m_w470 : Cond.methodLink "ShelfSlots$Mover" 58 ⟨"ShelfSlots$Shed", "mayMoveByNight", "(II)Z"⟩ ∈ m_wt := m_p2_wt (j := 171) rfl
theorem m_w471 : Cond.instanceMethod ⟨"ShelfSlots$Shed", "mayMoveByNight", "(II)Z"⟩ ∈ m_wt := m_p2_wt (j := 172) rfl
theorem m_w472 : Cond.selects "ShelfSlots$Shed" ⟨"ShelfSlots$Shed", "mayMoveByNight", "(II)Z"⟩ ⟨"ShelfSlots$Shed", "mayMoveByNight", "(II)Z"⟩ ∈ m_wt := m_p2_wt (j := 173) rfl
theorem m_w473 : Cond.code ⟨"ShelfSlots$Shed", "mayMoveByNight", "(II)Z"⟩ prog_9_method_13_code 4 (some .boolean) ∈ m_wt := m_p2_wt (j := 174) rfl
theorem m_w474 : Cond.methodLink "ShelfSlots$Mover" 62 ⟨"ShelfSlots$Shed", "exchange", "(II)V"⟩ ∈ m_wt := m_p2_wt (j := 175) rfl
theorem m_w475 : Cond.methodLink "ShelfSlots$Mover" 38 ⟨"ShelfSlots$Shed", "swapCounted", "(II)I"⟩ ∈ m_wt := m_p2_wt (j := 176) rfl
theorem m_w476 : Cond.methodLink "ShelfSlots$Mover" 45 ⟨"ShelfSlots$Shed", "endDay", "()V"⟩ ∈ m_wt := m_p2_wt (j := 177) rfl
theorem m_w477 : Cond.instanceMethod ⟨"ShelfSlots$Shed", "endDay", "()V"⟩ ∈ m_wt := m_p2_wt (j := 178) rfl
theorem m_w478 : Cond.selects "ShelfSlots$Shed" ⟨"ShelfSlots$Shed", "endDay", "()V"⟩ ⟨"ShelfSlots$Shed", "endDay", "()V"⟩ ∈ m_wt := m_p2_wt (j := 179) rfl
theorem m_w479 : Cond.code ⟨"ShelfSlots$Shed", "endDay", "()V"⟩ prog_9_method_24_code 2 (none) ∈ m_wt := m_p2_wt (j := 180) rfl
theorem m_w480 : Cond.methodLink "ShelfSlotsLaw" 40 ⟨"ShelfSlots", "of", "(II)I"⟩ ∈ m_wt := m_p2_wt (j := 181) rfl
theorem m_w481 : Cond.instanceMethod ⟨"ShelfSlots", "of", "(II)I"⟩ ∈ m_wt := m_p2_wt (j := 182) rfl
theorem m_w482 : Cond.selects "ShelfSlots" ⟨"ShelfSlots", "of", "(II)I"⟩ ⟨"ShelfSlots", "of", "(II)I"⟩ ∈ m_wt := m_p2_wt (j := 183) rfl
theorem m_w483 : Cond.code ⟨"ShelfSlots", "of", "(II)I"⟩ prog_1_method_8_code 3 (some .int) ∈ m_wt := m_p2_wt (j := 184) rfl
theorem m_w484 : Cond.methodLink "ShelfSlots" 97 ⟨"ShelfSlots$Bits", "ofFloat", "(F)I"⟩ ∈ m_wt := m_p2_wt (j := 185) rfl
theorem m_w485 : Cond.static ⟨"ShelfSlots$Bits", "ofFloat", "(F)I"⟩ ∈ m_wt := m_p2_wt (j := 186) rfl
theorem m_w486 : Cond.code ⟨"ShelfSlots$Bits", "ofFloat", "(F)I"⟩ prog_2_method_2_code 3 (some .int) ∈ m_wt := m_p2_wt (j := 187) rfl
theorem m_w487 : Cond.methodLink "ShelfSlots$Bits" 7 ⟨"ShelfSlots$Bits", "exponentOf", "(D)I"⟩ ∈ m_wt := m_p2_wt (j := 188) rfl
theorem m_w488 : Cond.static ⟨"ShelfSlots$Bits", "exponentOf", "(D)I"⟩ ∈ m_wt := m_p2_wt (j := 189) rfl
theorem m_w489 : Cond.code ⟨"ShelfSlots$Bits", "exponentOf", "(D)I"⟩ prog_2_method_4_code 5 (some .int) ∈ m_wt := m_p2_wt (j := 190) rfl
theorem m_w490 : Cond.constantDouble "ShelfSlots$Bits" 30 4611686018427387904 ∈ m_wt := m_p2_wt (j := 191) rfl
theorem m_w491 : Cond.methodLink "ShelfSlots$Bits" 13 ⟨"ShelfSlots$Bits", "scaled", "(DI)D"⟩ ∈ m_wt := m_p2_wt (j := 192) rfl
theorem m_w492 : Cond.static ⟨"ShelfSlots$Bits", "scaled", "(DI)D"⟩ ∈ m_wt := m_p2_wt (j := 193) rfl
theorem m_w493 : Cond.code ⟨"ShelfSlots$Bits", "scaled", "(DI)D"⟩ prog_2_method_5_code 6 (some .double) ∈ m_wt := m_p2_wt (j := 194) rfl
theorem m_w494 : Cond.constantDouble "ShelfSlots$Bits" 17 4710765210229538816 ∈ m_wt := m_p2_wt (j := 195) rfl
theorem m_w495 : Cond.methodLink "ShelfSlots$Bits" 19 ⟨"java/lang/Math", "min", "(II)I"⟩ ∈ m_wt := m_p2_wt (j := 196) rfl
theorem m_w496 : Cond.constant "ShelfSlots$Bits" 25 8388608 ∈ m_wt := m_p2_wt (j := 197) rfl
theorem m_w497 : Cond.methodLink "ShelfSlots" 109 ⟨"ShelfSlots$Shed", "deskSteps", "(I)I"⟩ ∈ m_wt := m_p2_wt (j := 198) rfl
theorem m_w498 : Cond.methodLink "ShelfSlotsLaw" 44 ⟨"ShelfSlots", "ofSlot", "(II)I"⟩ ∈ m_wt := m_p2_wt (j := 199) rfl
theorem m_w499 : Cond.instanceMethod ⟨"ShelfSlots", "ofSlot", "(II)I"⟩ ∈ m_wt := m_p2_wt (j := 200) rfl
theorem m_w500 : Cond.selects "ShelfSlots" ⟨"ShelfSlots", "ofSlot", "(II)I"⟩ ⟨"ShelfSlots", "ofSlot", "(II)I"⟩ ∈ m_wt := m_p2_wt (j := 201) rfl
theorem m_w501 : Cond.code ⟨"ShelfSlots", "ofSlot", "(II)I"⟩ prog_1_method_9_code 3 (some .int) ∈ m_wt := m_p2_wt (j := 202) rfl
theorem m_w502 : Cond.methodLink "ShelfSlots" 115 ⟨"ShelfSlots$Shed", "isSlot", "(I)Z"⟩ ∈ m_wt := m_p2_wt (j := 203) rfl
theorem m_w503 : Cond.methodLink "ShelfSlots" 122 ⟨"ShelfSlots$Shed", "isClosed", "(I)Z"⟩ ∈ m_wt := m_p2_wt (j := 204) rfl
theorem m_w504 : Cond.methodLink "ShelfSlotsLaw" 48 ⟨"ShelfSlots", "steps", "(II)I"⟩ ∈ m_wt := m_p2_wt (j := 205) rfl
theorem m_w505 : Cond.instanceMethod ⟨"ShelfSlots", "steps", "(II)I"⟩ ∈ m_wt := m_p2_wt (j := 206) rfl
theorem m_w506 : Cond.selects "ShelfSlots" ⟨"ShelfSlots", "steps", "(II)I"⟩ ⟨"ShelfSlots", "steps", "(II)I"⟩ ∈ m_wt := m_p2_wt (j := 207) rfl
theorem m_w507 : Cond.code ⟨"ShelfSlots", "steps", "(II)I"⟩ prog_1_method_10_code 3 (some .int) ∈ m_wt := m_p2_wt (j := 208) rfl
theorem m_w508 : Cond.methodLink "ShelfSlots" 125 ⟨"ShelfSlots$Shed", "stepsBetween", "(II)I"⟩ ∈ m_wt := m_p2_wt (j := 209) rfl
theorem m_w509 : Cond.methodLink "ShelfSlotsLaw" 52 ⟨"ShelfSlots", "basket", "(III)I"⟩ ∈ m_wt := m_p2_wt (j := 210) rfl
theorem m_w510 : Cond.instanceMethod ⟨"ShelfSlots", "basket", "(III)I"⟩ ∈ m_wt := m_p2_wt (j := 211) rfl
theorem m_w511 : Cond.selects "ShelfSlots" ⟨"ShelfSlots", "basket", "(III)I"⟩ ⟨"ShelfSlots", "basket", "(III)I"⟩ ∈ m_wt := m_p2_wt (j := 212) rfl
theorem m_w512 : Cond.code ⟨"ShelfSlots", "basket", "(III)I"⟩ prog_1_method_11_code 5 (some .int) ∈ m_wt := m_p2_wt (j := 213) rfl
theorem m_w513 : Cond.methodLink "ShelfSlotsLaw" 57 ⟨"ShelfSlots", "often", "(I)I"⟩ ∈ m_wt := m_p2_wt (j := 214) rfl
theorem m_w514 : Cond.instanceMethod ⟨"ShelfSlots", "often", "(I)I"⟩ ∈ m_wt := m_p2_wt (j := 215) rfl
theorem m_w515 : Cond.selects "ShelfSlots" ⟨"ShelfSlots", "often", "(I)I"⟩ ⟨"ShelfSlots", "often", "(I)I"⟩ ∈ m_wt := m_p2_wt (j := 216) rfl
theorem m_w516 : Cond.code ⟨"ShelfSlots", "often", "(I)I"⟩ prog_1_method_12_code 3 (some .int) ∈ m_wt := m_p2_wt (j := 217) rfl
theorem m_w517 : Cond.methodLink "ShelfSlots" 153 ⟨"ShelfSlots$Shed", "timesPicked", "(I)I"⟩ ∈ m_wt := m_p2_wt (j := 218) rfl
theorem m_w518 : Cond.methodLink "ShelfSlotsLaw" 61 ⟨"ShelfSlots", "count", "(I)I"⟩ ∈ m_wt := m_p2_wt (j := 219) rfl
theorem m_w519 : Cond.instanceMethod ⟨"ShelfSlots", "count", "(I)I"⟩ ∈ m_wt := m_p2_wt (j := 220) rfl
theorem m_w520 : Cond.selects "ShelfSlots" ⟨"ShelfSlots", "count", "(I)I"⟩ ⟨"ShelfSlots", "count", "(I)I"⟩ ∈ m_wt := m_p2_wt (j := 221) rfl
theorem m_w521 : Cond.code ⟨"ShelfSlots", "count", "(I)I"⟩ prog_1_method_13_code 2 (some .int) ∈ m_wt := m_p2_wt (j := 222) rfl
theorem m_w522 : Cond.methodLink "ShelfSlots" 159 ⟨"ShelfSlots$Day", "together", "()I"⟩ ∈ m_wt := m_p2_wt (j := 223) rfl
theorem m_w523 : Cond.instanceMethod ⟨"ShelfSlots$Day", "together", "()I"⟩ ∈ m_wt := m_p2_wt (j := 224) rfl
theorem m_w524 : Cond.selects "ShelfSlots$Day" ⟨"ShelfSlots$Day", "together", "()I"⟩ ⟨"ShelfSlots$Day", "together", "()I"⟩ ∈ m_wt := m_p2_wt (j := 225) rfl
theorem m_w525 : Cond.code ⟨"ShelfSlots$Day", "together", "()I"⟩ prog_3_method_4_code 3 (some .int) ∈ m_wt := m_p2_wt (j := 226) rfl
theorem m_w526 : Cond.methodLink "ShelfSlots" 169 ⟨"ShelfSlots$Shed", "weight", "()F"⟩ ∈ m_wt := m_p2_wt (j := 227) rfl
theorem m_w527 : Cond.methodLink "ShelfSlots" 176 ⟨"ShelfSlots$Shed", "fastest", "()I"⟩ ∈ m_wt := m_p3_wt (j := 0) rfl
theorem m_w528 : Cond.instanceMethod ⟨"ShelfSlots$Shed", "fastest", "()I"⟩ ∈ m_wt := m_p3_wt (j := 1) rfl
theorem m_w529 : Cond.selects "ShelfSlots$Shed" ⟨"ShelfSlots$Shed", "fastest", "()I"⟩ ⟨"ShelfSlots$Shed", "fastest", "()I"⟩ ∈ m_wt := m_p3_wt (j := 2) rfl
theorem m_w530 : Cond.code ⟨"ShelfSlots$Shed", "fastest", "()I"⟩ prog_9_method_18_code 3 (some .int) ∈ m_wt := m_p3_wt (j := 3) rfl
theorem m_w531 : Cond.methodLink "ShelfSlots" 179 ⟨"ShelfSlots$Shed", "unlikeBaskets", "()I"⟩ ∈ m_wt := m_p3_wt (j := 4) rfl
theorem m_w532 : Cond.methodLink "ShelfSlotsLaw" 65 ⟨"ShelfSlots", "meanSpeed", "()J"⟩ ∈ m_wt := m_p3_wt (j := 5) rfl
theorem m_w533 : Cond.instanceMethod ⟨"ShelfSlots", "meanSpeed", "()J"⟩ ∈ m_wt := m_p3_wt (j := 6) rfl
theorem m_w534 : Cond.selects "ShelfSlots" ⟨"ShelfSlots", "meanSpeed", "()J"⟩ ⟨"ShelfSlots", "meanSpeed", "()J"⟩ ∈ m_wt := m_p3_wt (j := 7) rfl
theorem m_w535 : Cond.code ⟨"ShelfSlots", "meanSpeed", "()J"⟩ prog_1_method_14_code 1 (some .long) ∈ m_wt := m_p3_wt (j := 8) rfl
theorem m_w536 : Cond.methodLink "ShelfSlots" 191 ⟨"ShelfSlots$Shed", "mean", "()D"⟩ ∈ m_wt := m_p3_wt (j := 9) rfl
theorem m_w537 : Cond.instanceMethod ⟨"ShelfSlots$Shed", "mean", "()D"⟩ ∈ m_wt := m_p3_wt (j := 10) rfl
theorem m_w538 : Cond.selects "ShelfSlots$Shed" ⟨"ShelfSlots$Shed", "mean", "()D"⟩ ⟨"ShelfSlots$Shed", "mean", "()D"⟩ ∈ m_wt := m_p3_wt (j := 11) rfl
theorem m_w539 : Cond.code ⟨"ShelfSlots$Shed", "mean", "()D"⟩ prog_9_method_17_code 4 (some .double) ∈ m_wt := m_p3_wt (j := 12) rfl
theorem m_w540 : Cond.methodLink "ShelfSlots" 195 ⟨"ShelfSlots$Bits", "ofDouble", "(D)J"⟩ ∈ m_wt := m_p3_wt (j := 13) rfl
theorem m_w541 : Cond.static ⟨"ShelfSlots$Bits", "ofDouble", "(D)J"⟩ ∈ m_wt := m_p3_wt (j := 14) rfl
theorem m_w542 : Cond.code ⟨"ShelfSlots$Bits", "ofDouble", "(D)J"⟩ prog_2_method_3_code 5 (some .long) ∈ m_wt := m_p3_wt (j := 15) rfl
theorem m_w543 : Cond.constantDouble "ShelfSlots$Bits" 26 4841369599423283200 ∈ m_wt := m_p3_wt (j := 16) rfl
theorem m_w544 : Cond.constantLong "ShelfSlots$Bits" 28 4503599627370496 ∈ m_wt := m_p3_wt (j := 17) rfl
theorem m_w545 : Cond.methodLink "ShelfSlotsLaw" 70 ⟨"ShelfSlots", "walk", "(I)I"⟩ ∈ m_wt := m_p3_wt (j := 18) rfl
theorem m_w546 : Cond.instanceMethod ⟨"ShelfSlots", "walk", "(I)I"⟩ ∈ m_wt := m_p3_wt (j := 19) rfl
theorem m_w547 : Cond.selects "ShelfSlots" ⟨"ShelfSlots", "walk", "(I)I"⟩ ⟨"ShelfSlots", "walk", "(I)I"⟩ ∈ m_wt := m_p3_wt (j := 20) rfl
theorem m_w548 : Cond.code ⟨"ShelfSlots", "walk", "(I)I"⟩ prog_1_method_15_code 3 (some .int) ∈ m_wt := m_p3_wt (j := 21) rfl
theorem m_w549 : Cond.methodLink "ShelfSlotsLaw" 74 ⟨"ShelfSlots", "stop", "(II)I"⟩ ∈ m_wt := m_p3_wt (j := 22) rfl
theorem m_w550 : Cond.instanceMethod ⟨"ShelfSlots", "stop", "(II)I"⟩ ∈ m_wt := m_p3_wt (j := 23) rfl
theorem m_w551 : Cond.selects "ShelfSlots" ⟨"ShelfSlots", "stop", "(II)I"⟩ ⟨"ShelfSlots", "stop", "(II)I"⟩ ∈ m_wt := m_p3_wt (j := 24) rfl
theorem m_w552 : Cond.code ⟨"ShelfSlots", "stop", "(II)I"⟩ prog_1_method_16_code 4 (some .int) ∈ m_wt := m_p3_wt (j := 25) rfl
theorem m_w553 : Cond.methodLink "ShelfSlots" 199 ⟨"ShelfSlots$Walker", "goodAt", "(I)I"⟩ ∈ m_wt := m_p3_wt (j := 26) rfl
theorem m_w554 : Cond.instanceMethod ⟨"ShelfSlots$Walker", "goodAt", "(I)I"⟩ ∈ m_wt := m_p3_wt (j := 27) rfl
theorem m_w555 : Cond.selects "ShelfSlots$Walker" ⟨"ShelfSlots$Walker", "goodAt", "(I)I"⟩ ⟨"ShelfSlots$Walker", "goodAt", "(I)I"⟩ ∈ m_wt := m_p3_wt (j := 28) rfl
theorem m_w556 : Cond.code ⟨"ShelfSlots$Walker", "goodAt", "(I)I"⟩ prog_10_method_3_code 2 (some .int) ∈ m_wt := m_p3_wt (j := 29) rfl
theorem m_w557 : Cond.methodLink "ShelfSlotsLaw" 78 ⟨"ShelfSlots", "shortest", "(I)I"⟩ ∈ m_wt := m_p3_wt (j := 30) rfl
theorem m_w558 : Cond.instanceMethod ⟨"ShelfSlots", "shortest", "(I)I"⟩ ∈ m_wt := m_p3_wt (j := 31) rfl
theorem m_w559 : Cond.selects "ShelfSlots" ⟨"ShelfSlots", "shortest", "(I)I"⟩ ⟨"ShelfSlots", "shortest", "(I)I"⟩ ∈ m_wt := m_p3_wt (j := 32) rfl
theorem m_w560 : Cond.code ⟨"ShelfSlots", "shortest", "(I)I"⟩ prog_1_method_17_code 3 (some .int) ∈ m_wt := m_p3_wt (j := 33) rfl
theorem m_w561 : Cond.methodLink "ShelfSlots" 202 ⟨"ShelfSlots$Walker", "shortestOf", "(LShelfSlots$Shed;I)I"⟩ ∈ m_wt := m_p3_wt (j := 34) rfl
theorem m_w562 : Cond.instanceMethod ⟨"ShelfSlots$Walker", "shortestOf", "(LShelfSlots$Shed;I)I"⟩ ∈ m_wt := m_p3_wt (j := 35) rfl
theorem m_w563 : Cond.selects "ShelfSlots$Walker" ⟨"ShelfSlots$Walker", "shortestOf", "(LShelfSlots$Shed;I)I"⟩ ⟨"ShelfSlots$Walker", "shortestOf", "(LShelfSlots$Shed;I)I"⟩ ∈ m_wt := m_p3_wt (j := 36) rfl
theorem m_w564 : Cond.code ⟨"ShelfSlots$Walker", "shortestOf", "(LShelfSlots$Shed;I)I"⟩ prog_10_method_7_code 7 (some .int) ∈ m_wt := m_p3_wt (j := 37) rfl
theorem m_w565 : Cond.methodLink "ShelfSlots$Walker" 55 ⟨"ShelfSlots$Walker", "lastPlace", "(LShelfSlots$Shed;I)I"⟩ ∈ m_wt := m_p3_wt (j := 38) rfl
theorem m_w567 : Cond.instanceMethod ⟨"ShelfSlots$Walker", "lastPlace", "(LShelfSlots$Shed;I)I"⟩ ∈ m_wt := m_p3_wt (j := 39) rfl
theorem m_w568 : Cond.code ⟨"ShelfSlots$Walker", "lastPlace", "(LShelfSlots$Shed;I)I"⟩ prog_10_method_8_code 6 (some .int) ∈ m_wt := m_p3_wt (j := 40) rfl
theorem m_w569 : Cond.methodLink "ShelfSlots$Walker" 61 ⟨"java/lang/Math", "max", "(II)I"⟩ ∈ m_wt := m_p3_wt (j := 41) rfl
theorem m_w570 : Cond.static ⟨"java/lang/Math", "max", "(II)I"⟩ ∈ m_wt := m_p3_wt (j := 42) rfl
theorem m_w571 : Cond.code ⟨"java/lang/Math", "max", "(II)I"⟩ prog_14_method_65_code 2 (some .int) ∈ m_wt := m_p3_wt (j := 43) rfl
theorem m_w572 : Cond.methodLink "ShelfSlotsLaw" 82 ⟨"ShelfSlots", "bestSwap", "(I)I"⟩ ∈ m_wt := m_p3_wt (j := 44) rfl
theorem m_w573 : Cond.instanceMethod ⟨"ShelfSlots", "bestSwap", "(I)I"⟩ ∈ m_wt := m_p3_wt (j := 45) rfl
theorem m_w574 : Cond.selects "ShelfSlots" ⟨"ShelfSlots", "bestSwap", "(I)I"⟩ ⟨"ShelfSlots", "bestSwap", "(I)I"⟩ ∈ m_wt := m_p3_wt (j := 46) rfl
theorem m_w575 : Cond.code ⟨"ShelfSlots", "bestSwap", "(I)I"⟩ prog_1_method_18_code 2 (some .int) ∈ m_wt := m_p3_wt (j := 47) rfl
theorem m_w576 : Cond.methodLink "ShelfSlots" 205 ⟨"ShelfSlots$Shed", "copyFrom", "(LShelfSlots$Shed;)V"⟩ ∈ m_wt := m_p3_wt (j := 48) rfl
theorem m_w577 : Cond.methodLink "ShelfSlots" 208 ⟨"ShelfSlots$Shed", "ageSpeeds", "()V"⟩ ∈ m_wt := m_p3_wt (j := 49) rfl
theorem m_w578 : Cond.methodLink "ShelfSlots" 211 ⟨"ShelfSlots$Mover", "findSwap", "(LShelfSlots$Shed;)Z"⟩ ∈ m_wt := m_p3_wt (j := 50) rfl
theorem m_w579 : Cond.methodLink "ShelfSlotsLaw" 86 ⟨"ShelfSlots", "ifSwapped", "(II)I"⟩ ∈ m_wt := m_p3_wt (j := 51) rfl
theorem m_w580 : Cond.instanceMethod ⟨"ShelfSlots", "ifSwapped", "(II)I"⟩ ∈ m_wt := m_p3_wt (j := 52) rfl
theorem m_w581 : Cond.selects "ShelfSlots" ⟨"ShelfSlots", "ifSwapped", "(II)I"⟩ ⟨"ShelfSlots", "ifSwapped", "(II)I"⟩ ∈ m_wt := m_p3_wt (j := 53) rfl
theorem m_w582 : Cond.code ⟨"ShelfSlots", "ifSwapped", "(II)I"⟩ prog_1_method_19_code 3 (some .int) ∈ m_wt := m_p3_wt (j := 54) rfl
theorem m_w583 : Cond.methodLink "ShelfSlots" 221 ⟨"ShelfSlots$Shed", "exchange", "(II)V"⟩ ∈ m_wt := m_p3_wt (j := 55) rfl
theorem m_w584 : Cond.methodLink "ShelfSlots" 225 ⟨"ShelfSlots$Walker", "togetherOf", "(LShelfSlots$Shed;)I"⟩ ∈ m_wt := m_p3_wt (j := 56) rfl
theorem m_w585 : Cond.methodLink "ShelfSlotsLaw" 90 ⟨"ShelfSlots", "badly", "()I"⟩ ∈ m_wt := m_p3_wt (j := 57) rfl
theorem m_w586 : Cond.instanceMethod ⟨"ShelfSlots", "badly", "()I"⟩ ∈ m_wt := m_p3_wt (j := 58) rfl
theorem m_w587 : Cond.selects "ShelfSlots" ⟨"ShelfSlots", "badly", "()I"⟩ ⟨"ShelfSlots", "badly", "()I"⟩ ∈ m_wt := m_p3_wt (j := 59) rfl
theorem m_w588 : Cond.code ⟨"ShelfSlots", "badly", "()I"⟩ prog_1_method_20_code 3 (some .int) ∈ m_wt := m_p3_wt (j := 60) rfl
theorem m_w589 : Cond.methodLink "ShelfSlots" 228 ⟨"ShelfSlots$Shed", "standsBadly", "(I)Z"⟩ ∈ m_wt := m_p3_wt (j := 61) rfl
theorem m_w590 : Cond.instanceMethod ⟨"ShelfSlots$Shed", "standsBadly", "(I)Z"⟩ ∈ m_wt := m_p3_wt (j := 62) rfl
theorem m_w591 : Cond.selects "ShelfSlots$Shed" ⟨"ShelfSlots$Shed", "standsBadly", "(I)Z"⟩ ⟨"ShelfSlots$Shed", "standsBadly", "(I)Z"⟩ ∈ m_wt := m_p3_wt (j := 63) rfl
theorem m_w592 : Cond.code ⟨"ShelfSlots$Shed", "standsBadly", "(I)Z"⟩ prog_9_method_19_code 4 (some .boolean) ∈ m_wt := m_p3_wt (j := 64) rfl
theorem m_w593 : Cond.methodLink "ShelfSlotsLaw" 96 ⟨"ShelfSlots", "put", "(J)I"⟩ ∈ m_wt := m_p3_wt (j := 65) rfl
theorem m_w594 : Cond.instanceMethod ⟨"ShelfSlots", "put", "(J)I"⟩ ∈ m_wt := m_p3_wt (j := 66) rfl
theorem m_w595 : Cond.selects "ShelfSlots" ⟨"ShelfSlots", "put", "(J)I"⟩ ⟨"ShelfSlots", "put", "(J)I"⟩ ∈ m_wt := m_p3_wt (j := 67) rfl
theorem m_w596 : Cond.code ⟨"ShelfSlots", "put", "(J)I"⟩ prog_1_method_21_code 3 (some .int) ∈ m_wt := m_p3_wt (j := 68) rfl
theorem m_w597 : Cond.methodLink "ShelfSlots" 231 ⟨"ShelfSlots$Pad", "append", "(J)I"⟩ ∈ m_wt := m_p3_wt (j := 69) rfl
theorem m_w598 : Cond.instanceMethod ⟨"ShelfSlots$Pad", "append", "(J)I"⟩ ∈ m_wt := m_p3_wt (j := 70) rfl
theorem m_w599 : Cond.selects "ShelfSlots$Pad" ⟨"ShelfSlots$Pad", "append", "(J)I"⟩ ⟨"ShelfSlots$Pad", "append", "(J)I"⟩ ∈ m_wt := m_p3_wt (j := 71) rfl
theorem m_w600 : Cond.code ⟨"ShelfSlots$Pad", "append", "(J)I"⟩ prog_7_method_2_code 7 (some .int) ∈ m_wt := m_p3_wt (j := 72) rfl
theorem m_w601 : Cond.constantLong "ShelfSlots$Pad" 22 255 ∈ m_wt := m_p3_wt (j := 73) rfl
theorem m_w602 : Cond.methodLink "ShelfSlotsLaw" 101 ⟨"ShelfSlots", "wipe", "()I"⟩ ∈ m_wt := m_p3_wt (j := 74) rfl
theorem m_w603 : Cond.instanceMethod ⟨"ShelfSlots", "wipe", "()I"⟩ ∈ m_wt := m_p3_wt (j := 75) rfl
theorem m_w604 : Cond.selects "ShelfSlots" ⟨"ShelfSlots", "wipe", "()I"⟩ ⟨"ShelfSlots", "wipe", "()I"⟩ ∈ m_wt := m_p3_wt (j := 76) rfl
theorem m_w605 : Cond.code ⟨"ShelfSlots", "wipe", "()I"⟩ prog_1_method_22_code 1 (some .int) ∈ m_wt := m_p3_wt (j := 77) rfl
theorem m_w606 : Cond.methodLink "ShelfSlots" 235 ⟨"ShelfSlots$Pad", "empty", "()I"⟩ ∈ m_wt := m_p3_wt (j := 78) rfl
theorem m_w607 : Cond.instanceMethod ⟨"ShelfSlots$Pad", "empty", "()I"⟩ ∈ m_wt := m_p3_wt (j := 79) rfl
theorem m_w608 : Cond.selects "ShelfSlots$Pad" ⟨"ShelfSlots$Pad", "empty", "()I"⟩ ⟨"ShelfSlots$Pad", "empty", "()I"⟩ ∈ m_wt := m_p3_wt (j := 80) rfl
theorem m_w609 : Cond.code ⟨"ShelfSlots$Pad", "empty", "()I"⟩ prog_7_method_3_code 2 (some .int) ∈ m_wt := m_p3_wt (j := 81) rfl
theorem m_w610 : Cond.methodLink "ShelfSlotsLaw" 105 ⟨"ShelfSlots", "fault", "()I"⟩ ∈ m_wt := m_p3_wt (j := 82) rfl
theorem m_w611 : Cond.instanceMethod ⟨"ShelfSlots", "fault", "()I"⟩ ∈ m_wt := m_p3_wt (j := 83) rfl
theorem m_w612 : Cond.selects "ShelfSlots" ⟨"ShelfSlots", "fault", "()I"⟩ ⟨"ShelfSlots", "fault", "()I"⟩ ∈ m_wt := m_p3_wt (j := 84) rfl
theorem m_w613 : Cond.code ⟨"ShelfSlots", "fault", "()I"⟩ prog_1_method_23_code 1 (some .int) ∈ m_wt := m_p3_wt (j := 85) rfl
theorem m_w614 : Cond.methodLink "ShelfSlots" 238 ⟨"ShelfSlots$Pad", "firstFault", "()I"⟩ ∈ m_wt := m_p3_wt (j := 86) rfl
theorem m_w615 : Cond.instanceMethod ⟨"ShelfSlots$Pad", "firstFault", "()I"⟩ ∈ m_wt := m_p3_wt (j := 87) rfl
theorem m_w616 : Cond.selects "ShelfSlots$Pad" ⟨"ShelfSlots$Pad", "firstFault", "()I"⟩ ⟨"ShelfSlots$Pad", "firstFault", "()I"⟩ ∈ m_wt := m_p3_wt (j := 88) rfl
theorem m_w617 : Cond.code ⟨"ShelfSlots$Pad", "firstFault", "()I"⟩ prog_7_method_4_code 2 (some .int) ∈ m_wt := m_p3_wt (j := 89) rfl
theorem m_w618 : Cond.methodLink "ShelfSlots$Pad" 28 ⟨"ShelfSlots$Grammar", "startAnew", "()V"⟩ ∈ m_wt := m_p3_wt (j := 90) rfl
theorem m_w619 : Cond.instanceMethod ⟨"ShelfSlots$Grammar", "startAnew", "()V"⟩ ∈ m_wt := m_p3_wt (j := 91) rfl
theorem m_w620 : Cond.selects "ShelfSlots$Grammar" ⟨"ShelfSlots$Grammar", "startAnew", "()V"⟩ ⟨"ShelfSlots$Grammar", "startAnew", "()V"⟩ ∈ m_wt := m_p3_wt (j := 92) rfl
theorem m_w621 : Cond.code ⟨"ShelfSlots$Grammar", "startAnew", "()V"⟩ prog_4_method_3_code 1 (none) ∈ m_wt := m_p3_wt (j := 93) rfl
theorem m_w622 : Cond.methodLink "ShelfSlots$Pad" 31 ⟨"ShelfSlots$Grammar", "takes", "(C)Z"⟩ ∈ m_wt := m_p3_wt (j := 94) rfl
theorem m_w623 : Cond.instanceMethod ⟨"ShelfSlots$Grammar", "takes", "(C)Z"⟩ ∈ m_wt := m_p3_wt (j := 95) rfl
theorem m_w624 : Cond.selects "ShelfSlots$Grammar" ⟨"ShelfSlots$Grammar", "takes", "(C)Z"⟩ ⟨"ShelfSlots$Grammar", "takes", "(C)Z"⟩ ∈ m_wt := m_p3_wt (j := 96) rfl
theorem m_w625 : Cond.code ⟨"ShelfSlots$Grammar", "takes", "(C)Z"⟩ prog_4_method_5_code 2 (some .boolean) ∈ m_wt := m_p3_wt (j := 97) rfl
theorem m_w626 : Cond.methodLink "ShelfSlots$Grammar" 17 ⟨"ShelfSlots$Grammar", "takesLetter", "(C)Z"⟩ ∈ m_wt := m_p3_wt (j := 98) rfl
theorem m_w628 : Cond.instanceMethod ⟨"ShelfSlots$Grammar", "takesLetter", "(C)Z"⟩ ∈ m_wt := m_p3_wt (j := 99) rfl
theorem m_w629 : Cond.code ⟨"ShelfSlots$Grammar", "takesLetter", "(C)Z"⟩ prog_4_method_6_code 2 (some .boolean) ∈ m_wt := m_p3_wt (j := 100) rfl
theorem m_w630 : Cond.methodLink "ShelfSlots$Grammar" 21 ⟨"ShelfSlots$Grammar", "isDigit", "(C)Z"⟩ ∈ m_wt := m_p3_wt (j := 101) rfl
theorem m_w631 : Cond.static ⟨"ShelfSlots$Grammar", "isDigit", "(C)Z"⟩ ∈ m_wt := m_p3_wt (j := 102) rfl
theorem m_w632 : Cond.code ⟨"ShelfSlots$Grammar", "isDigit", "(C)Z"⟩ prog_4_method_2_code 1 (some .boolean) ∈ m_wt := m_p3_wt (j := 103) rfl
theorem m_w633 : Cond.methodLink "ShelfSlots$Grammar" 24 ⟨"ShelfSlots$Grammar", "takesMark", "(C)Z"⟩ ∈ m_wt := m_p3_wt (j := 104) rfl
theorem m_w635 : Cond.instanceMethod ⟨"ShelfSlots$Grammar", "takesMark", "(C)Z"⟩ ∈ m_wt := m_p3_wt (j := 105) rfl
theorem m_w636 : Cond.code ⟨"ShelfSlots$Grammar", "takesMark", "(C)Z"⟩ prog_4_method_7_code 2 (some .boolean) ∈ m_wt := m_p3_wt (j := 106) rfl
theorem m_w637 : Cond.methodLink "ShelfSlots$Pad" 35 ⟨"ShelfSlots$Grammar", "mayStop", "()Z"⟩ ∈ m_wt := m_p3_wt (j := 107) rfl
theorem m_w638 : Cond.instanceMethod ⟨"ShelfSlots$Grammar", "mayStop", "()Z"⟩ ∈ m_wt := m_p3_wt (j := 108) rfl
theorem m_w639 : Cond.selects "ShelfSlots$Grammar" ⟨"ShelfSlots$Grammar", "mayStop", "()Z"⟩ ⟨"ShelfSlots$Grammar", "mayStop", "()Z"⟩ ∈ m_wt := m_p3_wt (j := 109) rfl
theorem m_w640 : Cond.code ⟨"ShelfSlots$Grammar", "mayStop", "()Z"⟩ prog_4_method_4_code 1 (some .boolean) ∈ m_wt := m_p3_wt (j := 110) rfl
theorem m_w641 : Cond.methodLink "ShelfSlotsLaw" 109 ⟨"ShelfSlots", "carryOut", "()I"⟩ ∈ m_wt := m_p3_wt (j := 111) rfl
theorem m_w642 : Cond.instanceMethod ⟨"ShelfSlots", "carryOut", "()I"⟩ ∈ m_wt := m_p3_wt (j := 112) rfl
theorem m_w643 : Cond.selects "ShelfSlots" ⟨"ShelfSlots", "carryOut", "()I"⟩ ⟨"ShelfSlots", "carryOut", "()I"⟩ ∈ m_wt := m_p3_wt (j := 113) rfl
theorem m_w644 : Cond.code ⟨"ShelfSlots", "carryOut", "()I"⟩ prog_1_method_24_code 3 (some .int) ∈ m_wt := m_p3_wt (j := 114) rfl
theorem m_w645 : Cond.methodLink "ShelfSlots" 241 ⟨"ShelfSlots$Pad", "rewind", "()V"⟩ ∈ m_wt := m_p3_wt (j := 115) rfl
theorem m_w646 : Cond.instanceMethod ⟨"ShelfSlots$Pad", "rewind", "()V"⟩ ∈ m_wt := m_p3_wt (j := 116) rfl
theorem m_w647 : Cond.selects "ShelfSlots$Pad" ⟨"ShelfSlots$Pad", "rewind", "()V"⟩ ⟨"ShelfSlots$Pad", "rewind", "()V"⟩ ∈ m_wt := m_p3_wt (j := 117) rfl
theorem m_w648 : Cond.code ⟨"ShelfSlots$Pad", "rewind", "()V"⟩ prog_7_method_5_code 1 (none) ∈ m_wt := m_p3_wt (j := 118) rfl
theorem m_w649 : Cond.methodLink "ShelfSlots" 244 ⟨"ShelfSlots", "carryOutOrder", "()I"⟩ ∈ m_wt := m_p3_wt (j := 119) rfl
theorem m_w651 : Cond.instanceMethod ⟨"ShelfSlots", "carryOutOrder", "()I"⟩ ∈ m_wt := m_p3_wt (j := 120) rfl
theorem m_w652 : Cond.code ⟨"ShelfSlots", "carryOutOrder", "()I"⟩ prog_1_method_31_code 3 (some .int) ∈ m_wt := m_p3_wt (j := 121) rfl
theorem m_w653 : Cond.methodLink "ShelfSlots" 265 ⟨"ShelfSlots$Pad", "takeLetter", "()C"⟩ ∈ m_wt := m_p3_wt (j := 122) rfl
theorem m_w654 : Cond.instanceMethod ⟨"ShelfSlots$Pad", "takeLetter", "()C"⟩ ∈ m_wt := m_p3_wt (j := 123) rfl
theorem m_w655 : Cond.selects "ShelfSlots$Pad" ⟨"ShelfSlots$Pad", "takeLetter", "()C"⟩ ⟨"ShelfSlots$Pad", "takeLetter", "()C"⟩ ∈ m_wt := m_p3_wt (j := 124) rfl
theorem m_w656 : Cond.code ⟨"ShelfSlots$Pad", "takeLetter", "()C"⟩ prog_7_method_6_code 2 (some .char) ∈ m_wt := m_p3_wt (j := 125) rfl
theorem m_w657 : Cond.methodLink "ShelfSlots" 269 ⟨"ShelfSlots$Pad", "takeNumber", "()I"⟩ ∈ m_wt := m_p3_wt (j := 126) rfl
theorem m_w658 : Cond.instanceMethod ⟨"ShelfSlots$Pad", "takeNumber", "()I"⟩ ∈ m_wt := m_p3_wt (j := 127) rfl
theorem m_w659 : Cond.selects "ShelfSlots$Pad" ⟨"ShelfSlots$Pad", "takeNumber", "()I"⟩ ⟨"ShelfSlots$Pad", "takeNumber", "()I"⟩ ∈ m_wt := m_p3_wt (j := 128) rfl
theorem m_w660 : Cond.code ⟨"ShelfSlots$Pad", "takeNumber", "()I"⟩ prog_7_method_7_code 2 (some .int) ∈ m_wt := m_p3_wt (j := 129) rfl
theorem m_w661 : Cond.methodLink "ShelfSlots$Pad" 42 ⟨"ShelfSlots$Grammar", "isDigit", "(C)Z"⟩ ∈ m_wt := m_p3_wt (j := 130) rfl
theorem m_w662 : Cond.methodLink "ShelfSlots" 272 ⟨"ShelfSlots$Pad", "takeBasket", "()I"⟩ ∈ m_wt := m_p3_wt (j := 131) rfl
theorem m_w663 : Cond.instanceMethod ⟨"ShelfSlots$Pad", "takeBasket", "()I"⟩ ∈ m_wt := m_p3_wt (j := 132) rfl
theorem m_w664 : Cond.selects "ShelfSlots$Pad" ⟨"ShelfSlots$Pad", "takeBasket", "()I"⟩ ⟨"ShelfSlots$Pad", "takeBasket", "()I"⟩ ∈ m_wt := m_p3_wt (j := 133) rfl
theorem m_w665 : Cond.code ⟨"ShelfSlots$Pad", "takeBasket", "()I"⟩ prog_7_method_8_code 4 (some .int) ∈ m_wt := m_p3_wt (j := 134) rfl
theorem m_w666 : Cond.methodLink "ShelfSlots$Pad" 45 ⟨"ShelfSlots$Pad", "takeNumber", "()I"⟩ ∈ m_wt := m_p3_wt (j := 135) rfl
theorem m_w667 : Cond.methodLink "ShelfSlots$Pad" 49 ⟨"java/lang/Math", "min", "(II)I"⟩ ∈ m_wt := m_p3_wt (j := 136) rfl
theorem m_w668 : Cond.methodLink "ShelfSlots$Pad" 55 ⟨"ShelfSlots$Pad", "passes", "(C)Z"⟩ ∈ m_wt := m_p3_wt (j := 137) rfl
theorem m_w669 : Cond.instanceMethod ⟨"ShelfSlots$Pad", "passes", "(C)Z"⟩ ∈ m_wt := m_p3_wt (j := 138) rfl
theorem m_w670 : Cond.selects "ShelfSlots$Pad" ⟨"ShelfSlots$Pad", "passes", "(C)Z"⟩ ⟨"ShelfSlots$Pad", "passes", "(C)Z"⟩ ∈ m_wt := m_p3_wt (j := 139) rfl
theorem m_w671 : Cond.code ⟨"ShelfSlots$Pad", "passes", "(C)Z"⟩ prog_7_method_9_code 3 (some .boolean) ∈ m_wt := m_p3_wt (j := 140) rfl
theorem m_w672 : Cond.methodLink "ShelfSlots" 247 ⟨"ShelfSlots$Pad", "passes", "(C)Z"⟩ ∈ m_wt := m_p3_wt (j := 141) rfl
theorem m_w673 : Cond.methodLink "ShelfSlotsLaw" 113 ⟨"ShelfSlots", "undo", "()I"⟩ ∈ m_wt := m_p3_wt (j := 142) rfl
theorem m_w674 : Cond.instanceMethod ⟨"ShelfSlots", "undo", "()I"⟩ ∈ m_wt := m_p3_wt (j := 143) rfl
theorem m_w675 : Cond.selects "ShelfSlots" ⟨"ShelfSlots", "undo", "()I"⟩ ⟨"ShelfSlots", "undo", "()I"⟩ ∈ m_wt := m_p3_wt (j := 144) rfl
theorem m_w676 : Cond.code ⟨"ShelfSlots", "undo", "()I"⟩ prog_1_method_25_code 1 (some .int) ∈ m_wt := m_p3_wt (j := 145) rfl
theorem m_w677 : Cond.methodLink "ShelfSlots" 251 ⟨"ShelfSlots$History", "takeBack", "(LShelfSlots$Shed;)I"⟩ ∈ m_wt := m_p3_wt (j := 146) rfl
theorem m_w678 : Cond.instanceMethod ⟨"ShelfSlots$History", "takeBack", "(LShelfSlots$Shed;)I"⟩ ∈ m_wt := m_p3_wt (j := 147) rfl
theorem m_w679 : Cond.selects "ShelfSlots$History" ⟨"ShelfSlots$History", "takeBack", "(LShelfSlots$Shed;)I"⟩ ⟨"ShelfSlots$History", "takeBack", "(LShelfSlots$Shed;)I"⟩ ∈ m_wt := m_p3_wt (j := 148) rfl
theorem m_w680 : Cond.code ⟨"ShelfSlots$History", "takeBack", "(LShelfSlots$Shed;)I"⟩ prog_5_method_4_code 2 (some .int) ∈ m_wt := m_p3_wt (j := 149) rfl
theorem m_w681 : Cond.methodLink "ShelfSlotsLaw" 117 ⟨"ShelfSlots", "save", "(I)I"⟩ ∈ m_wt := m_p3_wt (j := 150) rfl
theorem m_w682 : Cond.instanceMethod ⟨"ShelfSlots", "save", "(I)I"⟩ ∈ m_wt := m_p3_wt (j := 151) rfl
theorem m_w683 : Cond.selects "ShelfSlots" ⟨"ShelfSlots", "save", "(I)I"⟩ ⟨"ShelfSlots", "save", "(I)I"⟩ ∈ m_wt := m_p3_wt (j := 152) rfl
theorem m_w684 : Cond.code ⟨"ShelfSlots", "save", "(I)I"⟩ prog_1_method_26_code 2 (some .int) ∈ m_wt := m_p3_wt (j := 153) rfl
theorem m_w685 : Cond.methodLink "ShelfSlotsLaw" 121 ⟨"ShelfSlots", "restore", "(I)I"⟩ ∈ m_wt := m_p3_wt (j := 154) rfl
theorem m_w686 : Cond.instanceMethod ⟨"ShelfSlots", "restore", "(I)I"⟩ ∈ m_wt := m_p3_wt (j := 155) rfl
theorem m_w687 : Cond.selects "ShelfSlots" ⟨"ShelfSlots", "restore", "(I)I"⟩ ⟨"ShelfSlots", "restore", "(I)I"⟩ ∈ m_wt := m_p3_wt (j := 156) rfl
theorem m_w688 : Cond.code ⟨"ShelfSlots", "restore", "(I)I"⟩ prog_1_method_27_code 2 (some .int) ∈ m_wt := m_p3_wt (j := 157) rfl
theorem m_w689 : Cond.classLink "ShelfSlotsLaw" 10 "ShelfSlotsModel" ∈ m_wt := m_p3_wt (j := 158) rfl
theorem m_w690 : Cond.instantiable "ShelfSlotsModel" 24 ∈ m_wt := m_p3_wt (j := 159) rfl
theorem m_w691 : Cond.methodLink "ShelfSlotsLaw" 12 ⟨"ShelfSlotsModel", "<init>", "()V"⟩ ∈ m_wt := m_p3_wt (j := 160) rfl
theorem m_w692 : Cond.instanceMethod ⟨"ShelfSlotsModel", "<init>", "()V"⟩ ∈ m_wt := m_p3_wt (j := 161) rfl
theorem m_w693 : Cond.code ⟨"ShelfSlotsModel", "<init>", "()V"⟩ prog_12_method_1_code 1 (none) ∈ m_wt := m_p3_wt (j := 162) rfl
theorem m_w694 : Cond.methodLink "ShelfSlotsModel" 1 ⟨"java/lang/Object", "<init>", "()V"⟩ ∈ m_wt := m_p3_wt (j := 163) rfl
theorem m_w695 : Cond.fieldLink "ShelfSlotsModel" 7 "ShelfSlotsModel" "s" "[I" ∈ m_wt := m_p3_wt (j := 164) rfl
theorem m_w696 : Cond.fieldLink "ShelfSlotsModel" 13 "ShelfSlotsModel" "speeds" "[F" ∈ m_wt := m_p3_wt (j := 165) rfl
theorem m_w697 : Cond.fieldLink "ShelfSlotsModel" 17 "ShelfSlotsModel" "aside" "[I" ∈ m_wt := m_p3_wt (j := 166) rfl
theorem m_w698 : Cond.fieldLink "ShelfSlotsModel" 20 "ShelfSlotsModel" "speedsAside" "[F" ∈ m_wt := m_p3_wt (j := 167) rfl
theorem m_w699 : Cond.fieldLink "ShelfSlotsModel" 23 "ShelfSlotsModel" "history" "[I" ∈ m_wt := m_p3_wt (j := 168) rfl
theorem m_w700 : Cond.fieldLink "ShelfSlotsModel" 26 "ShelfSlotsModel" "speedHistory" "[F" ∈ m_wt := m_p3_wt (j := 169) rfl
theorem m_w701 : Cond.fieldLink "ShelfSlotsModel" 54 "ShelfSlotsModel" "known" "I" ∈ m_wt := m_p3_wt (j := 170) rfl
theorem m_w702 : Cond.fieldLink "ShelfSlotsModel" 29 "ShelfSlotsModel" "slots" "[I" ∈ m_wt := m_p3_wt (j := 171) rfl
theorem m_w703 : Cond.fieldLink "ShelfSlotsModel" 32 "ShelfSlotsModel" "speedSlots" "[F" ∈ m_wt := m_p3_wt (j := 172) rfl
theorem m_w704 : Cond.fieldLink "ShelfSlotsModel" 243 "ShelfSlotsModel" "kept" "I" ∈ m_wt := m_p3_wt (j := 173) rfl
theorem m_w705 : Cond.fieldLink "ShelfSlotsModel" 35 "ShelfSlotsModel" "pad" "[I" ∈ m_wt := m_p3_wt (j := 174) rfl
theorem m_w706 : Cond.fieldLink "ShelfSlotsModel" 167 "ShelfSlotsModel" "length" "I" ∈ m_wt := m_p3_wt (j := 175) rfl
theorem m_w707 : Cond.fieldLink "ShelfSlotsModel" 38 "ShelfSlotsModel" "picks" "[I" ∈ m_wt := m_p3_wt (j := 176) rfl
theorem m_w708 : Cond.fieldLink "ShelfSlotsModel" 41 "ShelfSlotsModel" "ahead" "[I" ∈ m_wt := m_p3_wt (j := 177) rfl
theorem m_w709 : Cond.fieldLink "ShelfSlotsModel" 143 "ShelfSlotsModel" "pickMany" "I" ∈ m_wt := m_p3_wt (j := 178) rfl
theorem m_w710 : Cond.fieldLink "ShelfSlotsModel" 44 "ShelfSlotsModel" "ways" "[I" ∈ m_wt := m_p3_wt (j := 179) rfl
theorem m_w711 : Cond.fieldLink "ShelfSlotsModel" 47 "ShelfSlotsModel" "members" "[I" ∈ m_wt := m_p3_wt (j := 180) rfl
theorem m_w712 : Cond.fieldLink "ShelfSlotsModel" 199 "ShelfSlotsModel" "spot" "I" ∈ m_wt := m_p3_wt (j := 181) rfl
theorem m_w713 : Cond.fieldLink "ShelfSlotsModel" 195 "ShelfSlotsModel" "isFaulty" "Z" ∈ m_wt := m_p3_wt (j := 182) rfl
theorem m_w714 : Cond.fieldLink "ShelfSlotsModel" 215 "ShelfSlotsModel" "letter" "I" ∈ m_wt := m_p3_wt (j := 183) rfl
theorem m_w715 : Cond.fieldLink "ShelfSlotsModel" 221 "ShelfSlotsModel" "first" "I" ∈ m_wt := m_p3_wt (j := 184) rfl
theorem m_w716 : Cond.fieldLink "ShelfSlotsModel" 227 "ShelfSlotsModel" "second" "I" ∈ m_wt := m_p3_wt (j := 185) rfl
theorem m_w717 : Cond.fieldLink "ShelfSlotsModel" 212 "ShelfSlotsModel" "told" "I" ∈ m_wt := m_p3_wt (j := 186) rfl
theorem m_w718 : Cond.fieldLink "ShelfSlotsModel" 209 "ShelfSlotsModel" "isStrange" "Z" ∈ m_wt := m_p3_wt (j := 187) rfl
theorem m_w719 : Cond.laysFinal "ShelfSlotsModel" "ShelfSlotsModel" "s" "[I" ∈ m_wt := m_p3_wt (j := 188) rfl
theorem m_w721 : Cond.laysFinal "ShelfSlotsModel" "ShelfSlotsModel" "speeds" "[F" ∈ m_wt := m_p3_wt (j := 189) rfl
theorem m_w723 : Cond.laysFinal "ShelfSlotsModel" "ShelfSlotsModel" "aside" "[I" ∈ m_wt := m_p3_wt (j := 190) rfl
theorem m_w725 : Cond.laysFinal "ShelfSlotsModel" "ShelfSlotsModel" "speedsAside" "[F" ∈ m_wt := m_p3_wt (j := 191) rfl
theorem m_w727 : Cond.laysFinal "ShelfSlotsModel" "ShelfSlotsModel" "history" "[I" ∈ m_wt := m_p3_wt (j := 192) rfl
theorem m_w729 : Cond.laysFinal "ShelfSlotsModel" "ShelfSlotsModel" "speedHistory" "[F" ∈ m_wt := m_p3_wt (j := 193) rfl
theorem m_w731 : Cond.lays "ShelfSlotsModel" "ShelfSlotsModel" "known" "I" ∈ m_wt := m_p3_wt (j := 194) rfl
theorem m_w733 : Cond.laysFinal "ShelfSlotsModel" "ShelfSlotsModel" "slots" "[I" ∈ m_wt := m_p3_wt (j := 195) rfl
theorem m_w735 : Cond.laysFinal "ShelfSlotsModel" "ShelfSlotsModel" "speedSlots" "[F" ∈ m_wt := m_p3_wt (j := 196) rfl
theorem m_w737 : Cond.lays "ShelfSlotsModel" "ShelfSlotsModel" "kept" "I" ∈ m_wt := m_p3_wt (j := 197) rfl
theorem m_w739 : Cond.laysFinal "ShelfSlotsModel" "ShelfSlotsModel" "pad" "[I" ∈ m_wt := m_p3_wt (j := 198) rfl
theorem m_w741 : Cond.lays "ShelfSlotsModel" "ShelfSlotsModel" "length" "I" ∈ m_wt := m_p3_wt (j := 199) rfl
theorem m_w743 : Cond.laysFinal "ShelfSlotsModel" "ShelfSlotsModel" "picks" "[I" ∈ m_wt := m_p3_wt (j := 200) rfl
theorem m_w745 : Cond.laysFinal "ShelfSlotsModel" "ShelfSlotsModel" "ahead" "[I" ∈ m_wt := m_p3_wt (j := 201) rfl
theorem m_w747 : Cond.lays "ShelfSlotsModel" "ShelfSlotsModel" "pickMany" "I" ∈ m_wt := m_p3_wt (j := 202) rfl
theorem m_w749 : Cond.laysFinal "ShelfSlotsModel" "ShelfSlotsModel" "ways" "[I" ∈ m_wt := m_p3_wt (j := 203) rfl
theorem m_w751 : Cond.laysFinal "ShelfSlotsModel" "ShelfSlotsModel" "members" "[I" ∈ m_wt := m_p3_wt (j := 204) rfl
theorem m_w753 : Cond.lays "ShelfSlotsModel" "ShelfSlotsModel" "spot" "I" ∈ m_wt := m_p3_wt (j := 205) rfl
theorem m_w755 : Cond.lays "ShelfSlotsModel" "ShelfSlotsModel" "isFaulty" "Z" ∈ m_wt := m_p3_wt (j := 206) rfl
theorem m_w757 : Cond.lays "ShelfSlotsModel" "ShelfSlotsModel" "letter" "I" ∈ m_wt := m_p3_wt (j := 207) rfl
theorem m_w759 : Cond.lays "ShelfSlotsModel" "ShelfSlotsModel" "first" "I" ∈ m_wt := m_p3_wt (j := 208) rfl
theorem m_w761 : Cond.lays "ShelfSlotsModel" "ShelfSlotsModel" "second" "I" ∈ m_wt := m_p3_wt (j := 209) rfl
theorem m_w763 : Cond.lays "ShelfSlotsModel" "ShelfSlotsModel" "told" "I" ∈ m_wt := m_p3_wt (j := 210) rfl
theorem m_w765 : Cond.lays "ShelfSlotsModel" "ShelfSlotsModel" "isStrange" "Z" ∈ m_wt := m_p3_wt (j := 211) rfl
theorem m_w768 : Cond.methodLink "ShelfSlotsLaw" 17 ⟨"ShelfSlotsModel", "set", "(II)I"⟩ ∈ m_wt := m_p4_wt (j := 0) rfl
theorem m_w769 : Cond.instanceMethod ⟨"ShelfSlotsModel", "set", "(II)I"⟩ ∈ m_wt := m_p4_wt (j := 1) rfl
theorem m_w770 : Cond.selects "ShelfSlotsModel" ⟨"ShelfSlotsModel", "set", "(II)I"⟩ ⟨"ShelfSlotsModel", "set", "(II)I"⟩ ∈ m_wt := m_p4_wt (j := 2) rfl
theorem m_w771 : Cond.code ⟨"ShelfSlotsModel", "set", "(II)I"⟩ prog_12_method_28_code 4 (some .int) ∈ m_wt := m_p4_wt (j := 3) rfl
theorem m_w772 : Cond.methodLink "ShelfSlotsModel" 116 ⟨"ShelfSlotsModel", "putAside", "()V"⟩ ∈ m_wt := m_p4_wt (j := 4) rfl
theorem m_w774 : Cond.instanceMethod ⟨"ShelfSlotsModel", "putAside", "()V"⟩ ∈ m_wt := m_p4_wt (j := 5) rfl
theorem m_w775 : Cond.code ⟨"ShelfSlotsModel", "putAside", "()V"⟩ prog_12_method_6_code 2 (none) ∈ m_wt := m_p4_wt (j := 6) rfl
theorem m_w776 : Cond.methodLink "ShelfSlotsModel" 50 ⟨"ShelfSlotsModel", "in", "(III)Z"⟩ ∈ m_wt := m_p4_wt (j := 7) rfl
theorem m_w777 : Cond.static ⟨"ShelfSlotsModel", "in", "(III)Z"⟩ ∈ m_wt := m_p4_wt (j := 8) rfl
theorem m_w778 : Cond.code ⟨"ShelfSlotsModel", "in", "(III)Z"⟩ prog_12_method_2_code 3 (some .boolean) ∈ m_wt := m_p4_wt (j := 9) rfl
theorem m_w779 : Cond.methodLink "ShelfSlotsModel" 119 ⟨"ShelfSlotsModel", "least", "(I)I"⟩ ∈ m_wt := m_p4_wt (j := 10) rfl
theorem m_w780 : Cond.static ⟨"ShelfSlotsModel", "least", "(I)I"⟩ ∈ m_wt := m_p4_wt (j := 11) rfl
theorem m_w781 : Cond.code ⟨"ShelfSlotsModel", "least", "(I)I"⟩ prog_12_method_26_code 1 (some .int) ∈ m_wt := m_p4_wt (j := 12) rfl
theorem m_w782 : Cond.methodLink "ShelfSlotsModel" 122 ⟨"ShelfSlotsModel", "most", "(I)I"⟩ ∈ m_wt := m_p4_wt (j := 13) rfl
theorem m_w783 : Cond.static ⟨"ShelfSlotsModel", "most", "(I)I"⟩ ∈ m_wt := m_p4_wt (j := 14) rfl
theorem m_w784 : Cond.code ⟨"ShelfSlotsModel", "most", "(I)I"⟩ prog_12_method_27_code 1 (some .int) ∈ m_wt := m_p4_wt (j := 15) rfl
theorem m_w785 : Cond.methodLink "ShelfSlotsModel" 125 ⟨"ShelfSlotsModel", "changed", "(I)I"⟩ ∈ m_wt := m_p4_wt (j := 16) rfl
theorem m_w787 : Cond.instanceMethod ⟨"ShelfSlotsModel", "changed", "(I)I"⟩ ∈ m_wt := m_p4_wt (j := 17) rfl
theorem m_w788 : Cond.code ⟨"ShelfSlotsModel", "changed", "(I)I"⟩ prog_12_method_9_code 2 (some .int) ∈ m_wt := m_p4_wt (j := 18) rfl
theorem m_w789 : Cond.methodLink "ShelfSlotsModel" 58 ⟨"ShelfSlotsModel", "record", "()V"⟩ ∈ m_wt := m_p4_wt (j := 19) rfl
theorem m_w791 : Cond.instanceMethod ⟨"ShelfSlotsModel", "record", "()V"⟩ ∈ m_wt := m_p4_wt (j := 20) rfl
theorem m_w792 : Cond.code ⟨"ShelfSlotsModel", "record", "()V"⟩ prog_12_method_8_code 2 (none) ∈ m_wt := m_p4_wt (j := 21) rfl
theorem m_w793 : Cond.methodLink "ShelfSlotsLaw" 22 ⟨"ShelfSlotsModel", "good", "(I)I"⟩ ∈ m_wt := m_p4_wt (j := 22) rfl
theorem m_w794 : Cond.instanceMethod ⟨"ShelfSlotsModel", "good", "(I)I"⟩ ∈ m_wt := m_p4_wt (j := 23) rfl
theorem m_w795 : Cond.selects "ShelfSlotsModel" ⟨"ShelfSlotsModel", "good", "(I)I"⟩ ⟨"ShelfSlotsModel", "good", "(I)I"⟩ ∈ m_wt := m_p4_wt (j := 24) rfl
theorem m_w796 : Cond.code ⟨"ShelfSlotsModel", "good", "(I)I"⟩ prog_12_method_30_code 2 (some .int) ∈ m_wt := m_p4_wt (j := 25) rfl
theorem m_w797 : Cond.methodLink "ShelfSlotsModel" 128 ⟨"ShelfSlotsModel", "adds", "(I)I"⟩ ∈ m_wt := m_p4_wt (j := 26) rfl
theorem m_w799 : Cond.instanceMethod ⟨"ShelfSlotsModel", "adds", "(I)I"⟩ ∈ m_wt := m_p4_wt (j := 27) rfl
theorem m_w800 : Cond.code ⟨"ShelfSlotsModel", "adds", "(I)I"⟩ prog_12_method_29_code 3 (some .int) ∈ m_wt := m_p4_wt (j := 28) rfl
theorem m_w801 : Cond.methodLink "ShelfSlotsModel" 99 ⟨"ShelfSlotsModel", "isSlot", "(I)Z"⟩ ∈ m_wt := m_p4_wt (j := 29) rfl
theorem m_w802 : Cond.static ⟨"ShelfSlotsModel", "isSlot", "(I)Z"⟩ ∈ m_wt := m_p4_wt (j := 30) rfl
theorem m_w803 : Cond.code ⟨"ShelfSlotsModel", "isSlot", "(I)Z"⟩ prog_12_method_3_code 1 (some .boolean) ∈ m_wt := m_p4_wt (j := 31) rfl
theorem m_w804 : Cond.methodLink "ShelfSlotsModel" 81 ⟨"ShelfSlotsModel", "goodIn", "(I)I"⟩ ∈ m_wt := m_p4_wt (j := 32) rfl
theorem m_w806 : Cond.instanceMethod ⟨"ShelfSlotsModel", "goodIn", "(I)I"⟩ ∈ m_wt := m_p4_wt (j := 33) rfl
theorem m_w807 : Cond.code ⟨"ShelfSlotsModel", "goodIn", "(I)I"⟩ prog_12_method_18_code 4 (some .int) ∈ m_wt := m_p4_wt (j := 34) rfl
theorem m_w808 : Cond.methodLink "ShelfSlotsModel" 68 ⟨"ShelfSlotsModel", "slotOf", "(I)I"⟩ ∈ m_wt := m_p4_wt (j := 35) rfl
theorem m_w810 : Cond.instanceMethod ⟨"ShelfSlotsModel", "slotOf", "(I)I"⟩ ∈ m_wt := m_p4_wt (j := 36) rfl
theorem m_w811 : Cond.code ⟨"ShelfSlotsModel", "slotOf", "(I)I"⟩ prog_12_method_12_code 2 (some .int) ∈ m_wt := m_p4_wt (j := 37) rfl
theorem m_w812 : Cond.methodLink "ShelfSlotsModel" 65 ⟨"ShelfSlotsModel", "ofGood", "(II)I"⟩ ∈ m_wt := m_p4_wt (j := 38) rfl
theorem m_w813 : Cond.static ⟨"ShelfSlotsModel", "ofGood", "(II)I"⟩ ∈ m_wt := m_p4_wt (j := 39) rfl
theorem m_w814 : Cond.code ⟨"ShelfSlotsModel", "ofGood", "(II)I"⟩ prog_12_method_5_code 2 (some .int) ∈ m_wt := m_p4_wt (j := 40) rfl
theorem m_w815 : Cond.methodLink "ShelfSlotsLaw" 26 ⟨"ShelfSlotsModel", "swap", "(II)I"⟩ ∈ m_wt := m_p4_wt (j := 41) rfl
theorem m_w816 : Cond.instanceMethod ⟨"ShelfSlotsModel", "swap", "(II)I"⟩ ∈ m_wt := m_p4_wt (j := 42) rfl
theorem m_w817 : Cond.selects "ShelfSlotsModel" ⟨"ShelfSlotsModel", "swap", "(II)I"⟩ ⟨"ShelfSlotsModel", "swap", "(II)I"⟩ ∈ m_wt := m_p4_wt (j := 43) rfl
theorem m_w818 : Cond.code ⟨"ShelfSlotsModel", "swap", "(II)I"⟩ prog_12_method_31_code 3 (some .int) ∈ m_wt := m_p4_wt (j := 44) rfl
theorem m_w819 : Cond.methodLink "ShelfSlotsModel" 113 ⟨"ShelfSlotsModel", "swaps", "(II)I"⟩ ∈ m_wt := m_p4_wt (j := 45) rfl
theorem m_w821 : Cond.instanceMethod ⟨"ShelfSlotsModel", "swaps", "(II)I"⟩ ∈ m_wt := m_p4_wt (j := 46) rfl
theorem m_w822 : Cond.code ⟨"ShelfSlotsModel", "swaps", "(II)I"⟩ prog_12_method_23_code 4 (some .int) ∈ m_wt := m_p4_wt (j := 47) rfl
theorem m_w823 : Cond.methodLink "ShelfSlotsModel" 96 ⟨"ShelfSlotsModel", "exchanges", "(II)I"⟩ ∈ m_wt := m_p4_wt (j := 48) rfl
theorem m_w825 : Cond.instanceMethod ⟨"ShelfSlotsModel", "exchanges", "(II)I"⟩ ∈ m_wt := m_p4_wt (j := 49) rfl
theorem m_w826 : Cond.code ⟨"ShelfSlotsModel", "exchanges", "(II)I"⟩ prog_12_method_19_code 5 (some .int) ∈ m_wt := m_p4_wt (j := 50) rfl
theorem m_w827 : Cond.methodLink "ShelfSlotsModel" 102 ⟨"ShelfSlotsModel", "counts", "(I)V"⟩ ∈ m_wt := m_p4_wt (j := 51) rfl
theorem m_w829 : Cond.instanceMethod ⟨"ShelfSlotsModel", "counts", "(I)V"⟩ ∈ m_wt := m_p4_wt (j := 52) rfl
theorem m_w830 : Cond.code ⟨"ShelfSlotsModel", "counts", "(I)V"⟩ prog_12_method_22_code 3 (none) ∈ m_wt := m_p4_wt (j := 53) rfl
theorem m_w831 : Cond.methodLink "ShelfSlotsLaw" 30 ⟨"ShelfSlotsModel", "close", "(I)I"⟩ ∈ m_wt := m_p4_wt (j := 54) rfl
theorem m_w832 : Cond.instanceMethod ⟨"ShelfSlotsModel", "close", "(I)I"⟩ ∈ m_wt := m_p4_wt (j := 55) rfl
theorem m_w833 : Cond.selects "ShelfSlotsModel" ⟨"ShelfSlotsModel", "close", "(I)I"⟩ ⟨"ShelfSlotsModel", "close", "(I)I"⟩ ∈ m_wt := m_p4_wt (j := 56) rfl
theorem m_w834 : Cond.code ⟨"ShelfSlotsModel", "close", "(I)I"⟩ prog_12_method_33_code 2 (some .int) ∈ m_wt := m_p4_wt (j := 57) rfl
theorem m_w835 : Cond.methodLink "ShelfSlotsModel" 131 ⟨"ShelfSlotsModel", "closes", "(I)I"⟩ ∈ m_wt := m_p4_wt (j := 58) rfl
theorem m_w837 : Cond.instanceMethod ⟨"ShelfSlotsModel", "closes", "(I)I"⟩ ∈ m_wt := m_p4_wt (j := 59) rfl
theorem m_w838 : Cond.code ⟨"ShelfSlotsModel", "closes", "(I)I"⟩ prog_12_method_32_code 2 (some .int) ∈ m_wt := m_p4_wt (j := 60) rfl
theorem m_w839 : Cond.methodLink "ShelfSlotsLaw" 34 ⟨"ShelfSlotsModel", "pick", "(I)I"⟩ ∈ m_wt := m_p4_wt (j := 61) rfl
theorem m_w840 : Cond.instanceMethod ⟨"ShelfSlotsModel", "pick", "(I)I"⟩ ∈ m_wt := m_p4_wt (j := 62) rfl
theorem m_w841 : Cond.selects "ShelfSlotsModel" ⟨"ShelfSlotsModel", "pick", "(I)I"⟩ ⟨"ShelfSlotsModel", "pick", "(I)I"⟩ ∈ m_wt := m_p4_wt (j := 63) rfl
theorem m_w842 : Cond.code ⟨"ShelfSlotsModel", "pick", "(I)I"⟩ prog_12_method_37_code 2 (some .int) ∈ m_wt := m_p4_wt (j := 64) rfl
theorem m_w843 : Cond.methodLink "ShelfSlotsModel" 146 ⟨"ShelfSlotsModel", "picksOne", "(I)I"⟩ ∈ m_wt := m_p4_wt (j := 65) rfl
theorem m_w845 : Cond.instanceMethod ⟨"ShelfSlotsModel", "picksOne", "(I)I"⟩ ∈ m_wt := m_p4_wt (j := 66) rfl
theorem m_w846 : Cond.code ⟨"ShelfSlotsModel", "picksOne", "(I)I"⟩ prog_12_method_36_code 5 (some .int) ∈ m_wt := m_p4_wt (j := 67) rfl
theorem m_w847 : Cond.methodLink "ShelfSlotsModel" 137 ⟨"ShelfSlotsModel", "errorOf", "(I)I"⟩ ∈ m_wt := m_p4_wt (j := 68) rfl
theorem m_w849 : Cond.instanceMethod ⟨"ShelfSlotsModel", "errorOf", "(I)I"⟩ ∈ m_wt := m_p4_wt (j := 69) rfl
theorem m_w850 : Cond.code ⟨"ShelfSlotsModel", "errorOf", "(I)I"⟩ prog_12_method_34_code 2 (some .int) ∈ m_wt := m_p4_wt (j := 70) rfl
theorem m_w851 : Cond.methodLink "ShelfSlotsModel" 134 ⟨"ShelfSlotsModel", "ones", "(I)I"⟩ ∈ m_wt := m_p4_wt (j := 71) rfl
theorem m_w852 : Cond.static ⟨"ShelfSlotsModel", "ones", "(I)I"⟩ ∈ m_wt := m_p4_wt (j := 72) rfl
theorem m_w853 : Cond.code ⟨"ShelfSlotsModel", "ones", "(I)I"⟩ prog_12_method_13_code 3 (some .int) ∈ m_wt := m_p4_wt (j := 73) rfl
theorem m_w854 : Cond.methodLink "ShelfSlotsModel" 78 ⟨"ShelfSlotsModel", "walkOf", "(I)I"⟩ ∈ m_wt := m_p4_wt (j := 74) rfl
theorem m_w856 : Cond.instanceMethod ⟨"ShelfSlotsModel", "walkOf", "(I)I"⟩ ∈ m_wt := m_p4_wt (j := 75) rfl
theorem m_w857 : Cond.code ⟨"ShelfSlotsModel", "walkOf", "(I)I"⟩ prog_12_method_15_code 6 (some .int) ∈ m_wt := m_p4_wt (j := 76) rfl
theorem m_w858 : Cond.methodLink "ShelfSlotsModel" 75 ⟨"ShelfSlotsModel", "nearest", "(II)I"⟩ ∈ m_wt := m_p4_wt (j := 77) rfl
theorem m_w860 : Cond.instanceMethod ⟨"ShelfSlotsModel", "nearest", "(II)I"⟩ ∈ m_wt := m_p4_wt (j := 78) rfl
theorem m_w861 : Cond.code ⟨"ShelfSlotsModel", "nearest", "(II)I"⟩ prog_12_method_14_code 8 (some .int) ∈ m_wt := m_p4_wt (j := 79) rfl
theorem m_w862 : Cond.methodLink "ShelfSlotsModel" 72 ⟨"ShelfSlotsModel", "far", "(I)I"⟩ ∈ m_wt := m_p4_wt (j := 80) rfl
theorem m_w864 : Cond.instanceMethod ⟨"ShelfSlotsModel", "far", "(I)I"⟩ ∈ m_wt := m_p4_wt (j := 81) rfl
theorem m_w865 : Cond.code ⟨"ShelfSlotsModel", "far", "(I)I"⟩ prog_12_method_11_code 2 (some .int) ∈ m_wt := m_p4_wt (j := 82) rfl
theorem m_w866 : Cond.methodLink "ShelfSlotsModel" 61 ⟨"ShelfSlotsModel", "stepsOf", "(II)I"⟩ ∈ m_wt := m_p4_wt (j := 83) rfl
theorem m_w868 : Cond.instanceMethod ⟨"ShelfSlotsModel", "stepsOf", "(II)I"⟩ ∈ m_wt := m_p4_wt (j := 84) rfl
theorem m_w869 : Cond.code ⟨"ShelfSlotsModel", "stepsOf", "(II)I"⟩ prog_12_method_10_code 5 (some .int) ∈ m_wt := m_p4_wt (j := 85) rfl
theorem m_w870 : Cond.methodLink "ShelfSlotsModel" 140 ⟨"ShelfSlotsModel", "oftenOf", "(I)I"⟩ ∈ m_wt := m_p4_wt (j := 86) rfl
theorem m_w872 : Cond.instanceMethod ⟨"ShelfSlotsModel", "oftenOf", "(I)I"⟩ ∈ m_wt := m_p4_wt (j := 87) rfl
theorem m_w873 : Cond.code ⟨"ShelfSlotsModel", "oftenOf", "(I)I"⟩ prog_12_method_35_code 4 (some .int) ∈ m_wt := m_p4_wt (j := 88) rfl
theorem m_w874 : Cond.methodLink "ShelfSlotsLaw" 39 ⟨"ShelfSlotsModel", "night", "()I"⟩ ∈ m_wt := m_p4_wt (j := 89) rfl
theorem m_w875 : Cond.instanceMethod ⟨"ShelfSlotsModel", "night", "()I"⟩ ∈ m_wt := m_p4_wt (j := 90) rfl
theorem m_w876 : Cond.selects "ShelfSlotsModel" ⟨"ShelfSlotsModel", "night", "()I"⟩ ⟨"ShelfSlotsModel", "night", "()I"⟩ ∈ m_wt := m_p4_wt (j := 91) rfl
theorem m_w877 : Cond.code ⟨"ShelfSlotsModel", "night", "()I"⟩ prog_12_method_38_code 1 (some .int) ∈ m_wt := m_p4_wt (j := 92) rfl
theorem m_w878 : Cond.methodLink "ShelfSlotsModel" 149 ⟨"ShelfSlotsModel", "nights", "()I"⟩ ∈ m_wt := m_p4_wt (j := 93) rfl
theorem m_w880 : Cond.instanceMethod ⟨"ShelfSlotsModel", "nights", "()I"⟩ ∈ m_wt := m_p4_wt (j := 94) rfl
theorem m_w881 : Cond.code ⟨"ShelfSlotsModel", "nights", "()I"⟩ prog_12_method_25_code 4 (some .int) ∈ m_wt := m_p4_wt (j := 95) rfl
theorem m_w882 : Cond.methodLink "ShelfSlotsModel" 107 ⟨"ShelfSlotsModel", "forgets", "()V"⟩ ∈ m_wt := m_p4_wt (j := 96) rfl
theorem m_w884 : Cond.instanceMethod ⟨"ShelfSlotsModel", "forgets", "()V"⟩ ∈ m_wt := m_p4_wt (j := 97) rfl
theorem m_w885 : Cond.code ⟨"ShelfSlotsModel", "forgets", "()V"⟩ prog_12_method_24_code 3 (none) ∈ m_wt := m_p4_wt (j := 98) rfl
theorem m_w886 : Cond.constantFloat "ShelfSlotsModel" 106 1120403456 ∈ m_wt := m_p4_wt (j := 99) rfl
theorem m_w887 : Cond.methodLink "ShelfSlotsModel" 110 ⟨"ShelfSlotsModel", "best", "()I"⟩ ∈ m_wt := m_p4_wt (j := 100) rfl
theorem m_w889 : Cond.instanceMethod ⟨"ShelfSlotsModel", "best", "()I"⟩ ∈ m_wt := m_p4_wt (j := 101) rfl
theorem m_w890 : Cond.code ⟨"ShelfSlotsModel", "best", "()I"⟩ prog_12_method_21_code 10 (some .int) ∈ m_wt := m_p4_wt (j := 102) rfl
theorem m_w891 : Cond.methodLink "ShelfSlotsModel" 84 ⟨"ShelfSlotsModel", "walksNow", "()I"⟩ ∈ m_wt := m_p4_wt (j := 103) rfl
theorem m_w893 : Cond.instanceMethod ⟨"ShelfSlotsModel", "walksNow", "()I"⟩ ∈ m_wt := m_p4_wt (j := 104) rfl
theorem m_w894 : Cond.code ⟨"ShelfSlotsModel", "walksNow", "()I"⟩ prog_12_method_16_code 3 (some .int) ∈ m_wt := m_p4_wt (j := 105) rfl
theorem m_w895 : Cond.methodLink "ShelfSlotsModel" 88 ⟨"ShelfSlotsModel", "weight", "()F"⟩ ∈ m_wt := m_p4_wt (j := 106) rfl
theorem m_w897 : Cond.instanceMethod ⟨"ShelfSlotsModel", "weight", "()F"⟩ ∈ m_wt := m_p4_wt (j := 107) rfl
theorem m_w898 : Cond.code ⟨"ShelfSlotsModel", "weight", "()F"⟩ prog_12_method_17_code 3 (some .float) ∈ m_wt := m_p4_wt (j := 108) rfl
theorem m_w899 : Cond.methodLink "ShelfSlotsModel" 92 ⟨"ShelfSlotsModel", "isOpen", "(I)Z"⟩ ∈ m_wt := m_p4_wt (j := 109) rfl
theorem m_w901 : Cond.instanceMethod ⟨"ShelfSlotsModel", "isOpen", "(I)Z"⟩ ∈ m_wt := m_p4_wt (j := 110) rfl
theorem m_w902 : Cond.code ⟨"ShelfSlotsModel", "isOpen", "(I)Z"⟩ prog_12_method_20_code 2 (some .boolean) ∈ m_wt := m_p4_wt (j := 111) rfl
theorem m_w903 : Cond.methodLink "ShelfSlotsLaw" 43 ⟨"ShelfSlotsModel", "of", "(II)I"⟩ ∈ m_wt := m_p4_wt (j := 112) rfl
theorem m_w904 : Cond.instanceMethod ⟨"ShelfSlotsModel", "of", "(II)I"⟩ ∈ m_wt := m_p4_wt (j := 113) rfl
theorem m_w905 : Cond.selects "ShelfSlotsModel" ⟨"ShelfSlotsModel", "of", "(II)I"⟩ ⟨"ShelfSlotsModel", "of", "(II)I"⟩ ∈ m_wt := m_p4_wt (j := 114) rfl
theorem m_w906 : Cond.code ⟨"ShelfSlotsModel", "of", "(II)I"⟩ prog_12_method_40_code 3 (some .int) ∈ m_wt := m_p4_wt (j := 115) rfl
theorem m_w907 : Cond.methodLink "ShelfSlotsModel" 154 ⟨"ShelfSlotsModel", "isGood", "(I)Z"⟩ ∈ m_wt := m_p4_wt (j := 116) rfl
theorem m_w909 : Cond.instanceMethod ⟨"ShelfSlotsModel", "isGood", "(I)Z"⟩ ∈ m_wt := m_p4_wt (j := 117) rfl
theorem m_w910 : Cond.code ⟨"ShelfSlotsModel", "isGood", "(I)Z"⟩ prog_12_method_4_code 2 (some .boolean) ∈ m_wt := m_p4_wt (j := 118) rfl
theorem m_w911 : Cond.methodLink "ShelfSlotsModel" 157 ⟨"ShelfSlotsModel", "bitsOf", "(F)I"⟩ ∈ m_wt := m_p4_wt (j := 119) rfl
theorem m_w912 : Cond.static ⟨"ShelfSlotsModel", "bitsOf", "(F)I"⟩ ∈ m_wt := m_p4_wt (j := 120) rfl
theorem m_w913 : Cond.code ⟨"ShelfSlotsModel", "bitsOf", "(F)I"⟩ prog_12_method_39_code 3 (some .int) ∈ m_wt := m_p4_wt (j := 121) rfl
theorem m_w914 : Cond.constantFloat "ShelfSlotsModel" 152 1258291200 ∈ m_wt := m_p4_wt (j := 122) rfl
theorem m_w915 : Cond.constant "ShelfSlotsModel" 153 8388608 ∈ m_wt := m_p4_wt (j := 123) rfl
theorem m_w916 : Cond.methodLink "ShelfSlotsLaw" 47 ⟨"ShelfSlotsModel", "ofSlot", "(II)I"⟩ ∈ m_wt := m_p4_wt (j := 124) rfl
theorem m_w917 : Cond.instanceMethod ⟨"ShelfSlotsModel", "ofSlot", "(II)I"⟩ ∈ m_wt := m_p4_wt (j := 125) rfl
theorem m_w918 : Cond.selects "ShelfSlotsModel" ⟨"ShelfSlotsModel", "ofSlot", "(II)I"⟩ ⟨"ShelfSlotsModel", "ofSlot", "(II)I"⟩ ∈ m_wt := m_p4_wt (j := 126) rfl
theorem m_w919 : Cond.code ⟨"ShelfSlotsModel", "ofSlot", "(II)I"⟩ prog_12_method_41_code 3 (some .int) ∈ m_wt := m_p4_wt (j := 127) rfl
theorem m_w920 : Cond.methodLink "ShelfSlotsLaw" 51 ⟨"ShelfSlotsModel", "steps", "(II)I"⟩ ∈ m_wt := m_p4_wt (j := 128) rfl
theorem m_w921 : Cond.instanceMethod ⟨"ShelfSlotsModel", "steps", "(II)I"⟩ ∈ m_wt := m_p4_wt (j := 129) rfl
theorem m_w922 : Cond.selects "ShelfSlotsModel" ⟨"ShelfSlotsModel", "steps", "(II)I"⟩ ⟨"ShelfSlotsModel", "steps", "(II)I"⟩ ∈ m_wt := m_p4_wt (j := 130) rfl
theorem m_w923 : Cond.code ⟨"ShelfSlotsModel", "steps", "(II)I"⟩ prog_12_method_42_code 3 (some .int) ∈ m_wt := m_p4_wt (j := 131) rfl
theorem m_w924 : Cond.methodLink "ShelfSlotsLaw" 56 ⟨"ShelfSlotsModel", "basket", "(III)I"⟩ ∈ m_wt := m_p4_wt (j := 132) rfl
theorem m_w925 : Cond.instanceMethod ⟨"ShelfSlotsModel", "basket", "(III)I"⟩ ∈ m_wt := m_p4_wt (j := 133) rfl
theorem m_w926 : Cond.selects "ShelfSlotsModel" ⟨"ShelfSlotsModel", "basket", "(III)I"⟩ ⟨"ShelfSlotsModel", "basket", "(III)I"⟩ ∈ m_wt := m_p4_wt (j := 134) rfl
theorem m_w927 : Cond.code ⟨"ShelfSlotsModel", "basket", "(III)I"⟩ prog_12_method_43_code 5 (some .int) ∈ m_wt := m_p4_wt (j := 135) rfl
theorem m_w928 : Cond.methodLink "ShelfSlotsLaw" 60 ⟨"ShelfSlotsModel", "often", "(I)I"⟩ ∈ m_wt := m_p4_wt (j := 136) rfl
theorem m_w929 : Cond.instanceMethod ⟨"ShelfSlotsModel", "often", "(I)I"⟩ ∈ m_wt := m_p4_wt (j := 137) rfl
theorem m_w930 : Cond.selects "ShelfSlotsModel" ⟨"ShelfSlotsModel", "often", "(I)I"⟩ ⟨"ShelfSlotsModel", "often", "(I)I"⟩ ∈ m_wt := m_p4_wt (j := 138) rfl
theorem m_w931 : Cond.code ⟨"ShelfSlotsModel", "often", "(I)I"⟩ prog_12_method_44_code 3 (some .int) ∈ m_wt := m_p4_wt (j := 139) rfl
theorem m_w932 : Cond.methodLink "ShelfSlotsLaw" 64 ⟨"ShelfSlotsModel", "count", "(I)I"⟩ ∈ m_wt := m_p4_wt (j := 140) rfl
theorem m_w933 : Cond.instanceMethod ⟨"ShelfSlotsModel", "count", "(I)I"⟩ ∈ m_wt := m_p4_wt (j := 141) rfl
theorem m_w934 : Cond.selects "ShelfSlotsModel" ⟨"ShelfSlotsModel", "count", "(I)I"⟩ ⟨"ShelfSlotsModel", "count", "(I)I"⟩ ∈ m_wt := m_p4_wt (j := 142) rfl
theorem m_w935 : Cond.code ⟨"ShelfSlotsModel", "count", "(I)I"⟩ prog_12_method_47_code 2 (some .int) ∈ m_wt := m_p4_wt (j := 143) rfl
theorem m_w936 : Cond.methodLink "ShelfSlotsModel" 161 ⟨"ShelfSlotsModel", "sumOf", "(II)I"⟩ ∈ m_wt := m_p4_wt (j := 144) rfl
theorem m_w938 : Cond.instanceMethod ⟨"ShelfSlotsModel", "sumOf", "(II)I"⟩ ∈ m_wt := m_p4_wt (j := 145) rfl
theorem m_w939 : Cond.code ⟨"ShelfSlotsModel", "sumOf", "(II)I"⟩ prog_12_method_45_code 5 (some .int) ∈ m_wt := m_p4_wt (j := 146) rfl
theorem m_w940 : Cond.methodLink "ShelfSlotsModel" 164 ⟨"ShelfSlotsModel", "fastest", "()I"⟩ ∈ m_wt := m_p4_wt (j := 147) rfl
theorem m_w942 : Cond.instanceMethod ⟨"ShelfSlotsModel", "fastest", "()I"⟩ ∈ m_wt := m_p4_wt (j := 148) rfl
theorem m_w943 : Cond.code ⟨"ShelfSlotsModel", "fastest", "()I"⟩ prog_12_method_46_code 3 (some .int) ∈ m_wt := m_p4_wt (j := 149) rfl
theorem m_w944 : Cond.methodLink "ShelfSlotsLaw" 69 ⟨"ShelfSlotsModel", "meanSpeed", "()J"⟩ ∈ m_wt := m_p4_wt (j := 150) rfl
theorem m_w945 : Cond.instanceMethod ⟨"ShelfSlotsModel", "meanSpeed", "()J"⟩ ∈ m_wt := m_p4_wt (j := 151) rfl
theorem m_w946 : Cond.selects "ShelfSlotsModel" ⟨"ShelfSlotsModel", "meanSpeed", "()J"⟩ ⟨"ShelfSlotsModel", "meanSpeed", "()J"⟩ ∈ m_wt := m_p4_wt (j := 152) rfl
theorem m_w947 : Cond.code ⟨"ShelfSlotsModel", "meanSpeed", "()J"⟩ prog_12_method_49_code 4 (some .long) ∈ m_wt := m_p4_wt (j := 153) rfl
theorem m_w948 : Cond.methodLink "ShelfSlotsModel" 178 ⟨"ShelfSlotsModel", "longBitsOf", "(D)J"⟩ ∈ m_wt := m_p4_wt (j := 154) rfl
theorem m_w949 : Cond.static ⟨"ShelfSlotsModel", "longBitsOf", "(D)J"⟩ ∈ m_wt := m_p4_wt (j := 155) rfl
theorem m_w950 : Cond.code ⟨"ShelfSlotsModel", "longBitsOf", "(D)J"⟩ prog_12_method_48_code 6 (some .long) ∈ m_wt := m_p4_wt (j := 156) rfl
theorem m_w951 : Cond.constantLong "ShelfSlotsModel" 170 1023 ∈ m_wt := m_p4_wt (j := 157) rfl
theorem m_w952 : Cond.constantDouble "ShelfSlotsModel" 172 4611686018427387904 ∈ m_wt := m_p4_wt (j := 158) rfl
theorem m_w953 : Cond.constantLong "ShelfSlotsModel" 174 4503599627370496 ∈ m_wt := m_p4_wt (j := 159) rfl
theorem m_w954 : Cond.constantDouble "ShelfSlotsModel" 176 4841369599423283200 ∈ m_wt := m_p4_wt (j := 160) rfl
theorem m_w955 : Cond.methodLink "ShelfSlotsLaw" 73 ⟨"ShelfSlotsModel", "walk", "(I)I"⟩ ∈ m_wt := m_p4_wt (j := 161) rfl
theorem m_w956 : Cond.instanceMethod ⟨"ShelfSlotsModel", "walk", "(I)I"⟩ ∈ m_wt := m_p4_wt (j := 162) rfl
theorem m_w957 : Cond.selects "ShelfSlotsModel" ⟨"ShelfSlotsModel", "walk", "(I)I"⟩ ⟨"ShelfSlotsModel", "walk", "(I)I"⟩ ∈ m_wt := m_p4_wt (j := 163) rfl
theorem m_w958 : Cond.code ⟨"ShelfSlotsModel", "walk", "(I)I"⟩ prog_12_method_50_code 3 (some .int) ∈ m_wt := m_p4_wt (j := 164) rfl
theorem m_w959 : Cond.methodLink "ShelfSlotsLaw" 77 ⟨"ShelfSlotsModel", "stop", "(II)I"⟩ ∈ m_wt := m_p4_wt (j := 165) rfl
theorem m_w960 : Cond.instanceMethod ⟨"ShelfSlotsModel", "stop", "(II)I"⟩ ∈ m_wt := m_p4_wt (j := 166) rfl
theorem m_w961 : Cond.selects "ShelfSlotsModel" ⟨"ShelfSlotsModel", "stop", "(II)I"⟩ ⟨"ShelfSlotsModel", "stop", "(II)I"⟩ ∈ m_wt := m_p4_wt (j := 167) rfl
theorem m_w962 : Cond.code ⟨"ShelfSlotsModel", "stop", "(II)I"⟩ prog_12_method_51_code 7 (some .int) ∈ m_wt := m_p4_wt (j := 168) rfl
theorem m_w963 : Cond.methodLink "ShelfSlotsLaw" 81 ⟨"ShelfSlotsModel", "shortest", "(I)I"⟩ ∈ m_wt := m_p4_wt (j := 169) rfl
theorem m_w964 : Cond.instanceMethod ⟨"ShelfSlotsModel", "shortest", "(I)I"⟩ ∈ m_wt := m_p4_wt (j := 170) rfl
theorem m_w965 : Cond.selects "ShelfSlotsModel" ⟨"ShelfSlotsModel", "shortest", "(I)I"⟩ ⟨"ShelfSlotsModel", "shortest", "(I)I"⟩ ∈ m_wt := m_p4_wt (j := 171) rfl
theorem m_w966 : Cond.code ⟨"ShelfSlotsModel", "shortest", "(I)I"⟩ prog_12_method_54_code 3 (some .int) ∈ m_wt := m_p4_wt (j := 172) rfl
theorem m_w967 : Cond.methodLink "ShelfSlotsModel" 187 ⟨"ShelfSlotsModel", "shortestOf", "(I)I"⟩ ∈ m_wt := m_p4_wt (j := 173) rfl
theorem m_w969 : Cond.instanceMethod ⟨"ShelfSlotsModel", "shortestOf", "(I)I"⟩ ∈ m_wt := m_p4_wt (j := 174) rfl
theorem m_w970 : Cond.code ⟨"ShelfSlotsModel", "shortestOf", "(I)I"⟩ prog_12_method_52_code 7 (some .int) ∈ m_wt := m_p4_wt (j := 175) rfl
theorem m_w971 : Cond.methodLink "ShelfSlotsModel" 182 ⟨"ShelfSlotsModel", "wayTo", "(III)I"⟩ ∈ m_wt := m_p4_wt (j := 176) rfl
theorem m_w973 : Cond.instanceMethod ⟨"ShelfSlotsModel", "wayTo", "(III)I"⟩ ∈ m_wt := m_p4_wt (j := 177) rfl
theorem m_w974 : Cond.code ⟨"ShelfSlotsModel", "wayTo", "(III)I"⟩ prog_12_method_53_code 9 (some .int) ∈ m_wt := m_p4_wt (j := 178) rfl
theorem m_w975 : Cond.constant "ShelfSlotsModel" 186 1000000 ∈ m_wt := m_p4_wt (j := 179) rfl
theorem m_w976 : Cond.methodLink "ShelfSlotsLaw" 85 ⟨"ShelfSlotsModel", "bestSwap", "(I)I"⟩ ∈ m_wt := m_p4_wt (j := 180) rfl
theorem m_w977 : Cond.instanceMethod ⟨"ShelfSlotsModel", "bestSwap", "(I)I"⟩ ∈ m_wt := m_p4_wt (j := 181) rfl
theorem m_w978 : Cond.selects "ShelfSlotsModel" ⟨"ShelfSlotsModel", "bestSwap", "(I)I"⟩ ⟨"ShelfSlotsModel", "bestSwap", "(I)I"⟩ ∈ m_wt := m_p4_wt (j := 182) rfl
theorem m_w979 : Cond.code ⟨"ShelfSlotsModel", "bestSwap", "(I)I"⟩ prog_12_method_55_code 3 (some .int) ∈ m_wt := m_p4_wt (j := 183) rfl
theorem m_w980 : Cond.methodLink "ShelfSlotsModel" 190 ⟨"ShelfSlotsModel", "putBack", "()V"⟩ ∈ m_wt := m_p4_wt (j := 184) rfl
theorem m_w982 : Cond.instanceMethod ⟨"ShelfSlotsModel", "putBack", "()V"⟩ ∈ m_wt := m_p4_wt (j := 185) rfl
theorem m_w983 : Cond.code ⟨"ShelfSlotsModel", "putBack", "()V"⟩ prog_12_method_7_code 2 (none) ∈ m_wt := m_p4_wt (j := 186) rfl
theorem m_w984 : Cond.methodLink "ShelfSlotsLaw" 89 ⟨"ShelfSlotsModel", "ifSwapped", "(II)I"⟩ ∈ m_wt := m_p4_wt (j := 187) rfl
theorem m_w985 : Cond.instanceMethod ⟨"ShelfSlotsModel", "ifSwapped", "(II)I"⟩ ∈ m_wt := m_p4_wt (j := 188) rfl
theorem m_w986 : Cond.selects "ShelfSlotsModel" ⟨"ShelfSlotsModel", "ifSwapped", "(II)I"⟩ ⟨"ShelfSlotsModel", "ifSwapped", "(II)I"⟩ ∈ m_wt := m_p4_wt (j := 189) rfl
theorem m_w987 : Cond.code ⟨"ShelfSlotsModel", "ifSwapped", "(II)I"⟩ prog_12_method_56_code 5 (some .int) ∈ m_wt := m_p4_wt (j := 190) rfl
theorem m_w988 : Cond.methodLink "ShelfSlotsLaw" 93 ⟨"ShelfSlotsModel", "badly", "()I"⟩ ∈ m_wt := m_p4_wt (j := 191) rfl
theorem m_w989 : Cond.instanceMethod ⟨"ShelfSlotsModel", "badly", "()I"⟩ ∈ m_wt := m_p4_wt (j := 192) rfl
theorem m_w990 : Cond.selects "ShelfSlotsModel" ⟨"ShelfSlotsModel", "badly", "()I"⟩ ⟨"ShelfSlotsModel", "badly", "()I"⟩ ∈ m_wt := m_p4_wt (j := 193) rfl
theorem m_w991 : Cond.code ⟨"ShelfSlotsModel", "badly", "()I"⟩ prog_12_method_57_code 5 (some .int) ∈ m_wt := m_p4_wt (j := 194) rfl
theorem m_w992 : Cond.methodLink "ShelfSlotsLaw" 100 ⟨"ShelfSlotsModel", "put", "(J)I"⟩ ∈ m_wt := m_p4_wt (j := 195) rfl
theorem m_w993 : Cond.instanceMethod ⟨"ShelfSlotsModel", "put", "(J)I"⟩ ∈ m_wt := m_p4_wt (j := 196) rfl
theorem m_w994 : Cond.selects "ShelfSlotsModel" ⟨"ShelfSlotsModel", "put", "(J)I"⟩ ⟨"ShelfSlotsModel", "put", "(J)I"⟩ ∈ m_wt := m_p4_wt (j := 197) rfl
theorem m_w995 : Cond.code ⟨"ShelfSlotsModel", "put", "(J)I"⟩ prog_12_method_58_code 8 (some .int) ∈ m_wt := m_p4_wt (j := 198) rfl
theorem m_w996 : Cond.constantLong "ShelfSlotsModel" 193 255 ∈ m_wt := m_p4_wt (j := 199) rfl
theorem m_w997 : Cond.methodLink "ShelfSlotsLaw" 104 ⟨"ShelfSlotsModel", "wipe", "()I"⟩ ∈ m_wt := m_p4_wt (j := 200) rfl
theorem m_w998 : Cond.instanceMethod ⟨"ShelfSlotsModel", "wipe", "()I"⟩ ∈ m_wt := m_p4_wt (j := 201) rfl
theorem m_w999 : Cond.selects "ShelfSlotsModel" ⟨"ShelfSlotsModel", "wipe", "()I"⟩ ⟨"ShelfSlotsModel", "wipe", "()I"⟩ ∈ m_wt := m_p4_wt (j := 202) rfl
theorem m_w1000 : Cond.code ⟨"ShelfSlotsModel", "wipe", "()I"⟩ prog_12_method_59_code 2 (some .int) ∈ m_wt := m_p4_wt (j := 203) rfl
theorem m_w1001 : Cond.methodLink "ShelfSlotsLaw" 108 ⟨"ShelfSlotsModel", "fault", "()I"⟩ ∈ m_wt := m_p4_wt (j := 204) rfl
theorem m_w1002 : Cond.instanceMethod ⟨"ShelfSlotsModel", "fault", "()I"⟩ ∈ m_wt := m_p4_wt (j := 205) rfl
theorem m_w1003 : Cond.selects "ShelfSlotsModel" ⟨"ShelfSlotsModel", "fault", "()I"⟩ ⟨"ShelfSlotsModel", "fault", "()I"⟩ ∈ m_wt := m_p4_wt (j := 206) rfl
theorem m_w1004 : Cond.code ⟨"ShelfSlotsModel", "fault", "()I"⟩ prog_12_method_67_code 2 (some .int) ∈ m_wt := m_p4_wt (j := 207) rfl
theorem m_w1005 : Cond.methodLink "ShelfSlotsModel" 236 ⟨"ShelfSlotsModel", "goesThrough", "(Z)I"⟩ ∈ m_wt := m_p4_wt (j := 208) rfl
theorem m_w1007 : Cond.instanceMethod ⟨"ShelfSlotsModel", "goesThrough", "(Z)I"⟩ ∈ m_wt := m_p5_wt (j := 0) rfl
theorem m_w1008 : Cond.code ⟨"ShelfSlotsModel", "goesThrough", "(Z)I"⟩ prog_12_method_66_code 4 (some .int) ∈ m_wt := m_p5_wt (j := 1) rfl
theorem m_w1009 : Cond.methodLink "ShelfSlotsModel" 230 ⟨"ShelfSlotsModel", "readOrder", "()V"⟩ ∈ m_wt := m_p5_wt (j := 2) rfl
theorem m_w1011 : Cond.instanceMethod ⟨"ShelfSlotsModel", "readOrder", "()V"⟩ ∈ m_wt := m_p5_wt (j := 3) rfl
theorem m_w1012 : Cond.code ⟨"ShelfSlotsModel", "readOrder", "()V"⟩ prog_12_method_64_code 1 (none) ∈ m_wt := m_p5_wt (j := 4) rfl
theorem m_w1013 : Cond.methodLink "ShelfSlotsModel" 218 ⟨"ShelfSlotsModel", "readGood", "()V"⟩ ∈ m_wt := m_p5_wt (j := 5) rfl
theorem m_w1015 : Cond.instanceMethod ⟨"ShelfSlotsModel", "readGood", "()V"⟩ ∈ m_wt := m_p5_wt (j := 6) rfl
theorem m_w1016 : Cond.code ⟨"ShelfSlotsModel", "readGood", "()V"⟩ prog_12_method_63_code 2 (none) ∈ m_wt := m_p5_wt (j := 7) rfl
theorem m_w1017 : Cond.methodLink "ShelfSlotsModel" 206 ⟨"ShelfSlotsModel", "number", "()I"⟩ ∈ m_wt := m_p5_wt (j := 8) rfl
theorem m_w1019 : Cond.instanceMethod ⟨"ShelfSlotsModel", "number", "()I"⟩ ∈ m_wt := m_p5_wt (j := 9) rfl
theorem m_w1020 : Cond.code ⟨"ShelfSlotsModel", "number", "()I"⟩ prog_12_method_62_code 2 (some .int) ∈ m_wt := m_p5_wt (j := 10) rfl
theorem m_w1021 : Cond.methodLink "ShelfSlotsModel" 202 ⟨"ShelfSlotsModel", "isNext", "(II)Z"⟩ ∈ m_wt := m_p5_wt (j := 11) rfl
theorem m_w1023 : Cond.instanceMethod ⟨"ShelfSlotsModel", "isNext", "(II)Z"⟩ ∈ m_wt := m_p5_wt (j := 12) rfl
theorem m_w1024 : Cond.code ⟨"ShelfSlotsModel", "isNext", "(II)Z"⟩ prog_12_method_60_code 3 (some .boolean) ∈ m_wt := m_p5_wt (j := 13) rfl
theorem m_w1025 : Cond.methodLink "ShelfSlotsModel" 224 ⟨"ShelfSlotsModel", "takes", "(I)V"⟩ ∈ m_wt := m_p5_wt (j := 14) rfl
theorem m_w1027 : Cond.instanceMethod ⟨"ShelfSlotsModel", "takes", "(I)V"⟩ ∈ m_wt := m_p5_wt (j := 15) rfl
theorem m_w1028 : Cond.code ⟨"ShelfSlotsModel", "takes", "(I)V"⟩ prog_12_method_61_code 3 (none) ∈ m_wt := m_p5_wt (j := 16) rfl
theorem m_w1029 : Cond.methodLink "ShelfSlotsModel" 233 ⟨"ShelfSlotsModel", "does", "()I"⟩ ∈ m_wt := m_p5_wt (j := 17) rfl
theorem m_w1031 : Cond.instanceMethod ⟨"ShelfSlotsModel", "does", "()I"⟩ ∈ m_wt := m_p5_wt (j := 18) rfl
theorem m_w1032 : Cond.code ⟨"ShelfSlotsModel", "does", "()I"⟩ prog_12_method_65_code 1 (some .int) ∈ m_wt := m_p5_wt (j := 19) rfl
theorem m_w1033 : Cond.methodLink "ShelfSlotsLaw" 112 ⟨"ShelfSlotsModel", "carryOut", "()I"⟩ ∈ m_wt := m_p5_wt (j := 20) rfl
theorem m_w1034 : Cond.instanceMethod ⟨"ShelfSlotsModel", "carryOut", "()I"⟩ ∈ m_wt := m_p5_wt (j := 21) rfl
theorem m_w1035 : Cond.selects "ShelfSlotsModel" ⟨"ShelfSlotsModel", "carryOut", "()I"⟩ ⟨"ShelfSlotsModel", "carryOut", "()I"⟩ ∈ m_wt := m_p5_wt (j := 22) rfl
theorem m_w1036 : Cond.code ⟨"ShelfSlotsModel", "carryOut", "()I"⟩ prog_12_method_68_code 2 (some .int) ∈ m_wt := m_p5_wt (j := 23) rfl
theorem m_w1037 : Cond.methodLink "ShelfSlotsModel" 240 ⟨"ShelfSlotsModel", "fault", "()I"⟩ ∈ m_wt := m_p5_wt (j := 24) rfl
theorem m_w1038 : Cond.methodLink "ShelfSlotsLaw" 116 ⟨"ShelfSlotsModel", "undo", "()I"⟩ ∈ m_wt := m_p5_wt (j := 25) rfl
theorem m_w1039 : Cond.instanceMethod ⟨"ShelfSlotsModel", "undo", "()I"⟩ ∈ m_wt := m_p5_wt (j := 26) rfl
theorem m_w1040 : Cond.selects "ShelfSlotsModel" ⟨"ShelfSlotsModel", "undo", "()I"⟩ ⟨"ShelfSlotsModel", "undo", "()I"⟩ ∈ m_wt := m_p5_wt (j := 27) rfl
theorem m_w1041 : Cond.code ⟨"ShelfSlotsModel", "undo", "()I"⟩ prog_12_method_69_code 2 (some .int) ∈ m_wt := m_p5_wt (j := 28) rfl
theorem m_w1042 : Cond.methodLink "ShelfSlotsLaw" 120 ⟨"ShelfSlotsModel", "save", "(I)I"⟩ ∈ m_wt := m_p5_wt (j := 29) rfl
theorem m_w1043 : Cond.instanceMethod ⟨"ShelfSlotsModel", "save", "(I)I"⟩ ∈ m_wt := m_p5_wt (j := 30) rfl
theorem m_w1044 : Cond.selects "ShelfSlotsModel" ⟨"ShelfSlotsModel", "save", "(I)I"⟩ ⟨"ShelfSlotsModel", "save", "(I)I"⟩ ∈ m_wt := m_p5_wt (j := 31) rfl
theorem m_w1045 : Cond.code ⟨"ShelfSlotsModel", "save", "(I)I"⟩ prog_12_method_70_code 3 (some .int) ∈ m_wt := m_p5_wt (j := 32) rfl
theorem m_w1046 : Cond.methodLink "ShelfSlotsLaw" 124 ⟨"ShelfSlotsModel", "restore", "(I)I"⟩ ∈ m_wt := m_p5_wt (j := 33) rfl
theorem m_w1047 : Cond.instanceMethod ⟨"ShelfSlotsModel", "restore", "(I)I"⟩ ∈ m_wt := m_p5_wt (j := 34) rfl
theorem m_w1048 : Cond.selects "ShelfSlotsModel" ⟨"ShelfSlotsModel", "restore", "(I)I"⟩ ⟨"ShelfSlotsModel", "restore", "(I)I"⟩ ∈ m_wt := m_p5_wt (j := 35) rfl
theorem m_w1049 : Cond.code ⟨"ShelfSlotsModel", "restore", "(I)I"⟩ prog_12_method_71_code 3 (some .int) ∈ m_wt := m_p5_wt (j := 36) rfl
theorem m_w1050 : Cond.constantLong "ShelfSlotsLaw" 94 4294967295 ∈ m_wt := m_p5_wt (j := 37) rfl
def m_cl : List (String × u_T × Nat × (Nat → FieldType)) := [(RX1, TX1, 3, tyX1), (RX2, TX2, 3, tyX2), (RX3, TX3, 3, tyX3), (RX4, TX4, 3, tyX4), (RX5, TX5, 4, tyX5), (RX6, TX6, 4, tyX6), (RX7, TX7, 16, tyX7), (RX8, TX8, 2, tyX8), (RX9, TX9, 8, tyX9), (RX10, TX10, 24, tyX10)]
def m_ow : List String := ["ShelfSlots$Day", "ShelfSlots$Grammar", "ShelfSlots$History", "ShelfSlots$Mover", "ShelfSlots$Pad", "ShelfSlots$Picked", "ShelfSlots$Shed", "ShelfSlots$Walker", "ShelfSlots", "ShelfSlotsModel", "java/lang/Integer", "ShelfSlots$Bits", "ShelfSlotsLaw"]
/-- fields: place in the pool, class, number, kind (0 int, 1 boolean, 2 char, 3 reference), final -/
def m_fl : List (List (Nat × Nat × Nat × Nat × Bool)) := [[(9, 0, 0, 3, true), (15, 0, 1, 3, true), (24, 0, 2, 0, false)],
  [(9, 1, 0, 0, false), (27, 1, 1, 2, false), (13, 1, 2, 1, false)],
  [(13, 2, 0, 3, true), (18, 2, 1, 0, false), (26, 2, 2, 0, false)],
  [(24, 6, 0, 3, true), (15, 6, 13, 0, false), (42, 6, 15, 0, false), (9, 3, 0, 3, true), (32, 3, 1, 0, false), (35, 3, 2, 0, false)],
  [(9, 4, 0, 3, true), (18, 4, 1, 3, true), (39, 4, 2, 0, false), (24, 4, 3, 0, false)],
  [(7, 5, 0, 0, true), (13, 5, 1, 0, true), (16, 5, 2, 0, true), (19, 5, 3, 3, true)],
  [(130, 0, 2, 0, false), (9, 6, 0, 3, true), (15, 6, 1, 3, true), (18, 6, 2, 3, true), (21, 6, 3, 3, true), (25, 6, 4, 3, true), (28, 6, 5, 3, true), (31, 6, 6, 3, true), (37, 6, 7, 3, true), (41, 6, 8, 3, true), (54, 6, 9, 3, false), (58, 6, 10, 0, false), (62, 6, 11, 0, false), (65, 6, 12, 0, false), (68, 6, 13, 0, false), (71, 6, 14, 0, false), (74, 6, 15, 0, false), (117, 5, 0, 0, true), (120, 5, 1, 0, true), (126, 5, 2, 0, true), (123, 5, 3, 3, true)],
  [(48, 0, 0, 3, true), (45, 0, 2, 0, false), (58, 6, 0, 3, true), (24, 6, 1, 3, true), (41, 6, 7, 3, true), (9, 7, 0, 3, true), (19, 7, 1, 0, false)],
  [(140, 0, 0, 3, true), (143, 0, 1, 3, true), (135, 0, 2, 0, false), (182, 6, 0, 3, true), (89, 6, 1, 3, true), (119, 6, 2, 3, true), (93, 6, 3, 3, true), (103, 6, 4, 3, true), (106, 6, 5, 3, true), (112, 6, 6, 3, true), (128, 6, 7, 3, true), (132, 6, 8, 3, true), (85, 6, 11, 0, false), (173, 6, 12, 0, false), (156, 6, 13, 0, false), (163, 6, 14, 0, false), (166, 6, 15, 0, false), (215, 3, 1, 0, false), (218, 3, 2, 0, false), (185, 4, 3, 0, false), (188, 2, 2, 0, false), (10, 8, 0, 3, true), (16, 8, 1, 3, true), (22, 8, 2, 3, true), (31, 8, 3, 3, true), (38, 8, 4, 3, true), (45, 8, 5, 3, true), (49, 8, 6, 3, true), (53, 8, 7, 3, true)],
  [(7, 9, 0, 3, true), (13, 9, 1, 3, true), (17, 9, 2, 3, true), (20, 9, 3, 3, true), (23, 9, 4, 3, true), (26, 9, 5, 3, true), (54, 9, 6, 0, false), (29, 9, 7, 3, true), (32, 9, 8, 3, true), (243, 9, 9, 0, false), (35, 9, 10, 3, true), (167, 9, 11, 0, false), (38, 9, 12, 3, true), (41, 9, 13, 3, true), (143, 9, 14, 0, false), (44, 9, 15, 3, true), (47, 9, 16, 3, true), (199, 9, 17, 0, false), (195, 9, 18, 1, false), (215, 9, 19, 0, false), (221, 9, 20, 0, false), (227, 9, 21, 0, false), (212, 9, 22, 0, false), (209, 9, 23, 1, false)],
  [],
  [],
  []]
/-- calls: place in the pool, kind (0 virtual, 1 static, 2 init, 3 init of a nest mate, 4 of Object, 5 arraycopy, 6 max, 7 min), method, arguments, class or link -/
def m_mt : List (List (Nat × Nat × Nat × Nat × Nat)) := [[(3, 4, 0, 0, 0), (18, 5, 0, 0, 0)],
  [(1, 4, 0, 0, 0), (17, 0, 81, 1, 1), (21, 1, 82, 1, 0), (24, 0, 83, 1, 1)],
  [(3, 4, 0, 0, 0), (17, 2, 1, 0, 0), (22, 0, 10, 1, 6), (29, 7, 0, 0, 0)],
  [(3, 4, 0, 0, 0), (21, 0, 43, 0, 6), (28, 0, 44, 1, 3), (48, 0, 45, 0, 6), (52, 0, 46, 1, 7), (58, 0, 47, 2, 6), (62, 0, 21, 2, 6), (38, 0, 20, 2, 6), (45, 0, 48, 0, 6)],
  [(3, 4, 0, 0, 0), (17, 3, 6, 0, 3), (28, 0, 79, 0, 1), (31, 0, 80, 1, 1), (35, 0, 84, 0, 1), (42, 1, 82, 1, 0), (45, 0, 89, 0, 4), (49, 7, 0, 0, 0), (55, 0, 91, 1, 4)],
  [(1, 4, 0, 0, 0)],
  [(3, 4, 0, 0, 0), (36, 3, 2, 0, 0), (44, 5, 0, 0, 0), (50, 0, 11, 1, 0), (77, 1, 17, 1, 0), (81, 0, 20, 2, 6), (88, 0, 21, 2, 6), (96, 0, 22, 2, 6), (92, 0, 23, 1, 6), (85, 0, 26, 1, 6), (104, 0, 37, 1, 6), (107, 0, 38, 0, 6), (111, 2, 39, 4, 0), (114, 0, 40, 2, 0), (99, 0, 35, 1, 6)],
  [(3, 4, 0, 0, 0), (15, 0, 32, 1, 7), (29, 0, 33, 2, 6), (33, 0, 34, 2, 7), (37, 0, 35, 1, 6), (51, 0, 31, 2, 7), (55, 0, 68, 2, 7), (61, 6, 0, 0, 0)],
  [(1, 4, 0, 0, 0), (9, 2, 1, 0, 0), (21, 3, 3, 0, 1), (28, 2, 4, 1, 0), (37, 3, 5, 0, 2), (44, 2, 7, 0, 0), (57, 0, 9, 1, 2), (61, 0, 12, 2, 6), (65, 0, 13, 1, 8), (254, 0, 14, 0, 2), (69, 0, 16, 1, 6), (72, 0, 19, 2, 6), (75, 0, 25, 1, 6), (78, 0, 28, 1, 8), (150, 0, 29, 1, 8), (257, 1, 30, 1, 0), (146, 0, 31, 2, 7), (262, 0, 36, 2, 6), (81, 0, 42, 1, 3), (97, 1, 50, 1, 0), (109, 0, 35, 1, 6), (115, 1, 17, 1, 0), (122, 0, 26, 1, 6), (125, 0, 33, 2, 6), (153, 0, 37, 1, 6), (159, 0, 58, 0, 0), (169, 0, 45, 0, 6), (176, 0, 59, 0, 6), (179, 0, 38, 0, 6), (191, 0, 61, 0, 6), (195, 1, 62, 1, 0), (199, 0, 65, 1, 7), (202, 0, 67, 2, 7), (205, 0, 10, 1, 6), (208, 0, 43, 0, 6), (211, 0, 44, 1, 3), (221, 0, 21, 2, 6), (225, 0, 46, 1, 7), (228, 0, 72, 1, 6), (231, 0, 74, 1, 4), (235, 0, 76, 0, 4), (238, 0, 78, 0, 4), (241, 0, 86, 0, 4), (244, 0, 87, 0, 8), (265, 0, 88, 0, 4), (269, 0, 89, 0, 4), (272, 0, 90, 0, 4), (247, 0, 91, 1, 4), (251, 0, 93, 1, 2)],
  [(1, 4, 0, 0, 0), (116, 0, 98, 0, 9), (50, 1, 99, 3, 0), (119, 1, 100, 1, 0), (122, 1, 101, 1, 0), (125, 0, 102, 1, 9), (58, 0, 103, 0, 9), (128, 0, 105, 1, 9), (99, 1, 106, 1, 0), (81, 0, 107, 1, 9), (68, 0, 108, 1, 9), (65, 1, 109, 2, 0), (113, 0, 111, 2, 9), (96, 0, 112, 2, 9), (102, 0, 113, 1, 9), (131, 0, 115, 1, 9), (146, 0, 117, 1, 9), (137, 0, 118, 1, 9), (134, 1, 119, 1, 0), (78, 0, 120, 1, 9), (75, 0, 121, 2, 9), (72, 0, 122, 1, 9), (61, 0, 123, 2, 9), (140, 0, 124, 1, 9), (149, 0, 126, 0, 9), (107, 0, 127, 0, 9), (110, 0, 128, 0, 9), (84, 0, 129, 0, 9), (88, 0, 130, 0, 9), (92, 0, 131, 1, 9), (154, 0, 133, 1, 9), (157, 1, 134, 1, 0), (161, 0, 140, 2, 9), (164, 0, 141, 0, 9), (178, 1, 143, 1, 0), (187, 0, 147, 1, 9), (182, 0, 148, 3, 9), (190, 0, 150, 0, 9), (236, 0, 156, 1, 9), (230, 0, 157, 0, 9), (218, 0, 158, 0, 9), (206, 0, 159, 0, 9), (202, 0, 160, 2, 9), (224, 0, 161, 1, 9), (233, 0, 162, 0, 9), (240, 0, 155, 0, 9)],
  [],
  [(7, 1, 51, 1, 0), (13, 1, 52, 2, 0), (19, 7, 0, 0, 0)],
  [(9, 2, 0, 0, 0), (13, 0, 8, 2, 8), (18, 0, 15, 1, 8), (23, 0, 18, 2, 8), (27, 0, 24, 1, 8), (31, 0, 27, 1, 8), (35, 0, 41, 0, 8), (40, 0, 49, 2, 8), (44, 0, 53, 2, 8), (48, 0, 54, 2, 8), (52, 0, 55, 3, 8), (57, 0, 56, 1, 8), (61, 0, 57, 1, 8), (65, 0, 60, 0, 8), (70, 0, 63, 1, 8), (74, 0, 64, 2, 8), (78, 0, 66, 1, 8), (82, 0, 69, 1, 8), (86, 0, 70, 2, 8), (90, 0, 71, 0, 8), (96, 0, 73, 1, 8), (101, 0, 75, 0, 8), (105, 0, 77, 0, 8), (109, 0, 85, 0, 8), (113, 0, 92, 0, 8), (117, 0, 94, 1, 8), (121, 0, 95, 1, 8), (12, 2, 96, 0, 0), (17, 0, 97, 2, 9), (22, 0, 104, 1, 9), (26, 0, 110, 2, 9), (30, 0, 114, 1, 9), (34, 0, 116, 1, 9), (39, 0, 125, 0, 9), (43, 0, 132, 2, 9), (47, 0, 135, 2, 9), (51, 0, 136, 2, 9), (56, 0, 137, 3, 9), (60, 0, 138, 1, 9), (64, 0, 139, 1, 9), (69, 0, 142, 0, 9), (73, 0, 144, 1, 9), (77, 0, 145, 2, 9), (81, 0, 146, 1, 9), (85, 0, 149, 1, 9), (89, 0, 151, 2, 9), (93, 0, 152, 0, 9), (100, 0, 153, 1, 9), (104, 0, 154, 0, 9), (108, 0, 155, 0, 9), (112, 0, 163, 0, 9), (116, 0, 164, 0, 9), (120, 0, 165, 1, 9), (124, 0, 166, 1, 9)]]
def m_ct : List (List (Nat × Value)) := [[],
  [],
  [],
  [],
  [(22, .long 255)],
  [],
  [(129, .float 1120403456)],
  [(23, .int 1000000)],
  [],
  [(106, .float 1120403456), (152, .float 1258291200), (153, .int 8388608), (170, .long 1023), (172, .double 4611686018427387904), (174, .long 4503599627370496), (176, .double 4841369599423283200), (186, .int 1000000), (193, .long 255)],
  [(265, .int 1431655765), (266, .int 858993459), (267, .int 252645135)],
  [(30, .double 4611686018427387904), (17, .double 4710765210229538816), (25, .int 8388608), (26, .double 4841369599423283200), (28, .long 4503599627370496)],
  [(94, .long 4294967295)]]
def m_cn : List (List (Nat × Nat)) := [[],
  [],
  [(11, 6)],
  [],
  [(15, 1)],
  [],
  [(34, 0), (102, 5)],
  [],
  [(7, 6), (19, 7), (26, 3), (35, 4), (42, 2)],
  [],
  [],
  [],
  [(7, 8), (10, 9)]]
def m_nests : List (String × Nat × MethodName × String) := [("ShelfSlots$Shed", 36, ⟨"ShelfSlots$Day", "<init>", "()V"⟩, "ShelfSlots"), ("ShelfSlots", 21, ⟨"ShelfSlots$Walker", "<init>", "()V"⟩, "ShelfSlots"), ("ShelfSlots", 37, ⟨"ShelfSlots$Pad", "<init>", "()V"⟩, "ShelfSlots"), ("ShelfSlots$Pad", 17, ⟨"ShelfSlots$Grammar", "<init>", "()V"⟩, "ShelfSlots")]
def m_own (ox : Nat) : String := m_ow.getD ox ""
def m_dcl : String × u_T × Nat × (Nat → FieldType) := ("", TX0, 0, tyX0)
def m_c (ci : Nat) : String × u_T × Nat × (Nat → FieldType) := m_cl.getD ci m_dcl
def m_tyc (t : FieldType) : Nat := match t with
  | .int => 0
  | .boolean => 1
  | .char => 2
  | .object _ => 3
  | .array _ => 3
  | _ => 9
def m_flk (ox ix : Nat) : Option (Nat × Nat × Nat × Nat × Bool) := (m_fl.getD ox []).find? fun e => e.1 == ix
def m_mtk (ox ix : Nat) : Option (Nat × Nat × Nat × Nat × Nat) := (m_mt.getD ox []).find? fun e => e.1 == ix
def m_ctk (ox ix : Nat) : Option (Nat × Value) := (m_ct.getD ox []).find? fun e => e.1 == ix
def m_cnk (ox ix : Nat) : Option (Nat × Nat) := (m_cn.getD ox []).find? fun e => e.1 == ix
def m_flP (own : String) (e : Nat × Nat × Nat × Nat × Bool) : Prop := match e with
  | (ix, ci, k, ty, fin) => ci < m_cl.length ∧ k < (m_c ci).2.2.1 ∧ Cond.fieldLink own ix (m_c ci).1 ((m_c ci).2.1 k).2.1 ((m_c ci).2.1 k).2.2.1 ∈ m_wt ∧ ((m_c ci).2.1 k).1 = (m_c ci).1 ∧ ((m_c ci).2.1 k).2.2.2 = fin ∧ m_tyc ((m_c ci).2.2.2 k) = ty
/-- a method that may be called, of n arguments -/
def m_qP (μ n : Nat) : Prop := μ < m_all.length ∧ Cond.code (m_q μ).1 (m_q μ).2.1 (m_q μ).2.2.1 (m_q μ).2.2.2.1 ∈ m_wt ∧ (plainName (m_q μ).1.cls = true ∧ (m_q μ).1.cls ≠ "java/lang/invoke/MethodHandle" ∧ (m_q μ).1.cls ≠ "java/lang/invoke/VarHandle") ∧ (parseMethodDescriptor (m_q μ).1.desc).map (fun d => d.parameters.length) = some n
def m_mtP (own : String) (e : Nat × Nat × Nat × Nat × Nat) : Prop := match e with
  | (ix, 0, μ, n, ci) => Cond.methodLink own ix (m_q μ).1 ∈ m_wt ∧ Cond.instanceMethod (m_q μ).1 ∈ m_wt ∧ Cond.selects (m_q μ).1.cls (m_q μ).1 (m_q μ).1 ∈ m_wt ∧ Cond.initialized (m_q μ).1.cls ∈ m_wt ∧ m_qP μ n ∧ ci < m_cl.length ∧ (m_c ci).1 = (m_q μ).1.cls
  | (ix, 1, μ, n, _) => Cond.methodLink own ix (m_q μ).1 ∈ m_wt ∧ Cond.static (m_q μ).1 ∈ m_wt ∧ Cond.initialized (m_q μ).1.cls ∈ m_wt ∧ m_qP μ n
  | (ix, 2, μ, n, _) => Cond.methodLink own ix (m_q μ).1 ∈ m_wt ∧ Cond.instanceMethod (m_q μ).1 ∈ m_wt ∧ Cond.initialized (m_q μ).1.cls ∈ m_wt ∧ m_qP μ n ∧ (m_q μ).1.name = "<init>" ∧ (m_q μ).2.2.2.1 = none
  | (ix, 3, μ, n, j) => m_nests[j]? = some (own, ix, (m_q μ).1, "ShelfSlots") ∧ Cond.instanceMethod (m_q μ).1 ∈ m_wt ∧ Cond.initialized (m_q μ).1.cls ∈ m_wt ∧ m_qP μ n ∧ (m_q μ).1.name = "<init>" ∧ (m_q μ).2.2.2.1 = none
  | (ix, 4, _, _, _) => Cond.methodLink own ix Lib.objectInit ∈ m_wt ∧ Cond.instanceMethod Lib.objectInit ∈ m_wt ∧ Cond.code Lib.objectInit ⟨#[0xb1]⟩ 1 none ∈ m_wt
  | (ix, 5, _, _, _) => Cond.methodLink own ix arraycopyName ∈ m_wt ∧ Cond.native arraycopyName ∈ m_wt ∧ Cond.static arraycopyName ∈ m_wt ∧ Cond.initialized "java/lang/System" ∈ m_wt
  | (ix, 6, _, _, _) => Cond.methodLink own ix Lib.Math.max.name ∈ m_wt ∧ Cond.static Lib.Math.max.name ∈ m_wt ∧ Cond.initialized "java/lang/Math" ∈ m_wt ∧ Cond.code Lib.Math.max.name Lib.Math.max.code 2 (some .int) ∈ m_wt
  | (ix, 7, _, _, _) => Cond.methodLink own ix Lib.Math.min.name ∈ m_wt ∧ Cond.static Lib.Math.min.name ∈ m_wt ∧ Cond.initialized "java/lang/Math" ∈ m_wt ∧ Cond.code Lib.Math.min.name Lib.Math.min.code 2 (some .int) ∈ m_wt
  | _ => False
def m_ctP (own : String) (e : Nat × Value) : Prop := match e with
  | (ix, .int v) => Cond.constant own ix v ∈ m_wt
  | (ix, .float v) => Cond.constantFloat own ix v ∈ m_wt
  | (ix, .long v) => Cond.constantLong own ix v ∈ m_wt
  | (ix, .double v) => Cond.constantDouble own ix v ∈ m_wt
  | _ => False
def m_cnP (own : String) (e : Nat × Nat) : Prop := match e with
  | (ix, ci) => ci < m_cl.length ∧ Cond.classLink own ix (m_c ci).1 ∈ m_wt ∧ Cond.instantiable (m_c ci).1 (m_c ci).2.2.1 ∈ m_wt ∧ Cond.initialized (m_c ci).1 ∈ m_wt

theorem m_pl_0 : plainName "ShelfSlots$Day" = true ∧ "ShelfSlots$Day" ≠ "java/lang/invoke/MethodHandle" ∧ "ShelfSlots$Day" ≠ "java/lang/invoke/VarHandle" := by decide +kernel
theorem m_pl_1 : plainName "ShelfSlots$Grammar" = true ∧ "ShelfSlots$Grammar" ≠ "java/lang/invoke/MethodHandle" ∧ "ShelfSlots$Grammar" ≠ "java/lang/invoke/VarHandle" := by decide +kernel
theorem m_pl_2 : plainName "ShelfSlots$History" = true ∧ "ShelfSlots$History" ≠ "java/lang/invoke/MethodHandle" ∧ "ShelfSlots$History" ≠ "java/lang/invoke/VarHandle" := by decide +kernel
theorem m_pl_3 : plainName "ShelfSlots$Mover" = true ∧ "ShelfSlots$Mover" ≠ "java/lang/invoke/MethodHandle" ∧ "ShelfSlots$Mover" ≠ "java/lang/invoke/VarHandle" := by decide +kernel
theorem m_pl_4 : plainName "ShelfSlots$Pad" = true ∧ "ShelfSlots$Pad" ≠ "java/lang/invoke/MethodHandle" ∧ "ShelfSlots$Pad" ≠ "java/lang/invoke/VarHandle" := by decide +kernel
theorem m_pl_5 : plainName "ShelfSlots$Picked" = true ∧ "ShelfSlots$Picked" ≠ "java/lang/invoke/MethodHandle" ∧ "ShelfSlots$Picked" ≠ "java/lang/invoke/VarHandle" := by decide +kernel
theorem m_pl_6 : plainName "ShelfSlots$Shed" = true ∧ "ShelfSlots$Shed" ≠ "java/lang/invoke/MethodHandle" ∧ "ShelfSlots$Shed" ≠ "java/lang/invoke/VarHandle" := by decide +kernel
theorem m_pl_7 : plainName "ShelfSlots$Walker" = true ∧ "ShelfSlots$Walker" ≠ "java/lang/invoke/MethodHandle" ∧ "ShelfSlots$Walker" ≠ "java/lang/invoke/VarHandle" := by decide +kernel
theorem m_pl_8 : plainName "ShelfSlots" = true ∧ "ShelfSlots" ≠ "java/lang/invoke/MethodHandle" ∧ "ShelfSlots" ≠ "java/lang/invoke/VarHandle" := by decide +kernel
theorem m_pl_9 : plainName "ShelfSlotsModel" = true ∧ "ShelfSlotsModel" ≠ "java/lang/invoke/MethodHandle" ∧ "ShelfSlotsModel" ≠ "java/lang/invoke/VarHandle" := by decide +kernel
theorem m_pl_10 : plainName "java/lang/Integer" = true ∧ "java/lang/Integer" ≠ "java/lang/invoke/MethodHandle" ∧ "java/lang/Integer" ≠ "java/lang/invoke/VarHandle" := by decide +kernel
theorem m_pl_11 : plainName "ShelfSlots$Bits" = true ∧ "ShelfSlots$Bits" ≠ "java/lang/invoke/MethodHandle" ∧ "ShelfSlots$Bits" ≠ "java/lang/invoke/VarHandle" := by decide +kernel
theorem m_pl_12 : plainName "ShelfSlotsLaw" = true ∧ "ShelfSlotsLaw" ≠ "java/lang/invoke/MethodHandle" ∧ "ShelfSlotsLaw" ≠ "java/lang/invoke/VarHandle" := by decide +kernel
set_option maxRecDepth 20000 in
theorem m_all_len : m_all.length = 168 := rfl
theorem m_lt {μ : Nat} (h : Nat.ble (μ + 1) 168 = true) : μ < m_all.length := by
  rw [m_all_len]
  exact Nat.le_of_ble_eq_true h
set_option maxRecDepth 20000 in
theorem m_q_0 : m_q 0 = (⟨"ShelfSlots", "<init>", "()V"⟩, prog_1_method_1_code, 2, none, 8, mc_0) := rfl
set_option maxRecDepth 20000 in
theorem m_q_1 : m_q 1 = (⟨"ShelfSlots$Shed", "<init>", "()V"⟩, prog_9_method_1_code, 2, none, 6, mc_1) := rfl
set_option maxRecDepth 20000 in
theorem m_q_2 : m_q 2 = (⟨"ShelfSlots$Day", "<init>", "()V"⟩, prog_3_method_1_code, 1, none, 0, mc_2) := rfl
set_option maxRecDepth 20000 in
theorem m_q_3 : m_q 3 = (⟨"ShelfSlots$Walker", "<init>", "()V"⟩, prog_10_method_1_code, 1, none, 7, mc_3) := rfl
set_option maxRecDepth 20000 in
theorem m_q_4 : m_q 4 = (⟨"ShelfSlots$Mover", "<init>", "(LShelfSlots$Walker;)V"⟩, prog_6_method_1_code, 2, none, 3, mc_4) := rfl
set_option maxRecDepth 20000 in
theorem m_q_5 : m_q 5 = (⟨"ShelfSlots$Pad", "<init>", "()V"⟩, prog_7_method_1_code, 1, none, 4, mc_5) := rfl
set_option maxRecDepth 20000 in
theorem m_q_6 : m_q 6 = (⟨"ShelfSlots$Grammar", "<init>", "()V"⟩, prog_4_method_1_code, 1, none, 1, mc_6) := rfl
set_option maxRecDepth 20000 in
theorem m_q_7 : m_q 7 = (⟨"ShelfSlots$History", "<init>", "()V"⟩, prog_5_method_1_code, 2, none, 2, mc_7) := rfl
set_option maxRecDepth 20000 in
theorem m_q_8 : m_q 8 = (⟨"ShelfSlots", "set", "(II)I"⟩, prog_1_method_2_code, 3, some .int, 8, mc_8) := rfl
set_option maxRecDepth 20000 in
theorem m_q_9 : m_q 9 = (⟨"ShelfSlots$History", "note", "(LShelfSlots$Shed;)V"⟩, prog_5_method_2_code, 2, none, 2, mc_9) := rfl
set_option maxRecDepth 20000 in
theorem m_q_10 : m_q 10 = (⟨"ShelfSlots$Shed", "copyFrom", "(LShelfSlots$Shed;)V"⟩, prog_9_method_2_code, 2, none, 6, mc_10) := rfl
set_option maxRecDepth 20000 in
theorem m_q_11 : m_q 11 = (⟨"ShelfSlots$Day", "copyFrom", "(LShelfSlots$Day;)V"⟩, prog_3_method_2_code, 2, none, 0, mc_11) := rfl
set_option maxRecDepth 20000 in
theorem m_q_12 : m_q 12 = (⟨"ShelfSlots$Shed", "changeSetting", "(II)I"⟩, prog_9_method_5_code, 6, some .int, 6, mc_12) := rfl
set_option maxRecDepth 20000 in
theorem m_q_13 : m_q 13 = (⟨"ShelfSlots", "recorded", "(I)I"⟩, prog_1_method_28_code, 2, some .int, 8, mc_13) := rfl
set_option maxRecDepth 20000 in
theorem m_q_14 : m_q 14 = (⟨"ShelfSlots$History", "keepNote", "()V"⟩, prog_5_method_3_code, 1, none, 2, mc_14) := rfl
set_option maxRecDepth 20000 in
theorem m_q_15 : m_q 15 = (⟨"ShelfSlots", "good", "(I)I"⟩, prog_1_method_3_code, 2, some .int, 8, mc_15) := rfl
set_option maxRecDepth 20000 in
theorem m_q_16 : m_q 16 = (⟨"ShelfSlots$Shed", "bringGood", "(I)I"⟩, prog_9_method_6_code, 3, some .int, 6, mc_16) := rfl
set_option maxRecDepth 20000 in
theorem m_q_17 : m_q 17 = (⟨"ShelfSlots$Shed", "isSlot", "(I)Z"⟩, prog_9_method_3_code, 1, some .boolean, 6, mc_17) := rfl
set_option maxRecDepth 20000 in
theorem m_q_18 : m_q 18 = (⟨"ShelfSlots", "swap", "(II)I"⟩, prog_1_method_4_code, 3, some .int, 8, mc_18) := rfl
set_option maxRecDepth 20000 in
theorem m_q_19 : m_q 19 = (⟨"ShelfSlots$Shed", "swapByHand", "(II)I"⟩, prog_9_method_7_code, 3, some .int, 6, mc_19) := rfl
set_option maxRecDepth 20000 in
theorem m_q_20 : m_q 20 = (⟨"ShelfSlots$Shed", "swapCounted", "(II)I"⟩, prog_9_method_9_code, 3, some .int, 6, mc_20) := rfl
set_option maxRecDepth 20000 in
theorem m_q_21 : m_q 21 = (⟨"ShelfSlots$Shed", "exchange", "(II)V"⟩, prog_9_method_11_code, 4, none, 6, mc_21) := rfl
set_option maxRecDepth 20000 in
theorem m_q_22 : m_q 22 = (⟨"ShelfSlots$Shed", "stand", "(II)V"⟩, prog_9_method_12_code, 3, none, 6, mc_22) := rfl
set_option maxRecDepth 20000 in
theorem m_q_23 : m_q 23 = (⟨"ShelfSlots$Shed", "countSwap", "(I)I"⟩, prog_9_method_10_code, 2, some .int, 6, mc_23) := rfl
set_option maxRecDepth 20000 in
theorem m_q_24 : m_q 24 = (⟨"ShelfSlots", "close", "(I)I"⟩, prog_1_method_5_code, 2, some .int, 8, mc_24) := rfl
set_option maxRecDepth 20000 in
theorem m_q_25 : m_q 25 = (⟨"ShelfSlots$Shed", "closeOrOpen", "(I)I"⟩, prog_9_method_8_code, 2, some .int, 6, mc_25) := rfl
set_option maxRecDepth 20000 in
theorem m_q_26 : m_q 26 = (⟨"ShelfSlots$Shed", "isClosed", "(I)Z"⟩, prog_9_method_4_code, 2, some .boolean, 6, mc_26) := rfl
set_option maxRecDepth 20000 in
theorem m_q_27 : m_q 27 = (⟨"ShelfSlots", "pick", "(I)I"⟩, prog_1_method_6_code, 2, some .int, 8, mc_27) := rfl
set_option maxRecDepth 20000 in
theorem m_q_28 : m_q 28 = (⟨"ShelfSlots", "pickBasket", "(I)I"⟩, prog_1_method_30_code, 4, some .int, 8, mc_28) := rfl
set_option maxRecDepth 20000 in
theorem m_q_29 : m_q 29 = (⟨"ShelfSlots", "errorOfBasket", "(I)I"⟩, prog_1_method_29_code, 3, some .int, 8, mc_29) := rfl
set_option maxRecDepth 20000 in
theorem m_q_30 : m_q 30 = (⟨"java/lang/Integer", "bitCount", "(I)I"⟩, prog_13_method_49_code, 1, some .int, 10, mc_30) := rfl
set_option maxRecDepth 20000 in
theorem m_q_31 : m_q 31 = (⟨"ShelfSlots$Walker", "lengthOf", "(LShelfSlots$Shed;I)I"⟩, prog_10_method_2_code, 10, some .int, 7, mc_31) := rfl
set_option maxRecDepth 20000 in
theorem m_q_32 : m_q 32 = (⟨"ShelfSlots$Walker", "listGoods", "(I)V"⟩, prog_10_method_5_code, 3, none, 7, mc_32) := rfl
set_option maxRecDepth 20000 in
theorem m_q_33 : m_q 33 = (⟨"ShelfSlots$Shed", "stepsBetween", "(II)I"⟩, prog_9_method_14_code, 4, some .int, 6, mc_33) := rfl
set_option maxRecDepth 20000 in
theorem m_q_34 : m_q 34 = (⟨"ShelfSlots$Walker", "moveUp", "(II)V"⟩, prog_10_method_6_code, 5, none, 7, mc_34) := rfl
set_option maxRecDepth 20000 in
theorem m_q_35 : m_q 35 = (⟨"ShelfSlots$Shed", "deskSteps", "(I)I"⟩, prog_9_method_15_code, 2, some .int, 6, mc_35) := rfl
set_option maxRecDepth 20000 in
theorem m_q_36 : m_q 36 = (⟨"ShelfSlots$Shed", "notePicked", "(II)V"⟩, prog_9_method_20_code, 5, none, 6, mc_36) := rfl
set_option maxRecDepth 20000 in
theorem m_q_37 : m_q 37 = (⟨"ShelfSlots$Shed", "timesPicked", "(I)I"⟩, prog_9_method_21_code, 3, some .int, 6, mc_37) := rfl
set_option maxRecDepth 20000 in
theorem m_q_38 : m_q 38 = (⟨"ShelfSlots$Shed", "unlikeBaskets", "()I"⟩, prog_9_method_22_code, 1, some .int, 6, mc_38) := rfl
set_option maxRecDepth 20000 in
theorem m_q_39 : m_q 39 = (⟨"ShelfSlots$Picked", "<init>", "(IIILShelfSlots$Picked;)V"⟩, prog_8_method_1_code, 5, none, 5, mc_39) := rfl
set_option maxRecDepth 20000 in
theorem m_q_40 : m_q 40 = (⟨"ShelfSlots$Day", "add", "(II)V"⟩, prog_3_method_3_code, 3, none, 0, mc_40) := rfl
set_option maxRecDepth 20000 in
theorem m_q_41 : m_q 41 = (⟨"ShelfSlots", "night", "()I"⟩, prog_1_method_7_code, 1, some .int, 8, mc_41) := rfl
set_option maxRecDepth 20000 in
theorem m_q_42 : m_q 42 = (⟨"ShelfSlots$Mover", "passNight", "(LShelfSlots$Shed;)I"⟩, prog_6_method_2_code, 3, some .int, 3, mc_42) := rfl
set_option maxRecDepth 20000 in
theorem m_q_43 : m_q 43 = (⟨"ShelfSlots$Shed", "ageSpeeds", "()V"⟩, prog_9_method_23_code, 4, none, 6, mc_43) := rfl
set_option maxRecDepth 20000 in
theorem m_q_44 : m_q 44 = (⟨"ShelfSlots$Mover", "findSwap", "(LShelfSlots$Shed;)Z"⟩, prog_6_method_3_code, 7, some .boolean, 3, mc_44) := rfl
set_option maxRecDepth 20000 in
theorem m_q_45 : m_q 45 = (⟨"ShelfSlots$Shed", "weight", "()F"⟩, prog_9_method_16_code, 3, some .float, 6, mc_45) := rfl
set_option maxRecDepth 20000 in
theorem m_q_46 : m_q 46 = (⟨"ShelfSlots$Walker", "togetherOf", "(LShelfSlots$Shed;)I"⟩, prog_10_method_4_code, 4, some .int, 7, mc_46) := rfl
set_option maxRecDepth 20000 in
theorem m_q_47 : m_q 47 = (⟨"ShelfSlots$Shed", "mayMoveByNight", "(II)Z"⟩, prog_9_method_13_code, 4, some .boolean, 6, mc_47) := rfl
set_option maxRecDepth 20000 in
theorem m_q_48 : m_q 48 = (⟨"ShelfSlots$Shed", "endDay", "()V"⟩, prog_9_method_24_code, 2, none, 6, mc_48) := rfl
set_option maxRecDepth 20000 in
theorem m_q_49 : m_q 49 = (⟨"ShelfSlots", "of", "(II)I"⟩, prog_1_method_8_code, 3, some .int, 8, mc_49) := rfl
set_option maxRecDepth 20000 in
theorem m_q_50 : m_q 50 = (⟨"ShelfSlots$Bits", "ofFloat", "(F)I"⟩, prog_2_method_2_code, 3, some .int, 11, mc_50) := rfl
set_option maxRecDepth 20000 in
theorem m_q_51 : m_q 51 = (⟨"ShelfSlots$Bits", "exponentOf", "(D)I"⟩, prog_2_method_4_code, 5, some .int, 11, mc_51) := rfl
set_option maxRecDepth 20000 in
theorem m_q_52 : m_q 52 = (⟨"ShelfSlots$Bits", "scaled", "(DI)D"⟩, prog_2_method_5_code, 6, some .double, 11, mc_52) := rfl
set_option maxRecDepth 20000 in
theorem m_q_53 : m_q 53 = (⟨"ShelfSlots", "ofSlot", "(II)I"⟩, prog_1_method_9_code, 3, some .int, 8, mc_53) := rfl
set_option maxRecDepth 20000 in
theorem m_q_54 : m_q 54 = (⟨"ShelfSlots", "steps", "(II)I"⟩, prog_1_method_10_code, 3, some .int, 8, mc_54) := rfl
set_option maxRecDepth 20000 in
theorem m_q_55 : m_q 55 = (⟨"ShelfSlots", "basket", "(III)I"⟩, prog_1_method_11_code, 5, some .int, 8, mc_55) := rfl
set_option maxRecDepth 20000 in
theorem m_q_56 : m_q 56 = (⟨"ShelfSlots", "often", "(I)I"⟩, prog_1_method_12_code, 3, some .int, 8, mc_56) := rfl
set_option maxRecDepth 20000 in
theorem m_q_57 : m_q 57 = (⟨"ShelfSlots", "count", "(I)I"⟩, prog_1_method_13_code, 2, some .int, 8, mc_57) := rfl
set_option maxRecDepth 20000 in
theorem m_q_58 : m_q 58 = (⟨"ShelfSlots$Day", "together", "()I"⟩, prog_3_method_4_code, 3, some .int, 0, mc_58) := rfl
set_option maxRecDepth 20000 in
theorem m_q_59 : m_q 59 = (⟨"ShelfSlots$Shed", "fastest", "()I"⟩, prog_9_method_18_code, 3, some .int, 6, mc_59) := rfl
set_option maxRecDepth 20000 in
theorem m_q_60 : m_q 60 = (⟨"ShelfSlots", "meanSpeed", "()J"⟩, prog_1_method_14_code, 1, some .long, 8, mc_60) := rfl
set_option maxRecDepth 20000 in
theorem m_q_61 : m_q 61 = (⟨"ShelfSlots$Shed", "mean", "()D"⟩, prog_9_method_17_code, 4, some .double, 6, mc_61) := rfl
set_option maxRecDepth 20000 in
theorem m_q_62 : m_q 62 = (⟨"ShelfSlots$Bits", "ofDouble", "(D)J"⟩, prog_2_method_3_code, 5, some .long, 11, mc_62) := rfl
set_option maxRecDepth 20000 in
theorem m_q_63 : m_q 63 = (⟨"ShelfSlots", "walk", "(I)I"⟩, prog_1_method_15_code, 3, some .int, 8, mc_63) := rfl
set_option maxRecDepth 20000 in
theorem m_q_64 : m_q 64 = (⟨"ShelfSlots", "stop", "(II)I"⟩, prog_1_method_16_code, 4, some .int, 8, mc_64) := rfl
set_option maxRecDepth 20000 in
theorem m_q_65 : m_q 65 = (⟨"ShelfSlots$Walker", "goodAt", "(I)I"⟩, prog_10_method_3_code, 2, some .int, 7, mc_65) := rfl
set_option maxRecDepth 20000 in
theorem m_q_66 : m_q 66 = (⟨"ShelfSlots", "shortest", "(I)I"⟩, prog_1_method_17_code, 3, some .int, 8, mc_66) := rfl
set_option maxRecDepth 20000 in
theorem m_q_67 : m_q 67 = (⟨"ShelfSlots$Walker", "shortestOf", "(LShelfSlots$Shed;I)I"⟩, prog_10_method_7_code, 7, some .int, 7, mc_67) := rfl
set_option maxRecDepth 20000 in
theorem m_q_68 : m_q 68 = (⟨"ShelfSlots$Walker", "lastPlace", "(LShelfSlots$Shed;I)I"⟩, prog_10_method_8_code, 6, some .int, 7, mc_68) := rfl
set_option maxRecDepth 20000 in
theorem m_q_69 : m_q 69 = (⟨"ShelfSlots", "bestSwap", "(I)I"⟩, prog_1_method_18_code, 2, some .int, 8, mc_69) := rfl
set_option maxRecDepth 20000 in
theorem m_q_70 : m_q 70 = (⟨"ShelfSlots", "ifSwapped", "(II)I"⟩, prog_1_method_19_code, 3, some .int, 8, mc_70) := rfl
set_option maxRecDepth 20000 in
theorem m_q_71 : m_q 71 = (⟨"ShelfSlots", "badly", "()I"⟩, prog_1_method_20_code, 3, some .int, 8, mc_71) := rfl
set_option maxRecDepth 20000 in
theorem m_q_72 : m_q 72 = (⟨"ShelfSlots$Shed", "standsBadly", "(I)Z"⟩, prog_9_method_19_code, 4, some .boolean, 6, mc_72) := rfl
set_option maxRecDepth 20000 in
theorem m_q_73 : m_q 73 = (⟨"ShelfSlots", "put", "(J)I"⟩, prog_1_method_21_code, 3, some .int, 8, mc_73) := rfl
set_option maxRecDepth 20000 in
theorem m_q_74 : m_q 74 = (⟨"ShelfSlots$Pad", "append", "(J)I"⟩, prog_7_method_2_code, 7, some .int, 4, mc_74) := rfl
set_option maxRecDepth 20000 in
theorem m_q_75 : m_q 75 = (⟨"ShelfSlots", "wipe", "()I"⟩, prog_1_method_22_code, 1, some .int, 8, mc_75) := rfl
set_option maxRecDepth 20000 in
theorem m_q_76 : m_q 76 = (⟨"ShelfSlots$Pad", "empty", "()I"⟩, prog_7_method_3_code, 2, some .int, 4, mc_76) := rfl
set_option maxRecDepth 20000 in
theorem m_q_77 : m_q 77 = (⟨"ShelfSlots", "fault", "()I"⟩, prog_1_method_23_code, 1, some .int, 8, mc_77) := rfl
set_option maxRecDepth 20000 in
theorem m_q_78 : m_q 78 = (⟨"ShelfSlots$Pad", "firstFault", "()I"⟩, prog_7_method_4_code, 2, some .int, 4, mc_78) := rfl
set_option maxRecDepth 20000 in
theorem m_q_79 : m_q 79 = (⟨"ShelfSlots$Grammar", "startAnew", "()V"⟩, prog_4_method_3_code, 1, none, 1, mc_79) := rfl
set_option maxRecDepth 20000 in
theorem m_q_80 : m_q 80 = (⟨"ShelfSlots$Grammar", "takes", "(C)Z"⟩, prog_4_method_5_code, 2, some .boolean, 1, mc_80) := rfl
set_option maxRecDepth 20000 in
theorem m_q_81 : m_q 81 = (⟨"ShelfSlots$Grammar", "takesLetter", "(C)Z"⟩, prog_4_method_6_code, 2, some .boolean, 1, mc_81) := rfl
set_option maxRecDepth 20000 in
theorem m_q_82 : m_q 82 = (⟨"ShelfSlots$Grammar", "isDigit", "(C)Z"⟩, prog_4_method_2_code, 1, some .boolean, 1, mc_82) := rfl
set_option maxRecDepth 20000 in
theorem m_q_83 : m_q 83 = (⟨"ShelfSlots$Grammar", "takesMark", "(C)Z"⟩, prog_4_method_7_code, 2, some .boolean, 1, mc_83) := rfl
set_option maxRecDepth 20000 in
theorem m_q_84 : m_q 84 = (⟨"ShelfSlots$Grammar", "mayStop", "()Z"⟩, prog_4_method_4_code, 1, some .boolean, 1, mc_84) := rfl
set_option maxRecDepth 20000 in
theorem m_q_85 : m_q 85 = (⟨"ShelfSlots", "carryOut", "()I"⟩, prog_1_method_24_code, 3, some .int, 8, mc_85) := rfl
set_option maxRecDepth 20000 in
theorem m_q_86 : m_q 86 = (⟨"ShelfSlots$Pad", "rewind", "()V"⟩, prog_7_method_5_code, 1, none, 4, mc_86) := rfl
set_option maxRecDepth 20000 in
theorem m_q_87 : m_q 87 = (⟨"ShelfSlots", "carryOutOrder", "()I"⟩, prog_1_method_31_code, 3, some .int, 8, mc_87) := rfl
set_option maxRecDepth 20000 in
theorem m_q_88 : m_q 88 = (⟨"ShelfSlots$Pad", "takeLetter", "()C"⟩, prog_7_method_6_code, 2, some .char, 4, mc_88) := rfl
set_option maxRecDepth 20000 in
theorem m_q_89 : m_q 89 = (⟨"ShelfSlots$Pad", "takeNumber", "()I"⟩, prog_7_method_7_code, 2, some .int, 4, mc_89) := rfl
set_option maxRecDepth 20000 in
theorem m_q_90 : m_q 90 = (⟨"ShelfSlots$Pad", "takeBasket", "()I"⟩, prog_7_method_8_code, 4, some .int, 4, mc_90) := rfl
set_option maxRecDepth 20000 in
theorem m_q_91 : m_q 91 = (⟨"ShelfSlots$Pad", "passes", "(C)Z"⟩, prog_7_method_9_code, 3, some .boolean, 4, mc_91) := rfl
set_option maxRecDepth 20000 in
theorem m_q_92 : m_q 92 = (⟨"ShelfSlots", "undo", "()I"⟩, prog_1_method_25_code, 1, some .int, 8, mc_92) := rfl
set_option maxRecDepth 20000 in
theorem m_q_93 : m_q 93 = (⟨"ShelfSlots$History", "takeBack", "(LShelfSlots$Shed;)I"⟩, prog_5_method_4_code, 2, some .int, 2, mc_93) := rfl
set_option maxRecDepth 20000 in
theorem m_q_94 : m_q 94 = (⟨"ShelfSlots", "save", "(I)I"⟩, prog_1_method_26_code, 2, some .int, 8, mc_94) := rfl
set_option maxRecDepth 20000 in
theorem m_q_95 : m_q 95 = (⟨"ShelfSlots", "restore", "(I)I"⟩, prog_1_method_27_code, 2, some .int, 8, mc_95) := rfl
set_option maxRecDepth 20000 in
theorem m_q_96 : m_q 96 = (⟨"ShelfSlotsModel", "<init>", "()V"⟩, prog_12_method_1_code, 1, none, 9, mc_96) := rfl
set_option maxRecDepth 20000 in
theorem m_q_97 : m_q 97 = (⟨"ShelfSlotsModel", "set", "(II)I"⟩, prog_12_method_28_code, 4, some .int, 9, mc_97) := rfl
set_option maxRecDepth 20000 in
theorem m_q_98 : m_q 98 = (⟨"ShelfSlotsModel", "putAside", "()V"⟩, prog_12_method_6_code, 2, none, 9, mc_98) := rfl
set_option maxRecDepth 20000 in
theorem m_q_99 : m_q 99 = (⟨"ShelfSlotsModel", "in", "(III)Z"⟩, prog_12_method_2_code, 3, some .boolean, 9, mc_99) := rfl
set_option maxRecDepth 20000 in
theorem m_q_100 : m_q 100 = (⟨"ShelfSlotsModel", "least", "(I)I"⟩, prog_12_method_26_code, 1, some .int, 9, mc_100) := rfl
set_option maxRecDepth 20000 in
theorem m_q_101 : m_q 101 = (⟨"ShelfSlotsModel", "most", "(I)I"⟩, prog_12_method_27_code, 1, some .int, 9, mc_101) := rfl
set_option maxRecDepth 20000 in
theorem m_q_102 : m_q 102 = (⟨"ShelfSlotsModel", "changed", "(I)I"⟩, prog_12_method_9_code, 2, some .int, 9, mc_102) := rfl
set_option maxRecDepth 20000 in
theorem m_q_103 : m_q 103 = (⟨"ShelfSlotsModel", "record", "()V"⟩, prog_12_method_8_code, 2, none, 9, mc_103) := rfl
set_option maxRecDepth 20000 in
theorem m_q_104 : m_q 104 = (⟨"ShelfSlotsModel", "good", "(I)I"⟩, prog_12_method_30_code, 2, some .int, 9, mc_104) := rfl
set_option maxRecDepth 20000 in
theorem m_q_105 : m_q 105 = (⟨"ShelfSlotsModel", "adds", "(I)I"⟩, prog_12_method_29_code, 3, some .int, 9, mc_105) := rfl
set_option maxRecDepth 20000 in
theorem m_q_106 : m_q 106 = (⟨"ShelfSlotsModel", "isSlot", "(I)Z"⟩, prog_12_method_3_code, 1, some .boolean, 9, mc_106) := rfl
set_option maxRecDepth 20000 in
theorem m_q_107 : m_q 107 = (⟨"ShelfSlotsModel", "goodIn", "(I)I"⟩, prog_12_method_18_code, 4, some .int, 9, mc_107) := rfl
set_option maxRecDepth 20000 in
theorem m_q_108 : m_q 108 = (⟨"ShelfSlotsModel", "slotOf", "(I)I"⟩, prog_12_method_12_code, 2, some .int, 9, mc_108) := rfl
set_option maxRecDepth 20000 in
theorem m_q_109 : m_q 109 = (⟨"ShelfSlotsModel", "ofGood", "(II)I"⟩, prog_12_method_5_code, 2, some .int, 9, mc_109) := rfl
set_option maxRecDepth 20000 in
theorem m_q_110 : m_q 110 = (⟨"ShelfSlotsModel", "swap", "(II)I"⟩, prog_12_method_31_code, 3, some .int, 9, mc_110) := rfl
set_option maxRecDepth 20000 in
theorem m_q_111 : m_q 111 = (⟨"ShelfSlotsModel", "swaps", "(II)I"⟩, prog_12_method_23_code, 4, some .int, 9, mc_111) := rfl
set_option maxRecDepth 20000 in
theorem m_q_112 : m_q 112 = (⟨"ShelfSlotsModel", "exchanges", "(II)I"⟩, prog_12_method_19_code, 5, some .int, 9, mc_112) := rfl
set_option maxRecDepth 20000 in
theorem m_q_113 : m_q 113 = (⟨"ShelfSlotsModel", "counts", "(I)V"⟩, prog_12_method_22_code, 3, none, 9, mc_113) := rfl
set_option maxRecDepth 20000 in
theorem m_q_114 : m_q 114 = (⟨"ShelfSlotsModel", "close", "(I)I"⟩, prog_12_method_33_code, 2, some .int, 9, mc_114) := rfl
set_option maxRecDepth 20000 in
theorem m_q_115 : m_q 115 = (⟨"ShelfSlotsModel", "closes", "(I)I"⟩, prog_12_method_32_code, 2, some .int, 9, mc_115) := rfl
set_option maxRecDepth 20000 in
theorem m_q_116 : m_q 116 = (⟨"ShelfSlotsModel", "pick", "(I)I"⟩, prog_12_method_37_code, 2, some .int, 9, mc_116) := rfl
set_option maxRecDepth 20000 in
theorem m_q_117 : m_q 117 = (⟨"ShelfSlotsModel", "picksOne", "(I)I"⟩, prog_12_method_36_code, 5, some .int, 9, mc_117) := rfl
set_option maxRecDepth 20000 in
theorem m_q_118 : m_q 118 = (⟨"ShelfSlotsModel", "errorOf", "(I)I"⟩, prog_12_method_34_code, 2, some .int, 9, mc_118) := rfl
set_option maxRecDepth 20000 in
theorem m_q_119 : m_q 119 = (⟨"ShelfSlotsModel", "ones", "(I)I"⟩, prog_12_method_13_code, 3, some .int, 9, mc_119) := rfl
set_option maxRecDepth 20000 in
theorem m_q_120 : m_q 120 = (⟨"ShelfSlotsModel", "walkOf", "(I)I"⟩, prog_12_method_15_code, 6, some .int, 9, mc_120) := rfl
set_option maxRecDepth 20000 in
theorem m_q_121 : m_q 121 = (⟨"ShelfSlotsModel", "nearest", "(II)I"⟩, prog_12_method_14_code, 8, some .int, 9, mc_121) := rfl
set_option maxRecDepth 20000 in
theorem m_q_122 : m_q 122 = (⟨"ShelfSlotsModel", "far", "(I)I"⟩, prog_12_method_11_code, 2, some .int, 9, mc_122) := rfl
set_option maxRecDepth 20000 in
theorem m_q_123 : m_q 123 = (⟨"ShelfSlotsModel", "stepsOf", "(II)I"⟩, prog_12_method_10_code, 5, some .int, 9, mc_123) := rfl
set_option maxRecDepth 20000 in
theorem m_q_124 : m_q 124 = (⟨"ShelfSlotsModel", "oftenOf", "(I)I"⟩, prog_12_method_35_code, 4, some .int, 9, mc_124) := rfl
set_option maxRecDepth 20000 in
theorem m_q_125 : m_q 125 = (⟨"ShelfSlotsModel", "night", "()I"⟩, prog_12_method_38_code, 1, some .int, 9, mc_125) := rfl
set_option maxRecDepth 20000 in
theorem m_q_126 : m_q 126 = (⟨"ShelfSlotsModel", "nights", "()I"⟩, prog_12_method_25_code, 4, some .int, 9, mc_126) := rfl
set_option maxRecDepth 20000 in
theorem m_q_127 : m_q 127 = (⟨"ShelfSlotsModel", "forgets", "()V"⟩, prog_12_method_24_code, 3, none, 9, mc_127) := rfl
set_option maxRecDepth 20000 in
theorem m_q_128 : m_q 128 = (⟨"ShelfSlotsModel", "best", "()I"⟩, prog_12_method_21_code, 10, some .int, 9, mc_128) := rfl
set_option maxRecDepth 20000 in
theorem m_q_129 : m_q 129 = (⟨"ShelfSlotsModel", "walksNow", "()I"⟩, prog_12_method_16_code, 3, some .int, 9, mc_129) := rfl
set_option maxRecDepth 20000 in
theorem m_q_130 : m_q 130 = (⟨"ShelfSlotsModel", "weight", "()F"⟩, prog_12_method_17_code, 3, some .float, 9, mc_130) := rfl
set_option maxRecDepth 20000 in
theorem m_q_131 : m_q 131 = (⟨"ShelfSlotsModel", "isOpen", "(I)Z"⟩, prog_12_method_20_code, 2, some .boolean, 9, mc_131) := rfl
set_option maxRecDepth 20000 in
theorem m_q_132 : m_q 132 = (⟨"ShelfSlotsModel", "of", "(II)I"⟩, prog_12_method_40_code, 3, some .int, 9, mc_132) := rfl
set_option maxRecDepth 20000 in
theorem m_q_133 : m_q 133 = (⟨"ShelfSlotsModel", "isGood", "(I)Z"⟩, prog_12_method_4_code, 2, some .boolean, 9, mc_133) := rfl
set_option maxRecDepth 20000 in
theorem m_q_134 : m_q 134 = (⟨"ShelfSlotsModel", "bitsOf", "(F)I"⟩, prog_12_method_39_code, 3, some .int, 9, mc_134) := rfl
set_option maxRecDepth 20000 in
theorem m_q_135 : m_q 135 = (⟨"ShelfSlotsModel", "ofSlot", "(II)I"⟩, prog_12_method_41_code, 3, some .int, 9, mc_135) := rfl
set_option maxRecDepth 20000 in
theorem m_q_136 : m_q 136 = (⟨"ShelfSlotsModel", "steps", "(II)I"⟩, prog_12_method_42_code, 3, some .int, 9, mc_136) := rfl
set_option maxRecDepth 20000 in
theorem m_q_137 : m_q 137 = (⟨"ShelfSlotsModel", "basket", "(III)I"⟩, prog_12_method_43_code, 5, some .int, 9, mc_137) := rfl
set_option maxRecDepth 20000 in
theorem m_q_138 : m_q 138 = (⟨"ShelfSlotsModel", "often", "(I)I"⟩, prog_12_method_44_code, 3, some .int, 9, mc_138) := rfl
set_option maxRecDepth 20000 in
theorem m_q_139 : m_q 139 = (⟨"ShelfSlotsModel", "count", "(I)I"⟩, prog_12_method_47_code, 2, some .int, 9, mc_139) := rfl
set_option maxRecDepth 20000 in
theorem m_q_140 : m_q 140 = (⟨"ShelfSlotsModel", "sumOf", "(II)I"⟩, prog_12_method_45_code, 5, some .int, 9, mc_140) := rfl
set_option maxRecDepth 20000 in
theorem m_q_141 : m_q 141 = (⟨"ShelfSlotsModel", "fastest", "()I"⟩, prog_12_method_46_code, 3, some .int, 9, mc_141) := rfl
set_option maxRecDepth 20000 in
theorem m_q_142 : m_q 142 = (⟨"ShelfSlotsModel", "meanSpeed", "()J"⟩, prog_12_method_49_code, 4, some .long, 9, mc_142) := rfl
set_option maxRecDepth 20000 in
theorem m_q_143 : m_q 143 = (⟨"ShelfSlotsModel", "longBitsOf", "(D)J"⟩, prog_12_method_48_code, 6, some .long, 9, mc_143) := rfl
set_option maxRecDepth 20000 in
theorem m_q_144 : m_q 144 = (⟨"ShelfSlotsModel", "walk", "(I)I"⟩, prog_12_method_50_code, 3, some .int, 9, mc_144) := rfl
set_option maxRecDepth 20000 in
theorem m_q_145 : m_q 145 = (⟨"ShelfSlotsModel", "stop", "(II)I"⟩, prog_12_method_51_code, 7, some .int, 9, mc_145) := rfl
set_option maxRecDepth 20000 in
theorem m_q_146 : m_q 146 = (⟨"ShelfSlotsModel", "shortest", "(I)I"⟩, prog_12_method_54_code, 3, some .int, 9, mc_146) := rfl
set_option maxRecDepth 20000 in
theorem m_q_147 : m_q 147 = (⟨"ShelfSlotsModel", "shortestOf", "(I)I"⟩, prog_12_method_52_code, 7, some .int, 9, mc_147) := rfl
set_option maxRecDepth 20000 in
theorem m_q_148 : m_q 148 = (⟨"ShelfSlotsModel", "wayTo", "(III)I"⟩, prog_12_method_53_code, 9, some .int, 9, mc_148) := rfl
set_option maxRecDepth 20000 in
theorem m_q_149 : m_q 149 = (⟨"ShelfSlotsModel", "bestSwap", "(I)I"⟩, prog_12_method_55_code, 3, some .int, 9, mc_149) := rfl
set_option maxRecDepth 20000 in
theorem m_q_150 : m_q 150 = (⟨"ShelfSlotsModel", "putBack", "()V"⟩, prog_12_method_7_code, 2, none, 9, mc_150) := rfl
set_option maxRecDepth 20000 in
theorem m_q_151 : m_q 151 = (⟨"ShelfSlotsModel", "ifSwapped", "(II)I"⟩, prog_12_method_56_code, 5, some .int, 9, mc_151) := rfl
set_option maxRecDepth 20000 in
theorem m_q_152 : m_q 152 = (⟨"ShelfSlotsModel", "badly", "()I"⟩, prog_12_method_57_code, 5, some .int, 9, mc_152) := rfl
set_option maxRecDepth 20000 in
theorem m_q_153 : m_q 153 = (⟨"ShelfSlotsModel", "put", "(J)I"⟩, prog_12_method_58_code, 8, some .int, 9, mc_153) := rfl
set_option maxRecDepth 20000 in
theorem m_q_154 : m_q 154 = (⟨"ShelfSlotsModel", "wipe", "()I"⟩, prog_12_method_59_code, 2, some .int, 9, mc_154) := rfl
set_option maxRecDepth 20000 in
theorem m_q_155 : m_q 155 = (⟨"ShelfSlotsModel", "fault", "()I"⟩, prog_12_method_67_code, 2, some .int, 9, mc_155) := rfl
set_option maxRecDepth 20000 in
theorem m_q_156 : m_q 156 = (⟨"ShelfSlotsModel", "goesThrough", "(Z)I"⟩, prog_12_method_66_code, 4, some .int, 9, mc_156) := rfl
set_option maxRecDepth 20000 in
theorem m_q_157 : m_q 157 = (⟨"ShelfSlotsModel", "readOrder", "()V"⟩, prog_12_method_64_code, 1, none, 9, mc_157) := rfl
set_option maxRecDepth 20000 in
theorem m_q_158 : m_q 158 = (⟨"ShelfSlotsModel", "readGood", "()V"⟩, prog_12_method_63_code, 2, none, 9, mc_158) := rfl
set_option maxRecDepth 20000 in
theorem m_q_159 : m_q 159 = (⟨"ShelfSlotsModel", "number", "()I"⟩, prog_12_method_62_code, 2, some .int, 9, mc_159) := rfl
set_option maxRecDepth 20000 in
theorem m_q_160 : m_q 160 = (⟨"ShelfSlotsModel", "isNext", "(II)Z"⟩, prog_12_method_60_code, 3, some .boolean, 9, mc_160) := rfl
set_option maxRecDepth 20000 in
theorem m_q_161 : m_q 161 = (⟨"ShelfSlotsModel", "takes", "(I)V"⟩, prog_12_method_61_code, 3, none, 9, mc_161) := rfl
set_option maxRecDepth 20000 in
theorem m_q_162 : m_q 162 = (⟨"ShelfSlotsModel", "does", "()I"⟩, prog_12_method_65_code, 1, some .int, 9, mc_162) := rfl
set_option maxRecDepth 20000 in
theorem m_q_163 : m_q 163 = (⟨"ShelfSlotsModel", "carryOut", "()I"⟩, prog_12_method_68_code, 2, some .int, 9, mc_163) := rfl
set_option maxRecDepth 20000 in
theorem m_q_164 : m_q 164 = (⟨"ShelfSlotsModel", "undo", "()I"⟩, prog_12_method_69_code, 2, some .int, 9, mc_164) := rfl
set_option maxRecDepth 20000 in
theorem m_q_165 : m_q 165 = (⟨"ShelfSlotsModel", "save", "(I)I"⟩, prog_12_method_70_code, 3, some .int, 9, mc_165) := rfl
set_option maxRecDepth 20000 in
theorem m_q_166 : m_q 166 = (⟨"ShelfSlotsModel", "restore", "(I)I"⟩, prog_12_method_71_code, 3, some .int, 9, mc_166) := rfl
set_option maxRecDepth 20000 in
theorem m_q_167 : m_q 167 = (⟨"ShelfSlotsLaw", "law", "([I)Z"⟩, code, 4, some .boolean, 12, mc_167) := rfl
theorem m_qd_0 : (parseMethodDescriptor "()V").map (fun d => d.parameters.length) = some 0 := by decide +kernel
theorem m_qp_0 : m_qP 0 0 := by
  unfold m_qP
  rw [m_q_0]
  exact ⟨m_lt rfl, m_w66, m_pl_8, m_qd_0⟩
theorem m_qd_1 : (parseMethodDescriptor "()V").map (fun d => d.parameters.length) = some 0 := by decide +kernel
theorem m_qp_1 : m_qP 1 0 := by
  unfold m_qP
  rw [m_q_1]
  exact ⟨m_lt rfl, m_w74, m_pl_6, m_qd_1⟩
theorem m_qd_2 : (parseMethodDescriptor "()V").map (fun d => d.parameters.length) = some 0 := by decide +kernel
theorem m_qp_2 : m_qP 2 0 := by
  unfold m_qP
  rw [m_q_2]
  exact ⟨m_lt rfl, m_w80, m_pl_0, m_qd_2⟩
theorem m_qd_3 : (parseMethodDescriptor "()V").map (fun d => d.parameters.length) = some 0 := by decide +kernel
theorem m_qp_3 : m_qP 3 0 := by
  unfold m_qP
  rw [m_q_3]
  exact ⟨m_lt rfl, m_w173, m_pl_7, m_qd_3⟩
theorem m_qd_4 : (parseMethodDescriptor "(LShelfSlots$Walker;)V").map (fun d => d.parameters.length) = some 1 := by decide +kernel
theorem m_qp_4 : m_qP 4 1 := by
  unfold m_qP
  rw [m_q_4]
  exact ⟨m_lt rfl, m_w186, m_pl_3, m_qd_4⟩
theorem m_qd_5 : (parseMethodDescriptor "()V").map (fun d => d.parameters.length) = some 0 := by decide +kernel
theorem m_qp_5 : m_qP 5 0 := by
  unfold m_qP
  rw [m_q_5]
  exact ⟨m_lt rfl, m_w204, m_pl_4, m_qd_5⟩
theorem m_qd_6 : (parseMethodDescriptor "()V").map (fun d => d.parameters.length) = some 0 := by decide +kernel
theorem m_qp_6 : m_qP 6 0 := by
  unfold m_qP
  rw [m_q_6]
  exact ⟨m_lt rfl, m_w210, m_pl_1, m_qd_6⟩
theorem m_qd_7 : (parseMethodDescriptor "()V").map (fun d => d.parameters.length) = some 0 := by decide +kernel
theorem m_qp_7 : m_qP 7 0 := by
  unfold m_qP
  rw [m_q_7]
  exact ⟨m_lt rfl, m_w241, m_pl_2, m_qd_7⟩
theorem m_qd_8 : (parseMethodDescriptor "(II)I").map (fun d => d.parameters.length) = some 2 := by decide +kernel
theorem m_qp_8 : m_qP 8 2 := by
  unfold m_qP
  rw [m_q_8]
  exact ⟨m_lt rfl, m_w286, m_pl_8, m_qd_8⟩
theorem m_qd_9 : (parseMethodDescriptor "(LShelfSlots$Shed;)V").map (fun d => d.parameters.length) = some 1 := by decide +kernel
theorem m_qp_9 : m_qP 9 1 := by
  unfold m_qP
  rw [m_q_9]
  exact ⟨m_lt rfl, m_w290, m_pl_2, m_qd_9⟩
theorem m_qd_10 : (parseMethodDescriptor "(LShelfSlots$Shed;)V").map (fun d => d.parameters.length) = some 1 := by decide +kernel
theorem m_qp_10 : m_qP 10 1 := by
  unfold m_qP
  rw [m_q_10]
  exact ⟨m_lt rfl, m_w294, m_pl_6, m_qd_10⟩
theorem m_qd_11 : (parseMethodDescriptor "(LShelfSlots$Day;)V").map (fun d => d.parameters.length) = some 1 := by decide +kernel
theorem m_qp_11 : m_qP 11 1 := by
  unfold m_qP
  rw [m_q_11]
  exact ⟨m_lt rfl, m_w301, m_pl_0, m_qd_11⟩
theorem m_qd_12 : (parseMethodDescriptor "(II)I").map (fun d => d.parameters.length) = some 2 := by decide +kernel
theorem m_qp_12 : m_qP 12 2 := by
  unfold m_qP
  rw [m_q_12]
  exact ⟨m_lt rfl, m_w306, m_pl_6, m_qd_12⟩
theorem m_qd_13 : (parseMethodDescriptor "(I)I").map (fun d => d.parameters.length) = some 1 := by decide +kernel
theorem m_qp_13 : m_qP 13 1 := by
  unfold m_qP
  rw [m_q_13]
  exact ⟨m_lt rfl, m_w310, m_pl_8, m_qd_13⟩
theorem m_qd_14 : (parseMethodDescriptor "()V").map (fun d => d.parameters.length) = some 0 := by decide +kernel
theorem m_qp_14 : m_qP 14 0 := by
  unfold m_qP
  rw [m_q_14]
  exact ⟨m_lt rfl, m_w314, m_pl_2, m_qd_14⟩
theorem m_qd_15 : (parseMethodDescriptor "(I)I").map (fun d => d.parameters.length) = some 1 := by decide +kernel
theorem m_qp_15 : m_qP 15 1 := by
  unfold m_qP
  rw [m_q_15]
  exact ⟨m_lt rfl, m_w321, m_pl_8, m_qd_15⟩
theorem m_qd_16 : (parseMethodDescriptor "(I)I").map (fun d => d.parameters.length) = some 1 := by decide +kernel
theorem m_qp_16 : m_qP 16 1 := by
  unfold m_qP
  rw [m_q_16]
  exact ⟨m_lt rfl, m_w325, m_pl_6, m_qd_16⟩
theorem m_qd_17 : (parseMethodDescriptor "(I)Z").map (fun d => d.parameters.length) = some 1 := by decide +kernel
theorem m_qp_17 : m_qP 17 1 := by
  unfold m_qP
  rw [m_q_17]
  exact ⟨m_lt rfl, m_w328, m_pl_6, m_qd_17⟩
theorem m_qd_18 : (parseMethodDescriptor "(II)I").map (fun d => d.parameters.length) = some 2 := by decide +kernel
theorem m_qp_18 : m_qP 18 2 := by
  unfold m_qP
  rw [m_q_18]
  exact ⟨m_lt rfl, m_w332, m_pl_8, m_qd_18⟩
theorem m_qd_19 : (parseMethodDescriptor "(II)I").map (fun d => d.parameters.length) = some 2 := by decide +kernel
theorem m_qp_19 : m_qP 19 2 := by
  unfold m_qP
  rw [m_q_19]
  exact ⟨m_lt rfl, m_w336, m_pl_6, m_qd_19⟩
theorem m_qd_20 : (parseMethodDescriptor "(II)I").map (fun d => d.parameters.length) = some 2 := by decide +kernel
theorem m_qp_20 : m_qP 20 2 := by
  unfold m_qP
  rw [m_q_20]
  exact ⟨m_lt rfl, m_w340, m_pl_6, m_qd_20⟩
theorem m_qd_21 : (parseMethodDescriptor "(II)V").map (fun d => d.parameters.length) = some 2 := by decide +kernel
theorem m_qp_21 : m_qP 21 2 := by
  unfold m_qP
  rw [m_q_21]
  exact ⟨m_lt rfl, m_w344, m_pl_6, m_qd_21⟩
theorem m_qd_22 : (parseMethodDescriptor "(II)V").map (fun d => d.parameters.length) = some 2 := by decide +kernel
theorem m_qp_22 : m_qP 22 2 := by
  unfold m_qP
  rw [m_q_22]
  exact ⟨m_lt rfl, m_w348, m_pl_6, m_qd_22⟩
theorem m_qd_23 : (parseMethodDescriptor "(I)I").map (fun d => d.parameters.length) = some 1 := by decide +kernel
theorem m_qp_23 : m_qP 23 1 := by
  unfold m_qP
  rw [m_q_23]
  exact ⟨m_lt rfl, m_w352, m_pl_6, m_qd_23⟩
theorem m_qd_24 : (parseMethodDescriptor "(I)I").map (fun d => d.parameters.length) = some 1 := by decide +kernel
theorem m_qp_24 : m_qP 24 1 := by
  unfold m_qP
  rw [m_q_24]
  exact ⟨m_lt rfl, m_w356, m_pl_8, m_qd_24⟩
theorem m_qd_25 : (parseMethodDescriptor "(I)I").map (fun d => d.parameters.length) = some 1 := by decide +kernel
theorem m_qp_25 : m_qP 25 1 := by
  unfold m_qP
  rw [m_q_25]
  exact ⟨m_lt rfl, m_w360, m_pl_6, m_qd_25⟩
theorem m_qd_26 : (parseMethodDescriptor "(I)Z").map (fun d => d.parameters.length) = some 1 := by decide +kernel
theorem m_qp_26 : m_qP 26 1 := by
  unfold m_qP
  rw [m_q_26]
  exact ⟨m_lt rfl, m_w364, m_pl_6, m_qd_26⟩
theorem m_qd_27 : (parseMethodDescriptor "(I)I").map (fun d => d.parameters.length) = some 1 := by decide +kernel
theorem m_qp_27 : m_qP 27 1 := by
  unfold m_qP
  rw [m_q_27]
  exact ⟨m_lt rfl, m_w368, m_pl_8, m_qd_27⟩
theorem m_qd_28 : (parseMethodDescriptor "(I)I").map (fun d => d.parameters.length) = some 1 := by decide +kernel
theorem m_qp_28 : m_qP 28 1 := by
  unfold m_qP
  rw [m_q_28]
  exact ⟨m_lt rfl, m_w372, m_pl_8, m_qd_28⟩
theorem m_qd_29 : (parseMethodDescriptor "(I)I").map (fun d => d.parameters.length) = some 1 := by decide +kernel
theorem m_qp_29 : m_qP 29 1 := by
  unfold m_qP
  rw [m_q_29]
  exact ⟨m_lt rfl, m_w376, m_pl_8, m_qd_29⟩
theorem m_qd_30 : (parseMethodDescriptor "(I)I").map (fun d => d.parameters.length) = some 1 := by decide +kernel
theorem m_qp_30 : m_qP 30 1 := by
  unfold m_qP
  rw [m_q_30]
  exact ⟨m_lt rfl, m_w379, m_pl_10, m_qd_30⟩
theorem m_qd_31 : (parseMethodDescriptor "(LShelfSlots$Shed;I)I").map (fun d => d.parameters.length) = some 2 := by decide +kernel
theorem m_qp_31 : m_qP 31 2 := by
  unfold m_qP
  rw [m_q_31]
  exact ⟨m_lt rfl, m_w386, m_pl_7, m_qd_31⟩
theorem m_qd_32 : (parseMethodDescriptor "(I)V").map (fun d => d.parameters.length) = some 1 := by decide +kernel
theorem m_qp_32 : m_qP 32 1 := by
  unfold m_qP
  rw [m_q_32]
  exact ⟨m_lt rfl, m_w390, m_pl_7, m_qd_32⟩
theorem m_qd_33 : (parseMethodDescriptor "(II)I").map (fun d => d.parameters.length) = some 2 := by decide +kernel
theorem m_qp_33 : m_qP 33 2 := by
  unfold m_qP
  rw [m_q_33]
  exact ⟨m_lt rfl, m_w395, m_pl_6, m_qd_33⟩
theorem m_qd_34 : (parseMethodDescriptor "(II)V").map (fun d => d.parameters.length) = some 2 := by decide +kernel
theorem m_qp_34 : m_qP 34 2 := by
  unfold m_qP
  rw [m_q_34]
  exact ⟨m_lt rfl, m_w399, m_pl_7, m_qd_34⟩
theorem m_qd_35 : (parseMethodDescriptor "(I)I").map (fun d => d.parameters.length) = some 1 := by decide +kernel
theorem m_qp_35 : m_qP 35 1 := by
  unfold m_qP
  rw [m_q_35]
  exact ⟨m_lt rfl, m_w403, m_pl_6, m_qd_35⟩
theorem m_qd_36 : (parseMethodDescriptor "(II)V").map (fun d => d.parameters.length) = some 2 := by decide +kernel
theorem m_qp_36 : m_qP 36 2 := by
  unfold m_qP
  rw [m_q_36]
  exact ⟨m_lt rfl, m_w407, m_pl_6, m_qd_36⟩
theorem m_qd_37 : (parseMethodDescriptor "(I)I").map (fun d => d.parameters.length) = some 1 := by decide +kernel
theorem m_qp_37 : m_qP 37 1 := by
  unfold m_qP
  rw [m_q_37]
  exact ⟨m_lt rfl, m_w413, m_pl_6, m_qd_37⟩
theorem m_qd_38 : (parseMethodDescriptor "()I").map (fun d => d.parameters.length) = some 0 := by decide +kernel
theorem m_qp_38 : m_qP 38 0 := by
  unfold m_qP
  rw [m_q_38]
  exact ⟨m_lt rfl, m_w417, m_pl_6, m_qd_38⟩
theorem m_qd_39 : (parseMethodDescriptor "(IIILShelfSlots$Picked;)V").map (fun d => d.parameters.length) = some 4 := by decide +kernel
theorem m_qp_39 : m_qP 39 4 := by
  unfold m_qP
  rw [m_q_39]
  exact ⟨m_lt rfl, m_w420, m_pl_5, m_qd_39⟩
theorem m_qd_40 : (parseMethodDescriptor "(II)V").map (fun d => d.parameters.length) = some 2 := by decide +kernel
theorem m_qp_40 : m_qP 40 2 := by
  unfold m_qP
  rw [m_q_40]
  exact ⟨m_lt rfl, m_w442, m_pl_0, m_qd_40⟩
theorem m_qd_41 : (parseMethodDescriptor "()I").map (fun d => d.parameters.length) = some 0 := by decide +kernel
theorem m_qp_41 : m_qP 41 0 := by
  unfold m_qP
  rw [m_q_41]
  exact ⟨m_lt rfl, m_w446, m_pl_8, m_qd_41⟩
theorem m_qd_42 : (parseMethodDescriptor "(LShelfSlots$Shed;)I").map (fun d => d.parameters.length) = some 1 := by decide +kernel
theorem m_qp_42 : m_qP 42 1 := by
  unfold m_qP
  rw [m_q_42]
  exact ⟨m_lt rfl, m_w450, m_pl_3, m_qd_42⟩
theorem m_qd_43 : (parseMethodDescriptor "()V").map (fun d => d.parameters.length) = some 0 := by decide +kernel
theorem m_qp_43 : m_qP 43 0 := by
  unfold m_qP
  rw [m_q_43]
  exact ⟨m_lt rfl, m_w454, m_pl_6, m_qd_43⟩
theorem m_qd_44 : (parseMethodDescriptor "(LShelfSlots$Shed;)Z").map (fun d => d.parameters.length) = some 1 := by decide +kernel
theorem m_qp_44 : m_qP 44 1 := by
  unfold m_qP
  rw [m_q_44]
  exact ⟨m_lt rfl, m_w459, m_pl_3, m_qd_44⟩
theorem m_qd_45 : (parseMethodDescriptor "()F").map (fun d => d.parameters.length) = some 0 := by decide +kernel
theorem m_qp_45 : m_qP 45 0 := by
  unfold m_qP
  rw [m_q_45]
  exact ⟨m_lt rfl, m_w463, m_pl_6, m_qd_45⟩
theorem m_qd_46 : (parseMethodDescriptor "(LShelfSlots$Shed;)I").map (fun d => d.parameters.length) = some 1 := by decide +kernel
theorem m_qp_46 : m_qP 46 1 := by
  unfold m_qP
  rw [m_q_46]
  exact ⟨m_lt rfl, m_w468, m_pl_7, m_qd_46⟩
theorem m_qd_47 : (parseMethodDescriptor "(II)Z").map (fun d => d.parameters.length) = some 2 := by decide +kernel
theorem m_qp_47 : m_qP 47 2 := by
  unfold m_qP
  rw [m_q_47]
  exact ⟨m_lt rfl, m_w473, m_pl_6, m_qd_47⟩
theorem m_qd_48 : (parseMethodDescriptor "()V").map (fun d => d.parameters.length) = some 0 := by decide +kernel
theorem m_qp_48 : m_qP 48 0 := by
  unfold m_qP
  rw [m_q_48]
  exact ⟨m_lt rfl, m_w479, m_pl_6, m_qd_48⟩
theorem m_qd_49 : (parseMethodDescriptor "(II)I").map (fun d => d.parameters.length) = some 2 := by decide +kernel
theorem m_qp_49 : m_qP 49 2 := by
  unfold m_qP
  rw [m_q_49]
  exact ⟨m_lt rfl, m_w483, m_pl_8, m_qd_49⟩
theorem m_qd_50 : (parseMethodDescriptor "(F)I").map (fun d => d.parameters.length) = some 1 := by decide +kernel
theorem m_qp_50 : m_qP 50 1 := by
  unfold m_qP
  rw [m_q_50]
  exact ⟨m_lt rfl, m_w486, m_pl_11, m_qd_50⟩
theorem m_qd_51 : (parseMethodDescriptor "(D)I").map (fun d => d.parameters.length) = some 1 := by decide +kernel
theorem m_qp_51 : m_qP 51 1 := by
  unfold m_qP
  rw [m_q_51]
  exact ⟨m_lt rfl, m_w489, m_pl_11, m_qd_51⟩
theorem m_qd_52 : (parseMethodDescriptor "(DI)D").map (fun d => d.parameters.length) = some 2 := by decide +kernel
theorem m_qp_52 : m_qP 52 2 := by
  unfold m_qP
  rw [m_q_52]
  exact ⟨m_lt rfl, m_w493, m_pl_11, m_qd_52⟩
theorem m_qd_53 : (parseMethodDescriptor "(II)I").map (fun d => d.parameters.length) = some 2 := by decide +kernel
theorem m_qp_53 : m_qP 53 2 := by
  unfold m_qP
  rw [m_q_53]
  exact ⟨m_lt rfl, m_w501, m_pl_8, m_qd_53⟩
theorem m_qd_54 : (parseMethodDescriptor "(II)I").map (fun d => d.parameters.length) = some 2 := by decide +kernel
theorem m_qp_54 : m_qP 54 2 := by
  unfold m_qP
  rw [m_q_54]
  exact ⟨m_lt rfl, m_w507, m_pl_8, m_qd_54⟩
theorem m_qd_55 : (parseMethodDescriptor "(III)I").map (fun d => d.parameters.length) = some 3 := by decide +kernel
theorem m_qp_55 : m_qP 55 3 := by
  unfold m_qP
  rw [m_q_55]
  exact ⟨m_lt rfl, m_w512, m_pl_8, m_qd_55⟩
theorem m_qd_56 : (parseMethodDescriptor "(I)I").map (fun d => d.parameters.length) = some 1 := by decide +kernel
theorem m_qp_56 : m_qP 56 1 := by
  unfold m_qP
  rw [m_q_56]
  exact ⟨m_lt rfl, m_w516, m_pl_8, m_qd_56⟩
theorem m_qd_57 : (parseMethodDescriptor "(I)I").map (fun d => d.parameters.length) = some 1 := by decide +kernel
theorem m_qp_57 : m_qP 57 1 := by
  unfold m_qP
  rw [m_q_57]
  exact ⟨m_lt rfl, m_w521, m_pl_8, m_qd_57⟩
theorem m_qd_58 : (parseMethodDescriptor "()I").map (fun d => d.parameters.length) = some 0 := by decide +kernel
theorem m_qp_58 : m_qP 58 0 := by
  unfold m_qP
  rw [m_q_58]
  exact ⟨m_lt rfl, m_w525, m_pl_0, m_qd_58⟩
theorem m_qd_59 : (parseMethodDescriptor "()I").map (fun d => d.parameters.length) = some 0 := by decide +kernel
theorem m_qp_59 : m_qP 59 0 := by
  unfold m_qP
  rw [m_q_59]
  exact ⟨m_lt rfl, m_w530, m_pl_6, m_qd_59⟩
theorem m_qd_60 : (parseMethodDescriptor "()J").map (fun d => d.parameters.length) = some 0 := by decide +kernel
theorem m_qp_60 : m_qP 60 0 := by
  unfold m_qP
  rw [m_q_60]
  exact ⟨m_lt rfl, m_w535, m_pl_8, m_qd_60⟩
theorem m_qd_61 : (parseMethodDescriptor "()D").map (fun d => d.parameters.length) = some 0 := by decide +kernel
theorem m_qp_61 : m_qP 61 0 := by
  unfold m_qP
  rw [m_q_61]
  exact ⟨m_lt rfl, m_w539, m_pl_6, m_qd_61⟩
theorem m_qd_62 : (parseMethodDescriptor "(D)J").map (fun d => d.parameters.length) = some 1 := by decide +kernel
theorem m_qp_62 : m_qP 62 1 := by
  unfold m_qP
  rw [m_q_62]
  exact ⟨m_lt rfl, m_w542, m_pl_11, m_qd_62⟩
theorem m_qd_63 : (parseMethodDescriptor "(I)I").map (fun d => d.parameters.length) = some 1 := by decide +kernel
theorem m_qp_63 : m_qP 63 1 := by
  unfold m_qP
  rw [m_q_63]
  exact ⟨m_lt rfl, m_w548, m_pl_8, m_qd_63⟩
theorem m_qd_64 : (parseMethodDescriptor "(II)I").map (fun d => d.parameters.length) = some 2 := by decide +kernel
theorem m_qp_64 : m_qP 64 2 := by
  unfold m_qP
  rw [m_q_64]
  exact ⟨m_lt rfl, m_w552, m_pl_8, m_qd_64⟩
theorem m_qd_65 : (parseMethodDescriptor "(I)I").map (fun d => d.parameters.length) = some 1 := by decide +kernel
theorem m_qp_65 : m_qP 65 1 := by
  unfold m_qP
  rw [m_q_65]
  exact ⟨m_lt rfl, m_w556, m_pl_7, m_qd_65⟩
theorem m_qd_66 : (parseMethodDescriptor "(I)I").map (fun d => d.parameters.length) = some 1 := by decide +kernel
theorem m_qp_66 : m_qP 66 1 := by
  unfold m_qP
  rw [m_q_66]
  exact ⟨m_lt rfl, m_w560, m_pl_8, m_qd_66⟩
theorem m_qd_67 : (parseMethodDescriptor "(LShelfSlots$Shed;I)I").map (fun d => d.parameters.length) = some 2 := by decide +kernel
theorem m_qp_67 : m_qP 67 2 := by
  unfold m_qP
  rw [m_q_67]
  exact ⟨m_lt rfl, m_w564, m_pl_7, m_qd_67⟩
theorem m_qd_68 : (parseMethodDescriptor "(LShelfSlots$Shed;I)I").map (fun d => d.parameters.length) = some 2 := by decide +kernel
theorem m_qp_68 : m_qP 68 2 := by
  unfold m_qP
  rw [m_q_68]
  exact ⟨m_lt rfl, m_w568, m_pl_7, m_qd_68⟩
theorem m_qd_69 : (parseMethodDescriptor "(I)I").map (fun d => d.parameters.length) = some 1 := by decide +kernel
theorem m_qp_69 : m_qP 69 1 := by
  unfold m_qP
  rw [m_q_69]
  exact ⟨m_lt rfl, m_w575, m_pl_8, m_qd_69⟩
theorem m_qd_70 : (parseMethodDescriptor "(II)I").map (fun d => d.parameters.length) = some 2 := by decide +kernel
theorem m_qp_70 : m_qP 70 2 := by
  unfold m_qP
  rw [m_q_70]
  exact ⟨m_lt rfl, m_w582, m_pl_8, m_qd_70⟩
theorem m_qd_71 : (parseMethodDescriptor "()I").map (fun d => d.parameters.length) = some 0 := by decide +kernel
theorem m_qp_71 : m_qP 71 0 := by
  unfold m_qP
  rw [m_q_71]
  exact ⟨m_lt rfl, m_w588, m_pl_8, m_qd_71⟩
theorem m_qd_72 : (parseMethodDescriptor "(I)Z").map (fun d => d.parameters.length) = some 1 := by decide +kernel
theorem m_qp_72 : m_qP 72 1 := by
  unfold m_qP
  rw [m_q_72]
  exact ⟨m_lt rfl, m_w592, m_pl_6, m_qd_72⟩
theorem m_qd_73 : (parseMethodDescriptor "(J)I").map (fun d => d.parameters.length) = some 1 := by decide +kernel
theorem m_qp_73 : m_qP 73 1 := by
  unfold m_qP
  rw [m_q_73]
  exact ⟨m_lt rfl, m_w596, m_pl_8, m_qd_73⟩
theorem m_qd_74 : (parseMethodDescriptor "(J)I").map (fun d => d.parameters.length) = some 1 := by decide +kernel
theorem m_qp_74 : m_qP 74 1 := by
  unfold m_qP
  rw [m_q_74]
  exact ⟨m_lt rfl, m_w600, m_pl_4, m_qd_74⟩
theorem m_qd_75 : (parseMethodDescriptor "()I").map (fun d => d.parameters.length) = some 0 := by decide +kernel
theorem m_qp_75 : m_qP 75 0 := by
  unfold m_qP
  rw [m_q_75]
  exact ⟨m_lt rfl, m_w605, m_pl_8, m_qd_75⟩
theorem m_qd_76 : (parseMethodDescriptor "()I").map (fun d => d.parameters.length) = some 0 := by decide +kernel
theorem m_qp_76 : m_qP 76 0 := by
  unfold m_qP
  rw [m_q_76]
  exact ⟨m_lt rfl, m_w609, m_pl_4, m_qd_76⟩
theorem m_qd_77 : (parseMethodDescriptor "()I").map (fun d => d.parameters.length) = some 0 := by decide +kernel
theorem m_qp_77 : m_qP 77 0 := by
  unfold m_qP
  rw [m_q_77]
  exact ⟨m_lt rfl, m_w613, m_pl_8, m_qd_77⟩
theorem m_qd_78 : (parseMethodDescriptor "()I").map (fun d => d.parameters.length) = some 0 := by decide +kernel
theorem m_qp_78 : m_qP 78 0 := by
  unfold m_qP
  rw [m_q_78]
  exact ⟨m_lt rfl, m_w617, m_pl_4, m_qd_78⟩
theorem m_qd_79 : (parseMethodDescriptor "()V").map (fun d => d.parameters.length) = some 0 := by decide +kernel
theorem m_qp_79 : m_qP 79 0 := by
  unfold m_qP
  rw [m_q_79]
  exact ⟨m_lt rfl, m_w621, m_pl_1, m_qd_79⟩
theorem m_qd_80 : (parseMethodDescriptor "(C)Z").map (fun d => d.parameters.length) = some 1 := by decide +kernel
theorem m_qp_80 : m_qP 80 1 := by
  unfold m_qP
  rw [m_q_80]
  exact ⟨m_lt rfl, m_w625, m_pl_1, m_qd_80⟩
theorem m_qd_81 : (parseMethodDescriptor "(C)Z").map (fun d => d.parameters.length) = some 1 := by decide +kernel
theorem m_qp_81 : m_qP 81 1 := by
  unfold m_qP
  rw [m_q_81]
  exact ⟨m_lt rfl, m_w629, m_pl_1, m_qd_81⟩
theorem m_qd_82 : (parseMethodDescriptor "(C)Z").map (fun d => d.parameters.length) = some 1 := by decide +kernel
theorem m_qp_82 : m_qP 82 1 := by
  unfold m_qP
  rw [m_q_82]
  exact ⟨m_lt rfl, m_w632, m_pl_1, m_qd_82⟩
theorem m_qd_83 : (parseMethodDescriptor "(C)Z").map (fun d => d.parameters.length) = some 1 := by decide +kernel
theorem m_qp_83 : m_qP 83 1 := by
  unfold m_qP
  rw [m_q_83]
  exact ⟨m_lt rfl, m_w636, m_pl_1, m_qd_83⟩
theorem m_qd_84 : (parseMethodDescriptor "()Z").map (fun d => d.parameters.length) = some 0 := by decide +kernel
theorem m_qp_84 : m_qP 84 0 := by
  unfold m_qP
  rw [m_q_84]
  exact ⟨m_lt rfl, m_w640, m_pl_1, m_qd_84⟩
theorem m_qd_85 : (parseMethodDescriptor "()I").map (fun d => d.parameters.length) = some 0 := by decide +kernel
theorem m_qp_85 : m_qP 85 0 := by
  unfold m_qP
  rw [m_q_85]
  exact ⟨m_lt rfl, m_w644, m_pl_8, m_qd_85⟩
theorem m_qd_86 : (parseMethodDescriptor "()V").map (fun d => d.parameters.length) = some 0 := by decide +kernel
theorem m_qp_86 : m_qP 86 0 := by
  unfold m_qP
  rw [m_q_86]
  exact ⟨m_lt rfl, m_w648, m_pl_4, m_qd_86⟩
theorem m_qd_87 : (parseMethodDescriptor "()I").map (fun d => d.parameters.length) = some 0 := by decide +kernel
theorem m_qp_87 : m_qP 87 0 := by
  unfold m_qP
  rw [m_q_87]
  exact ⟨m_lt rfl, m_w652, m_pl_8, m_qd_87⟩
theorem m_qd_88 : (parseMethodDescriptor "()C").map (fun d => d.parameters.length) = some 0 := by decide +kernel
theorem m_qp_88 : m_qP 88 0 := by
  unfold m_qP
  rw [m_q_88]
  exact ⟨m_lt rfl, m_w656, m_pl_4, m_qd_88⟩
theorem m_qd_89 : (parseMethodDescriptor "()I").map (fun d => d.parameters.length) = some 0 := by decide +kernel
theorem m_qp_89 : m_qP 89 0 := by
  unfold m_qP
  rw [m_q_89]
  exact ⟨m_lt rfl, m_w660, m_pl_4, m_qd_89⟩
theorem m_qd_90 : (parseMethodDescriptor "()I").map (fun d => d.parameters.length) = some 0 := by decide +kernel
theorem m_qp_90 : m_qP 90 0 := by
  unfold m_qP
  rw [m_q_90]
  exact ⟨m_lt rfl, m_w665, m_pl_4, m_qd_90⟩
theorem m_qd_91 : (parseMethodDescriptor "(C)Z").map (fun d => d.parameters.length) = some 1 := by decide +kernel
theorem m_qp_91 : m_qP 91 1 := by
  unfold m_qP
  rw [m_q_91]
  exact ⟨m_lt rfl, m_w671, m_pl_4, m_qd_91⟩
theorem m_qd_92 : (parseMethodDescriptor "()I").map (fun d => d.parameters.length) = some 0 := by decide +kernel
theorem m_qp_92 : m_qP 92 0 := by
  unfold m_qP
  rw [m_q_92]
  exact ⟨m_lt rfl, m_w676, m_pl_8, m_qd_92⟩
theorem m_qd_93 : (parseMethodDescriptor "(LShelfSlots$Shed;)I").map (fun d => d.parameters.length) = some 1 := by decide +kernel
theorem m_qp_93 : m_qP 93 1 := by
  unfold m_qP
  rw [m_q_93]
  exact ⟨m_lt rfl, m_w680, m_pl_2, m_qd_93⟩
theorem m_qd_94 : (parseMethodDescriptor "(I)I").map (fun d => d.parameters.length) = some 1 := by decide +kernel
theorem m_qp_94 : m_qP 94 1 := by
  unfold m_qP
  rw [m_q_94]
  exact ⟨m_lt rfl, m_w684, m_pl_8, m_qd_94⟩
theorem m_qd_95 : (parseMethodDescriptor "(I)I").map (fun d => d.parameters.length) = some 1 := by decide +kernel
theorem m_qp_95 : m_qP 95 1 := by
  unfold m_qP
  rw [m_q_95]
  exact ⟨m_lt rfl, m_w688, m_pl_8, m_qd_95⟩
theorem m_qd_96 : (parseMethodDescriptor "()V").map (fun d => d.parameters.length) = some 0 := by decide +kernel
theorem m_qp_96 : m_qP 96 0 := by
  unfold m_qP
  rw [m_q_96]
  exact ⟨m_lt rfl, m_w693, m_pl_9, m_qd_96⟩
theorem m_qd_97 : (parseMethodDescriptor "(II)I").map (fun d => d.parameters.length) = some 2 := by decide +kernel
theorem m_qp_97 : m_qP 97 2 := by
  unfold m_qP
  rw [m_q_97]
  exact ⟨m_lt rfl, m_w771, m_pl_9, m_qd_97⟩
theorem m_qd_98 : (parseMethodDescriptor "()V").map (fun d => d.parameters.length) = some 0 := by decide +kernel
theorem m_qp_98 : m_qP 98 0 := by
  unfold m_qP
  rw [m_q_98]
  exact ⟨m_lt rfl, m_w775, m_pl_9, m_qd_98⟩
theorem m_qd_99 : (parseMethodDescriptor "(III)Z").map (fun d => d.parameters.length) = some 3 := by decide +kernel
theorem m_qp_99 : m_qP 99 3 := by
  unfold m_qP
  rw [m_q_99]
  exact ⟨m_lt rfl, m_w778, m_pl_9, m_qd_99⟩
theorem m_qd_100 : (parseMethodDescriptor "(I)I").map (fun d => d.parameters.length) = some 1 := by decide +kernel
theorem m_qp_100 : m_qP 100 1 := by
  unfold m_qP
  rw [m_q_100]
  exact ⟨m_lt rfl, m_w781, m_pl_9, m_qd_100⟩
theorem m_qd_101 : (parseMethodDescriptor "(I)I").map (fun d => d.parameters.length) = some 1 := by decide +kernel
theorem m_qp_101 : m_qP 101 1 := by
  unfold m_qP
  rw [m_q_101]
  exact ⟨m_lt rfl, m_w784, m_pl_9, m_qd_101⟩
theorem m_qd_102 : (parseMethodDescriptor "(I)I").map (fun d => d.parameters.length) = some 1 := by decide +kernel
theorem m_qp_102 : m_qP 102 1 := by
  unfold m_qP
  rw [m_q_102]
  exact ⟨m_lt rfl, m_w788, m_pl_9, m_qd_102⟩
theorem m_qd_103 : (parseMethodDescriptor "()V").map (fun d => d.parameters.length) = some 0 := by decide +kernel
theorem m_qp_103 : m_qP 103 0 := by
  unfold m_qP
  rw [m_q_103]
  exact ⟨m_lt rfl, m_w792, m_pl_9, m_qd_103⟩
theorem m_qd_104 : (parseMethodDescriptor "(I)I").map (fun d => d.parameters.length) = some 1 := by decide +kernel
theorem m_qp_104 : m_qP 104 1 := by
  unfold m_qP
  rw [m_q_104]
  exact ⟨m_lt rfl, m_w796, m_pl_9, m_qd_104⟩
theorem m_qd_105 : (parseMethodDescriptor "(I)I").map (fun d => d.parameters.length) = some 1 := by decide +kernel
theorem m_qp_105 : m_qP 105 1 := by
  unfold m_qP
  rw [m_q_105]
  exact ⟨m_lt rfl, m_w800, m_pl_9, m_qd_105⟩
theorem m_qd_106 : (parseMethodDescriptor "(I)Z").map (fun d => d.parameters.length) = some 1 := by decide +kernel
theorem m_qp_106 : m_qP 106 1 := by
  unfold m_qP
  rw [m_q_106]
  exact ⟨m_lt rfl, m_w803, m_pl_9, m_qd_106⟩
theorem m_qd_107 : (parseMethodDescriptor "(I)I").map (fun d => d.parameters.length) = some 1 := by decide +kernel
theorem m_qp_107 : m_qP 107 1 := by
  unfold m_qP
  rw [m_q_107]
  exact ⟨m_lt rfl, m_w807, m_pl_9, m_qd_107⟩
theorem m_qd_108 : (parseMethodDescriptor "(I)I").map (fun d => d.parameters.length) = some 1 := by decide +kernel
theorem m_qp_108 : m_qP 108 1 := by
  unfold m_qP
  rw [m_q_108]
  exact ⟨m_lt rfl, m_w811, m_pl_9, m_qd_108⟩
theorem m_qd_109 : (parseMethodDescriptor "(II)I").map (fun d => d.parameters.length) = some 2 := by decide +kernel
theorem m_qp_109 : m_qP 109 2 := by
  unfold m_qP
  rw [m_q_109]
  exact ⟨m_lt rfl, m_w814, m_pl_9, m_qd_109⟩
theorem m_qd_110 : (parseMethodDescriptor "(II)I").map (fun d => d.parameters.length) = some 2 := by decide +kernel
theorem m_qp_110 : m_qP 110 2 := by
  unfold m_qP
  rw [m_q_110]
  exact ⟨m_lt rfl, m_w818, m_pl_9, m_qd_110⟩
theorem m_qd_111 : (parseMethodDescriptor "(II)I").map (fun d => d.parameters.length) = some 2 := by decide +kernel
theorem m_qp_111 : m_qP 111 2 := by
  unfold m_qP
  rw [m_q_111]
  exact ⟨m_lt rfl, m_w822, m_pl_9, m_qd_111⟩
theorem m_qd_112 : (parseMethodDescriptor "(II)I").map (fun d => d.parameters.length) = some 2 := by decide +kernel
theorem m_qp_112 : m_qP 112 2 := by
  unfold m_qP
  rw [m_q_112]
  exact ⟨m_lt rfl, m_w826, m_pl_9, m_qd_112⟩
theorem m_qd_113 : (parseMethodDescriptor "(I)V").map (fun d => d.parameters.length) = some 1 := by decide +kernel
theorem m_qp_113 : m_qP 113 1 := by
  unfold m_qP
  rw [m_q_113]
  exact ⟨m_lt rfl, m_w830, m_pl_9, m_qd_113⟩
theorem m_qd_114 : (parseMethodDescriptor "(I)I").map (fun d => d.parameters.length) = some 1 := by decide +kernel
theorem m_qp_114 : m_qP 114 1 := by
  unfold m_qP
  rw [m_q_114]
  exact ⟨m_lt rfl, m_w834, m_pl_9, m_qd_114⟩
theorem m_qd_115 : (parseMethodDescriptor "(I)I").map (fun d => d.parameters.length) = some 1 := by decide +kernel
theorem m_qp_115 : m_qP 115 1 := by
  unfold m_qP
  rw [m_q_115]
  exact ⟨m_lt rfl, m_w838, m_pl_9, m_qd_115⟩
theorem m_qd_116 : (parseMethodDescriptor "(I)I").map (fun d => d.parameters.length) = some 1 := by decide +kernel
theorem m_qp_116 : m_qP 116 1 := by
  unfold m_qP
  rw [m_q_116]
  exact ⟨m_lt rfl, m_w842, m_pl_9, m_qd_116⟩
theorem m_qd_117 : (parseMethodDescriptor "(I)I").map (fun d => d.parameters.length) = some 1 := by decide +kernel
theorem m_qp_117 : m_qP 117 1 := by
  unfold m_qP
  rw [m_q_117]
  exact ⟨m_lt rfl, m_w846, m_pl_9, m_qd_117⟩
theorem m_qd_118 : (parseMethodDescriptor "(I)I").map (fun d => d.parameters.length) = some 1 := by decide +kernel
theorem m_qp_118 : m_qP 118 1 := by
  unfold m_qP
  rw [m_q_118]
  exact ⟨m_lt rfl, m_w850, m_pl_9, m_qd_118⟩
theorem m_qd_119 : (parseMethodDescriptor "(I)I").map (fun d => d.parameters.length) = some 1 := by decide +kernel
theorem m_qp_119 : m_qP 119 1 := by
  unfold m_qP
  rw [m_q_119]
  exact ⟨m_lt rfl, m_w853, m_pl_9, m_qd_119⟩
theorem m_qd_120 : (parseMethodDescriptor "(I)I").map (fun d => d.parameters.length) = some 1 := by decide +kernel
theorem m_qp_120 : m_qP 120 1 := by
  unfold m_qP
  rw [m_q_120]
  exact ⟨m_lt rfl, m_w857, m_pl_9, m_qd_120⟩
theorem m_qd_121 : (parseMethodDescriptor "(II)I").map (fun d => d.parameters.length) = some 2 := by decide +kernel
theorem m_qp_121 : m_qP 121 2 := by
  unfold m_qP
  rw [m_q_121]
  exact ⟨m_lt rfl, m_w861, m_pl_9, m_qd_121⟩
theorem m_qd_122 : (parseMethodDescriptor "(I)I").map (fun d => d.parameters.length) = some 1 := by decide +kernel
theorem m_qp_122 : m_qP 122 1 := by
  unfold m_qP
  rw [m_q_122]
  exact ⟨m_lt rfl, m_w865, m_pl_9, m_qd_122⟩
theorem m_qd_123 : (parseMethodDescriptor "(II)I").map (fun d => d.parameters.length) = some 2 := by decide +kernel
theorem m_qp_123 : m_qP 123 2 := by
  unfold m_qP
  rw [m_q_123]
  exact ⟨m_lt rfl, m_w869, m_pl_9, m_qd_123⟩
theorem m_qd_124 : (parseMethodDescriptor "(I)I").map (fun d => d.parameters.length) = some 1 := by decide +kernel
theorem m_qp_124 : m_qP 124 1 := by
  unfold m_qP
  rw [m_q_124]
  exact ⟨m_lt rfl, m_w873, m_pl_9, m_qd_124⟩
theorem m_qd_125 : (parseMethodDescriptor "()I").map (fun d => d.parameters.length) = some 0 := by decide +kernel
theorem m_qp_125 : m_qP 125 0 := by
  unfold m_qP
  rw [m_q_125]
  exact ⟨m_lt rfl, m_w877, m_pl_9, m_qd_125⟩
theorem m_qd_126 : (parseMethodDescriptor "()I").map (fun d => d.parameters.length) = some 0 := by decide +kernel
theorem m_qp_126 : m_qP 126 0 := by
  unfold m_qP
  rw [m_q_126]
  exact ⟨m_lt rfl, m_w881, m_pl_9, m_qd_126⟩
theorem m_qd_127 : (parseMethodDescriptor "()V").map (fun d => d.parameters.length) = some 0 := by decide +kernel
theorem m_qp_127 : m_qP 127 0 := by
  unfold m_qP
  rw [m_q_127]
  exact ⟨m_lt rfl, m_w885, m_pl_9, m_qd_127⟩
theorem m_qd_128 : (parseMethodDescriptor "()I").map (fun d => d.parameters.length) = some 0 := by decide +kernel
theorem m_qp_128 : m_qP 128 0 := by
  unfold m_qP
  rw [m_q_128]
  exact ⟨m_lt rfl, m_w890, m_pl_9, m_qd_128⟩
theorem m_qd_129 : (parseMethodDescriptor "()I").map (fun d => d.parameters.length) = some 0 := by decide +kernel
theorem m_qp_129 : m_qP 129 0 := by
  unfold m_qP
  rw [m_q_129]
  exact ⟨m_lt rfl, m_w894, m_pl_9, m_qd_129⟩
theorem m_qd_130 : (parseMethodDescriptor "()F").map (fun d => d.parameters.length) = some 0 := by decide +kernel
theorem m_qp_130 : m_qP 130 0 := by
  unfold m_qP
  rw [m_q_130]
  exact ⟨m_lt rfl, m_w898, m_pl_9, m_qd_130⟩
theorem m_qd_131 : (parseMethodDescriptor "(I)Z").map (fun d => d.parameters.length) = some 1 := by decide +kernel
theorem m_qp_131 : m_qP 131 1 := by
  unfold m_qP
  rw [m_q_131]
  exact ⟨m_lt rfl, m_w902, m_pl_9, m_qd_131⟩
theorem m_qd_132 : (parseMethodDescriptor "(II)I").map (fun d => d.parameters.length) = some 2 := by decide +kernel
theorem m_qp_132 : m_qP 132 2 := by
  unfold m_qP
  rw [m_q_132]
  exact ⟨m_lt rfl, m_w906, m_pl_9, m_qd_132⟩
theorem m_qd_133 : (parseMethodDescriptor "(I)Z").map (fun d => d.parameters.length) = some 1 := by decide +kernel
theorem m_qp_133 : m_qP 133 1 := by
  unfold m_qP
  rw [m_q_133]
  exact ⟨m_lt rfl, m_w910, m_pl_9, m_qd_133⟩
theorem m_qd_134 : (parseMethodDescriptor "(F)I").map (fun d => d.parameters.length) = some 1 := by decide +kernel
theorem m_qp_134 : m_qP 134 1 := by
  unfold m_qP
  rw [m_q_134]
  exact ⟨m_lt rfl, m_w913, m_pl_9, m_qd_134⟩
theorem m_qd_135 : (parseMethodDescriptor "(II)I").map (fun d => d.parameters.length) = some 2 := by decide +kernel
theorem m_qp_135 : m_qP 135 2 := by
  unfold m_qP
  rw [m_q_135]
  exact ⟨m_lt rfl, m_w919, m_pl_9, m_qd_135⟩
theorem m_qd_136 : (parseMethodDescriptor "(II)I").map (fun d => d.parameters.length) = some 2 := by decide +kernel
theorem m_qp_136 : m_qP 136 2 := by
  unfold m_qP
  rw [m_q_136]
  exact ⟨m_lt rfl, m_w923, m_pl_9, m_qd_136⟩
theorem m_qd_137 : (parseMethodDescriptor "(III)I").map (fun d => d.parameters.length) = some 3 := by decide +kernel
theorem m_qp_137 : m_qP 137 3 := by
  unfold m_qP
  rw [m_q_137]
  exact ⟨m_lt rfl, m_w927, m_pl_9, m_qd_137⟩
theorem m_qd_138 : (parseMethodDescriptor "(I)I").map (fun d => d.parameters.length) = some 1 := by decide +kernel
theorem m_qp_138 : m_qP 138 1 := by
  unfold m_qP
  rw [m_q_138]
  exact ⟨m_lt rfl, m_w931, m_pl_9, m_qd_138⟩
theorem m_qd_139 : (parseMethodDescriptor "(I)I").map (fun d => d.parameters.length) = some 1 := by decide +kernel
theorem m_qp_139 : m_qP 139 1 := by
  unfold m_qP
  rw [m_q_139]
  exact ⟨m_lt rfl, m_w935, m_pl_9, m_qd_139⟩
theorem m_qd_140 : (parseMethodDescriptor "(II)I").map (fun d => d.parameters.length) = some 2 := by decide +kernel
theorem m_qp_140 : m_qP 140 2 := by
  unfold m_qP
  rw [m_q_140]
  exact ⟨m_lt rfl, m_w939, m_pl_9, m_qd_140⟩
theorem m_qd_141 : (parseMethodDescriptor "()I").map (fun d => d.parameters.length) = some 0 := by decide +kernel
theorem m_qp_141 : m_qP 141 0 := by
  unfold m_qP
  rw [m_q_141]
  exact ⟨m_lt rfl, m_w943, m_pl_9, m_qd_141⟩
theorem m_qd_142 : (parseMethodDescriptor "()J").map (fun d => d.parameters.length) = some 0 := by decide +kernel
theorem m_qp_142 : m_qP 142 0 := by
  unfold m_qP
  rw [m_q_142]
  exact ⟨m_lt rfl, m_w947, m_pl_9, m_qd_142⟩
theorem m_qd_143 : (parseMethodDescriptor "(D)J").map (fun d => d.parameters.length) = some 1 := by decide +kernel
theorem m_qp_143 : m_qP 143 1 := by
  unfold m_qP
  rw [m_q_143]
  exact ⟨m_lt rfl, m_w950, m_pl_9, m_qd_143⟩
theorem m_qd_144 : (parseMethodDescriptor "(I)I").map (fun d => d.parameters.length) = some 1 := by decide +kernel
theorem m_qp_144 : m_qP 144 1 := by
  unfold m_qP
  rw [m_q_144]
  exact ⟨m_lt rfl, m_w958, m_pl_9, m_qd_144⟩
theorem m_qd_145 : (parseMethodDescriptor "(II)I").map (fun d => d.parameters.length) = some 2 := by decide +kernel
theorem m_qp_145 : m_qP 145 2 := by
  unfold m_qP
  rw [m_q_145]
  exact ⟨m_lt rfl, m_w962, m_pl_9, m_qd_145⟩
theorem m_qd_146 : (parseMethodDescriptor "(I)I").map (fun d => d.parameters.length) = some 1 := by decide +kernel
theorem m_qp_146 : m_qP 146 1 := by
  unfold m_qP
  rw [m_q_146]
  exact ⟨m_lt rfl, m_w966, m_pl_9, m_qd_146⟩
theorem m_qd_147 : (parseMethodDescriptor "(I)I").map (fun d => d.parameters.length) = some 1 := by decide +kernel
theorem m_qp_147 : m_qP 147 1 := by
  unfold m_qP
  rw [m_q_147]
  exact ⟨m_lt rfl, m_w970, m_pl_9, m_qd_147⟩
theorem m_qd_148 : (parseMethodDescriptor "(III)I").map (fun d => d.parameters.length) = some 3 := by decide +kernel
theorem m_qp_148 : m_qP 148 3 := by
  unfold m_qP
  rw [m_q_148]
  exact ⟨m_lt rfl, m_w974, m_pl_9, m_qd_148⟩
theorem m_qd_149 : (parseMethodDescriptor "(I)I").map (fun d => d.parameters.length) = some 1 := by decide +kernel
theorem m_qp_149 : m_qP 149 1 := by
  unfold m_qP
  rw [m_q_149]
  exact ⟨m_lt rfl, m_w979, m_pl_9, m_qd_149⟩
theorem m_qd_150 : (parseMethodDescriptor "()V").map (fun d => d.parameters.length) = some 0 := by decide +kernel
theorem m_qp_150 : m_qP 150 0 := by
  unfold m_qP
  rw [m_q_150]
  exact ⟨m_lt rfl, m_w983, m_pl_9, m_qd_150⟩
theorem m_qd_151 : (parseMethodDescriptor "(II)I").map (fun d => d.parameters.length) = some 2 := by decide +kernel
theorem m_qp_151 : m_qP 151 2 := by
  unfold m_qP
  rw [m_q_151]
  exact ⟨m_lt rfl, m_w987, m_pl_9, m_qd_151⟩
theorem m_qd_152 : (parseMethodDescriptor "()I").map (fun d => d.parameters.length) = some 0 := by decide +kernel
theorem m_qp_152 : m_qP 152 0 := by
  unfold m_qP
  rw [m_q_152]
  exact ⟨m_lt rfl, m_w991, m_pl_9, m_qd_152⟩
theorem m_qd_153 : (parseMethodDescriptor "(J)I").map (fun d => d.parameters.length) = some 1 := by decide +kernel
theorem m_qp_153 : m_qP 153 1 := by
  unfold m_qP
  rw [m_q_153]
  exact ⟨m_lt rfl, m_w995, m_pl_9, m_qd_153⟩
theorem m_qd_154 : (parseMethodDescriptor "()I").map (fun d => d.parameters.length) = some 0 := by decide +kernel
theorem m_qp_154 : m_qP 154 0 := by
  unfold m_qP
  rw [m_q_154]
  exact ⟨m_lt rfl, m_w1000, m_pl_9, m_qd_154⟩
theorem m_qd_155 : (parseMethodDescriptor "()I").map (fun d => d.parameters.length) = some 0 := by decide +kernel
theorem m_qp_155 : m_qP 155 0 := by
  unfold m_qP
  rw [m_q_155]
  exact ⟨m_lt rfl, m_w1004, m_pl_9, m_qd_155⟩
theorem m_qd_156 : (parseMethodDescriptor "(Z)I").map (fun d => d.parameters.length) = some 1 := by decide +kernel
theorem m_qp_156 : m_qP 156 1 := by
  unfold m_qP
  rw [m_q_156]
  exact ⟨m_lt rfl, m_w1008, m_pl_9, m_qd_156⟩
theorem m_qd_157 : (parseMethodDescriptor "()V").map (fun d => d.parameters.length) = some 0 := by decide +kernel
theorem m_qp_157 : m_qP 157 0 := by
  unfold m_qP
  rw [m_q_157]
  exact ⟨m_lt rfl, m_w1012, m_pl_9, m_qd_157⟩
theorem m_qd_158 : (parseMethodDescriptor "()V").map (fun d => d.parameters.length) = some 0 := by decide +kernel
theorem m_qp_158 : m_qP 158 0 := by
  unfold m_qP
  rw [m_q_158]
  exact ⟨m_lt rfl, m_w1016, m_pl_9, m_qd_158⟩
theorem m_qd_159 : (parseMethodDescriptor "()I").map (fun d => d.parameters.length) = some 0 := by decide +kernel
theorem m_qp_159 : m_qP 159 0 := by
  unfold m_qP
  rw [m_q_159]
  exact ⟨m_lt rfl, m_w1020, m_pl_9, m_qd_159⟩
theorem m_qd_160 : (parseMethodDescriptor "(II)Z").map (fun d => d.parameters.length) = some 2 := by decide +kernel
theorem m_qp_160 : m_qP 160 2 := by
  unfold m_qP
  rw [m_q_160]
  exact ⟨m_lt rfl, m_w1024, m_pl_9, m_qd_160⟩
theorem m_qd_161 : (parseMethodDescriptor "(I)V").map (fun d => d.parameters.length) = some 1 := by decide +kernel
theorem m_qp_161 : m_qP 161 1 := by
  unfold m_qP
  rw [m_q_161]
  exact ⟨m_lt rfl, m_w1028, m_pl_9, m_qd_161⟩
theorem m_qd_162 : (parseMethodDescriptor "()I").map (fun d => d.parameters.length) = some 0 := by decide +kernel
theorem m_qp_162 : m_qP 162 0 := by
  unfold m_qP
  rw [m_q_162]
  exact ⟨m_lt rfl, m_w1032, m_pl_9, m_qd_162⟩
theorem m_qd_163 : (parseMethodDescriptor "()I").map (fun d => d.parameters.length) = some 0 := by decide +kernel
theorem m_qp_163 : m_qP 163 0 := by
  unfold m_qP
  rw [m_q_163]
  exact ⟨m_lt rfl, m_w1036, m_pl_9, m_qd_163⟩
theorem m_qd_164 : (parseMethodDescriptor "()I").map (fun d => d.parameters.length) = some 0 := by decide +kernel
theorem m_qp_164 : m_qP 164 0 := by
  unfold m_qP
  rw [m_q_164]
  exact ⟨m_lt rfl, m_w1041, m_pl_9, m_qd_164⟩
theorem m_qd_165 : (parseMethodDescriptor "(I)I").map (fun d => d.parameters.length) = some 1 := by decide +kernel
theorem m_qp_165 : m_qP 165 1 := by
  unfold m_qP
  rw [m_q_165]
  exact ⟨m_lt rfl, m_w1045, m_pl_9, m_qd_165⟩
theorem m_qd_166 : (parseMethodDescriptor "(I)I").map (fun d => d.parameters.length) = some 1 := by decide +kernel
theorem m_qp_166 : m_qP 166 1 := by
  unfold m_qP
  rw [m_q_166]
  exact ⟨m_lt rfl, m_w1049, m_pl_9, m_qd_166⟩
set_option maxRecDepth 20000 in
theorem m_flx_0 : ∀ e ∈ m_fl.getD 0 [], m_flP "ShelfSlots$Day" e := List.forall_mem_cons.mpr ⟨⟨Nat.le_of_ble_eq_true rfl, Nat.le_of_ble_eq_true rfl, m_w82, rfl, rfl, rfl⟩, List.forall_mem_cons.mpr ⟨⟨Nat.le_of_ble_eq_true rfl, Nat.le_of_ble_eq_true rfl, m_w85, rfl, rfl, rfl⟩, List.forall_mem_cons.mpr ⟨⟨Nat.le_of_ble_eq_true rfl, Nat.le_of_ble_eq_true rfl, m_w87, rfl, rfl, rfl⟩, fun _ h => absurd h List.not_mem_nil⟩⟩⟩
set_option maxRecDepth 20000 in
theorem m_mtx_0 : ∀ e ∈ m_mt.getD 0 [], m_mtP "ShelfSlots$Day" e := List.forall_mem_cons.mpr ⟨⟨m_w81, m_w68, m_w69⟩, List.forall_mem_cons.mpr ⟨⟨m_w302, m_w297, m_w296, m_w57⟩, fun _ h => absurd h List.not_mem_nil⟩⟩
theorem m_ctx_0 : ∀ e ∈ m_ct.getD 0 [], m_ctP "ShelfSlots$Day" e := fun _ h => absurd h List.not_mem_nil
theorem m_cnx_0 : ∀ e ∈ m_cn.getD 0 [], m_cnP "ShelfSlots$Day" e := fun _ h => absurd h List.not_mem_nil
set_option maxRecDepth 20000 in
theorem m_flx_1 : ∀ e ∈ m_fl.getD 1 [], m_flP "ShelfSlots$Grammar" e := List.forall_mem_cons.mpr ⟨⟨Nat.le_of_ble_eq_true rfl, Nat.le_of_ble_eq_true rfl, m_w212, rfl, rfl, rfl⟩, List.forall_mem_cons.mpr ⟨⟨Nat.le_of_ble_eq_true rfl, Nat.le_of_ble_eq_true rfl, m_w213, rfl, rfl, rfl⟩, List.forall_mem_cons.mpr ⟨⟨Nat.le_of_ble_eq_true rfl, Nat.le_of_ble_eq_true rfl, m_w214, rfl, rfl, rfl⟩, fun _ h => absurd h List.not_mem_nil⟩⟩⟩
set_option maxRecDepth 20000 in
theorem m_mtx_1 : ∀ e ∈ m_mt.getD 1 [], m_mtP "ShelfSlots$Grammar" e := List.forall_mem_cons.mpr ⟨⟨m_w211, m_w68, m_w69⟩, List.forall_mem_cons.mpr ⟨⟨m_w626, m_w628, m_w8, m_w54, m_qp_81, Nat.le_of_ble_eq_true rfl, rfl⟩, List.forall_mem_cons.mpr ⟨⟨m_w630, m_w631, m_w54, m_qp_82⟩, List.forall_mem_cons.mpr ⟨⟨m_w633, m_w635, m_w9, m_w54, m_qp_83, Nat.le_of_ble_eq_true rfl, rfl⟩, fun _ h => absurd h List.not_mem_nil⟩⟩⟩⟩
theorem m_ctx_1 : ∀ e ∈ m_ct.getD 1 [], m_ctP "ShelfSlots$Grammar" e := fun _ h => absurd h List.not_mem_nil
theorem m_cnx_1 : ∀ e ∈ m_cn.getD 1 [], m_cnP "ShelfSlots$Grammar" e := fun _ h => absurd h List.not_mem_nil
set_option maxRecDepth 20000 in
theorem m_flx_2 : ∀ e ∈ m_fl.getD 2 [], m_flP "ShelfSlots$History" e := List.forall_mem_cons.mpr ⟨⟨Nat.le_of_ble_eq_true rfl, Nat.le_of_ble_eq_true rfl, m_w246, rfl, rfl, rfl⟩, List.forall_mem_cons.mpr ⟨⟨Nat.le_of_ble_eq_true rfl, Nat.le_of_ble_eq_true rfl, m_w247, rfl, rfl, rfl⟩, List.forall_mem_cons.mpr ⟨⟨Nat.le_of_ble_eq_true rfl, Nat.le_of_ble_eq_true rfl, m_w248, rfl, rfl, rfl⟩, fun _ h => absurd h List.not_mem_nil⟩⟩⟩
set_option maxRecDepth 20000 in
theorem m_mtx_2 : ∀ e ∈ m_mt.getD 2 [], m_mtP "ShelfSlots$History" e := List.forall_mem_cons.mpr ⟨⟨m_w242, m_w68, m_w69⟩, List.forall_mem_cons.mpr ⟨⟨m_w245, m_w73, m_w49, m_qp_1, rfl, rfl⟩, List.forall_mem_cons.mpr ⟨⟨m_w291, m_w292, m_w293, m_w49, m_qp_10, Nat.le_of_ble_eq_true rfl, rfl⟩, List.forall_mem_cons.mpr ⟨⟨m_w315, m_w316, m_w58, m_w317⟩, fun _ h => absurd h List.not_mem_nil⟩⟩⟩⟩
theorem m_ctx_2 : ∀ e ∈ m_ct.getD 2 [], m_ctP "ShelfSlots$History" e := fun _ h => absurd h List.not_mem_nil
theorem m_cnx_2 : ∀ e ∈ m_cn.getD 2 [], m_cnP "ShelfSlots$History" e := List.forall_mem_cons.mpr ⟨⟨Nat.le_of_ble_eq_true rfl, m_w243, m_w71, m_w49⟩, fun _ h => absurd h List.not_mem_nil⟩
set_option maxRecDepth 20000 in
theorem m_flx_3 : ∀ e ∈ m_fl.getD 3 [], m_flP "ShelfSlots$Mover" e := List.forall_mem_cons.mpr ⟨⟨Nat.le_of_ble_eq_true rfl, Nat.le_of_ble_eq_true rfl, m_w101, rfl, rfl, rfl⟩, List.forall_mem_cons.mpr ⟨⟨Nat.le_of_ble_eq_true rfl, Nat.le_of_ble_eq_true rfl, m_w128, rfl, rfl, rfl⟩, List.forall_mem_cons.mpr ⟨⟨Nat.le_of_ble_eq_true rfl, Nat.le_of_ble_eq_true rfl, m_w133, rfl, rfl, rfl⟩, List.forall_mem_cons.mpr ⟨⟨Nat.le_of_ble_eq_true rfl, Nat.le_of_ble_eq_true rfl, m_w188, rfl, rfl, rfl⟩, List.forall_mem_cons.mpr ⟨⟨Nat.le_of_ble_eq_true rfl, Nat.le_of_ble_eq_true rfl, m_w189, rfl, rfl, rfl⟩, List.forall_mem_cons.mpr ⟨⟨Nat.le_of_ble_eq_true rfl, Nat.le_of_ble_eq_true rfl, m_w191, rfl, rfl, rfl⟩, fun _ h => absurd h List.not_mem_nil⟩⟩⟩⟩⟩⟩
set_option maxRecDepth 20000 in
theorem m_mtx_3 : ∀ e ∈ m_mt.getD 3 [], m_mtP "ShelfSlots$Mover" e := List.forall_mem_cons.mpr ⟨⟨m_w187, m_w68, m_w69⟩, List.forall_mem_cons.mpr ⟨⟨m_w451, m_w452, m_w453, m_w49, m_qp_43, Nat.le_of_ble_eq_true rfl, rfl⟩, List.forall_mem_cons.mpr ⟨⟨m_w456, m_w457, m_w458, m_w52, m_qp_44, Nat.le_of_ble_eq_true rfl, rfl⟩, List.forall_mem_cons.mpr ⟨⟨m_w460, m_w461, m_w462, m_w49, m_qp_45, Nat.le_of_ble_eq_true rfl, rfl⟩, List.forall_mem_cons.mpr ⟨⟨m_w465, m_w466, m_w467, m_w51, m_qp_46, Nat.le_of_ble_eq_true rfl, rfl⟩, List.forall_mem_cons.mpr ⟨⟨m_w470, m_w471, m_w472, m_w49, m_qp_47, Nat.le_of_ble_eq_true rfl, rfl⟩, List.forall_mem_cons.mpr ⟨⟨m_w474, m_w342, m_w343, m_w49, m_qp_21, Nat.le_of_ble_eq_true rfl, rfl⟩, List.forall_mem_cons.mpr ⟨⟨m_w475, m_w338, m_w339, m_w49, m_qp_20, Nat.le_of_ble_eq_true rfl, rfl⟩, List.forall_mem_cons.mpr ⟨⟨m_w476, m_w477, m_w478, m_w49, m_qp_48, Nat.le_of_ble_eq_true rfl, rfl⟩, fun _ h => absurd h List.not_mem_nil⟩⟩⟩⟩⟩⟩⟩⟩⟩
theorem m_ctx_3 : ∀ e ∈ m_ct.getD 3 [], m_ctP "ShelfSlots$Mover" e := fun _ h => absurd h List.not_mem_nil
theorem m_cnx_3 : ∀ e ∈ m_cn.getD 3 [], m_cnP "ShelfSlots$Mover" e := fun _ h => absurd h List.not_mem_nil
set_option maxRecDepth 20000 in
theorem m_flx_4 : ∀ e ∈ m_fl.getD 4 [], m_flP "ShelfSlots$Pad" e := List.forall_mem_cons.mpr ⟨⟨Nat.le_of_ble_eq_true rfl, Nat.le_of_ble_eq_true rfl, m_w223, rfl, rfl, rfl⟩, List.forall_mem_cons.mpr ⟨⟨Nat.le_of_ble_eq_true rfl, Nat.le_of_ble_eq_true rfl, m_w224, rfl, rfl, rfl⟩, List.forall_mem_cons.mpr ⟨⟨Nat.le_of_ble_eq_true rfl, Nat.le_of_ble_eq_true rfl, m_w225, rfl, rfl, rfl⟩, List.forall_mem_cons.mpr ⟨⟨Nat.le_of_ble_eq_true rfl, Nat.le_of_ble_eq_true rfl, m_w226, rfl, rfl, rfl⟩, fun _ h => absurd h List.not_mem_nil⟩⟩⟩⟩
set_option maxRecDepth 20000 in
theorem m_mtx_4 : ∀ e ∈ m_mt.getD 4 [], m_mtP "ShelfSlots$Pad" e := List.forall_mem_cons.mpr ⟨⟨m_w205, m_w68, m_w69⟩, List.forall_mem_cons.mpr ⟨⟨rfl, m_w209, m_w54, m_qp_6, rfl, rfl⟩, List.forall_mem_cons.mpr ⟨⟨m_w618, m_w619, m_w620, m_w54, m_qp_79, Nat.le_of_ble_eq_true rfl, rfl⟩, List.forall_mem_cons.mpr ⟨⟨m_w622, m_w623, m_w624, m_w54, m_qp_80, Nat.le_of_ble_eq_true rfl, rfl⟩, List.forall_mem_cons.mpr ⟨⟨m_w637, m_w638, m_w639, m_w54, m_qp_84, Nat.le_of_ble_eq_true rfl, rfl⟩, List.forall_mem_cons.mpr ⟨⟨m_w661, m_w631, m_w54, m_qp_82⟩, List.forall_mem_cons.mpr ⟨⟨m_w666, m_w658, m_w659, m_w53, m_qp_89, Nat.le_of_ble_eq_true rfl, rfl⟩, List.forall_mem_cons.mpr ⟨⟨m_w667, m_w316, m_w58, m_w317⟩, List.forall_mem_cons.mpr ⟨⟨m_w668, m_w669, m_w670, m_w53, m_qp_91, Nat.le_of_ble_eq_true rfl, rfl⟩, fun _ h => absurd h List.not_mem_nil⟩⟩⟩⟩⟩⟩⟩⟩⟩
theorem m_ctx_4 : ∀ e ∈ m_ct.getD 4 [], m_ctP "ShelfSlots$Pad" e := List.forall_mem_cons.mpr ⟨m_w601, fun _ h => absurd h List.not_mem_nil⟩
theorem m_cnx_4 : ∀ e ∈ m_cn.getD 4 [], m_cnP "ShelfSlots$Pad" e := List.forall_mem_cons.mpr ⟨⟨Nat.le_of_ble_eq_true rfl, m_w206, m_w207, m_w54⟩, fun _ h => absurd h List.not_mem_nil⟩
set_option maxRecDepth 20000 in
theorem m_flx_5 : ∀ e ∈ m_fl.getD 5 [], m_flP "ShelfSlots$Picked" e := List.forall_mem_cons.mpr ⟨⟨Nat.le_of_ble_eq_true rfl, Nat.le_of_ble_eq_true rfl, m_w422, rfl, rfl, rfl⟩, List.forall_mem_cons.mpr ⟨⟨Nat.le_of_ble_eq_true rfl, Nat.le_of_ble_eq_true rfl, m_w424, rfl, rfl, rfl⟩, List.forall_mem_cons.mpr ⟨⟨Nat.le_of_ble_eq_true rfl, Nat.le_of_ble_eq_true rfl, m_w426, rfl, rfl, rfl⟩, List.forall_mem_cons.mpr ⟨⟨Nat.le_of_ble_eq_true rfl, Nat.le_of_ble_eq_true rfl, m_w428, rfl, rfl, rfl⟩, fun _ h => absurd h List.not_mem_nil⟩⟩⟩⟩
set_option maxRecDepth 20000 in
theorem m_mtx_5 : ∀ e ∈ m_mt.getD 5 [], m_mtP "ShelfSlots$Picked" e := List.forall_mem_cons.mpr ⟨⟨m_w421, m_w68, m_w69⟩, fun _ h => absurd h List.not_mem_nil⟩
theorem m_ctx_5 : ∀ e ∈ m_ct.getD 5 [], m_ctP "ShelfSlots$Picked" e := fun _ h => absurd h List.not_mem_nil
theorem m_cnx_5 : ∀ e ∈ m_cn.getD 5 [], m_cnP "ShelfSlots$Picked" e := fun _ h => absurd h List.not_mem_nil
set_option maxRecDepth 20000 in
theorem m_flx_6 : ∀ e ∈ m_fl.getD 6 [], m_flP "ShelfSlots$Shed" e := List.forall_mem_cons.mpr ⟨⟨Nat.le_of_ble_eq_true rfl, Nat.le_of_ble_eq_true rfl, m_w90, rfl, rfl, rfl⟩, List.forall_mem_cons.mpr ⟨⟨Nat.le_of_ble_eq_true rfl, Nat.le_of_ble_eq_true rfl, m_w100, rfl, rfl, rfl⟩, List.forall_mem_cons.mpr ⟨⟨Nat.le_of_ble_eq_true rfl, Nat.le_of_ble_eq_true rfl, m_w104, rfl, rfl, rfl⟩, List.forall_mem_cons.mpr ⟨⟨Nat.le_of_ble_eq_true rfl, Nat.le_of_ble_eq_true rfl, m_w107, rfl, rfl, rfl⟩, List.forall_mem_cons.mpr ⟨⟨Nat.le_of_ble_eq_true rfl, Nat.le_of_ble_eq_true rfl, m_w109, rfl, rfl, rfl⟩, List.forall_mem_cons.mpr ⟨⟨Nat.le_of_ble_eq_true rfl, Nat.le_of_ble_eq_true rfl, m_w111, rfl, rfl, rfl⟩, List.forall_mem_cons.mpr ⟨⟨Nat.le_of_ble_eq_true rfl, Nat.le_of_ble_eq_true rfl, m_w113, rfl, rfl, rfl⟩, List.forall_mem_cons.mpr ⟨⟨Nat.le_of_ble_eq_true rfl, Nat.le_of_ble_eq_true rfl, m_w115, rfl, rfl, rfl⟩, List.forall_mem_cons.mpr ⟨⟨Nat.le_of_ble_eq_true rfl, Nat.le_of_ble_eq_true rfl, m_w117, rfl, rfl, rfl⟩, List.forall_mem_cons.mpr ⟨⟨Nat.le_of_ble_eq_true rfl, Nat.le_of_ble_eq_true rfl, m_w120, rfl, rfl, rfl⟩, List.forall_mem_cons.mpr ⟨⟨Nat.le_of_ble_eq_true rfl, Nat.le_of_ble_eq_true rfl, m_w122, rfl, rfl, rfl⟩, List.forall_mem_cons.mpr ⟨⟨Nat.le_of_ble_eq_true rfl, Nat.le_of_ble_eq_true rfl, m_w123, rfl, rfl, rfl⟩, List.forall_mem_cons.mpr ⟨⟨Nat.le_of_ble_eq_true rfl, Nat.le_of_ble_eq_true rfl, m_w124, rfl, rfl, rfl⟩, List.forall_mem_cons.mpr ⟨⟨Nat.le_of_ble_eq_true rfl, Nat.le_of_ble_eq_true rfl, m_w126, rfl, rfl, rfl⟩, List.forall_mem_cons.mpr ⟨⟨Nat.le_of_ble_eq_true rfl, Nat.le_of_ble_eq_true rfl, m_w129, rfl, rfl, rfl⟩, List.forall_mem_cons.mpr ⟨⟨Nat.le_of_ble_eq_true rfl, Nat.le_of_ble_eq_true rfl, m_w131, rfl, rfl, rfl⟩, List.forall_mem_cons.mpr ⟨⟨Nat.le_of_ble_eq_true rfl, Nat.le_of_ble_eq_true rfl, m_w134, rfl, rfl, rfl⟩, List.forall_mem_cons.mpr ⟨⟨Nat.le_of_ble_eq_true rfl, Nat.le_of_ble_eq_true rfl, m_w423, rfl, rfl, rfl⟩, List.forall_mem_cons.mpr ⟨⟨Nat.le_of_ble_eq_true rfl, Nat.le_of_ble_eq_true rfl, m_w425, rfl, rfl, rfl⟩, List.forall_mem_cons.mpr ⟨⟨Nat.le_of_ble_eq_true rfl, Nat.le_of_ble_eq_true rfl, m_w427, rfl, rfl, rfl⟩, List.forall_mem_cons.mpr ⟨⟨Nat.le_of_ble_eq_true rfl, Nat.le_of_ble_eq_true rfl, m_w429, rfl, rfl, rfl⟩, fun _ h => absurd h List.not_mem_nil⟩⟩⟩⟩⟩⟩⟩⟩⟩⟩⟩⟩⟩⟩⟩⟩⟩⟩⟩⟩⟩
set_option maxRecDepth 20000 in
theorem m_mtx_6 : ∀ e ∈ m_mt.getD 6 [], m_mtP "ShelfSlots$Shed" e := List.forall_mem_cons.mpr ⟨⟨m_w75, m_w68, m_w69⟩, List.forall_mem_cons.mpr ⟨⟨rfl, m_w79, m_w50, m_qp_2, rfl, rfl⟩, List.forall_mem_cons.mpr ⟨⟨m_w295, m_w297, m_w296, m_w57⟩, List.forall_mem_cons.mpr ⟨⟨m_w298, m_w299, m_w300, m_w50, m_qp_11, Nat.le_of_ble_eq_true rfl, rfl⟩, List.forall_mem_cons.mpr ⟨⟨m_w326, m_w327, m_w49, m_qp_17⟩, List.forall_mem_cons.mpr ⟨⟨m_w337, m_w338, m_w339, m_w49, m_qp_20, Nat.le_of_ble_eq_true rfl, rfl⟩, List.forall_mem_cons.mpr ⟨⟨m_w341, m_w342, m_w343, m_w49, m_qp_21, Nat.le_of_ble_eq_true rfl, rfl⟩, List.forall_mem_cons.mpr ⟨⟨m_w345, m_w347, m_w1, m_w49, m_qp_22, Nat.le_of_ble_eq_true rfl, rfl⟩, List.forall_mem_cons.mpr ⟨⟨m_w349, m_w351, m_w2, m_w49, m_qp_23, Nat.le_of_ble_eq_true rfl, rfl⟩, List.forall_mem_cons.mpr ⟨⟨m_w361, m_w362, m_w363, m_w49, m_qp_26, Nat.le_of_ble_eq_true rfl, rfl⟩, List.forall_mem_cons.mpr ⟨⟨m_w410, m_w411, m_w412, m_w49, m_qp_37, Nat.le_of_ble_eq_true rfl, rfl⟩, List.forall_mem_cons.mpr ⟨⟨m_w414, m_w415, m_w416, m_w49, m_qp_38, Nat.le_of_ble_eq_true rfl, rfl⟩, List.forall_mem_cons.mpr ⟨⟨m_w418, m_w419, m_w60, m_qp_39, rfl, rfl⟩, List.forall_mem_cons.mpr ⟨⟨m_w439, m_w440, m_w441, m_w50, m_qp_40, Nat.le_of_ble_eq_true rfl, rfl⟩, List.forall_mem_cons.mpr ⟨⟨m_w464, m_w401, m_w402, m_w49, m_qp_35, Nat.le_of_ble_eq_true rfl, rfl⟩, fun _ h => absurd h List.not_mem_nil⟩⟩⟩⟩⟩⟩⟩⟩⟩⟩⟩⟩⟩⟩⟩
theorem m_ctx_6 : ∀ e ∈ m_ct.getD 6 [], m_ctP "ShelfSlots$Shed" e := List.forall_mem_cons.mpr ⟨m_w455, fun _ h => absurd h List.not_mem_nil⟩
theorem m_cnx_6 : ∀ e ∈ m_cn.getD 6 [], m_cnP "ShelfSlots$Shed" e := List.forall_mem_cons.mpr ⟨⟨Nat.le_of_ble_eq_true rfl, m_w76, m_w77, m_w50⟩, List.forall_mem_cons.mpr ⟨⟨Nat.le_of_ble_eq_true rfl, m_w408, m_w409, m_w60⟩, fun _ h => absurd h List.not_mem_nil⟩⟩
set_option maxRecDepth 20000 in
theorem m_flx_7 : ∀ e ∈ m_fl.getD 7 [], m_flP "ShelfSlots$Walker" e := List.forall_mem_cons.mpr ⟨⟨Nat.le_of_ble_eq_true rfl, Nat.le_of_ble_eq_true rfl, m_w83, rfl, rfl, rfl⟩, List.forall_mem_cons.mpr ⟨⟨Nat.le_of_ble_eq_true rfl, Nat.le_of_ble_eq_true rfl, m_w88, rfl, rfl, rfl⟩, List.forall_mem_cons.mpr ⟨⟨Nat.le_of_ble_eq_true rfl, Nat.le_of_ble_eq_true rfl, m_w102, rfl, rfl, rfl⟩, List.forall_mem_cons.mpr ⟨⟨Nat.le_of_ble_eq_true rfl, Nat.le_of_ble_eq_true rfl, m_w105, rfl, rfl, rfl⟩, List.forall_mem_cons.mpr ⟨⟨Nat.le_of_ble_eq_true rfl, Nat.le_of_ble_eq_true rfl, m_w118, rfl, rfl, rfl⟩, List.forall_mem_cons.mpr ⟨⟨Nat.le_of_ble_eq_true rfl, Nat.le_of_ble_eq_true rfl, m_w175, rfl, rfl, rfl⟩, List.forall_mem_cons.mpr ⟨⟨Nat.le_of_ble_eq_true rfl, Nat.le_of_ble_eq_true rfl, m_w176, rfl, rfl, rfl⟩, fun _ h => absurd h List.not_mem_nil⟩⟩⟩⟩⟩⟩⟩
set_option maxRecDepth 20000 in
theorem m_mtx_7 : ∀ e ∈ m_mt.getD 7 [], m_mtP "ShelfSlots$Walker" e := List.forall_mem_cons.mpr ⟨⟨m_w174, m_w68, m_w69⟩, List.forall_mem_cons.mpr ⟨⟨m_w387, m_w389, m_w5, m_w51, m_qp_32, Nat.le_of_ble_eq_true rfl, rfl⟩, List.forall_mem_cons.mpr ⟨⟨m_w392, m_w393, m_w394, m_w49, m_qp_33, Nat.le_of_ble_eq_true rfl, rfl⟩, List.forall_mem_cons.mpr ⟨⟨m_w396, m_w398, m_w6, m_w51, m_qp_34, Nat.le_of_ble_eq_true rfl, rfl⟩, List.forall_mem_cons.mpr ⟨⟨m_w400, m_w401, m_w402, m_w49, m_qp_35, Nat.le_of_ble_eq_true rfl, rfl⟩, List.forall_mem_cons.mpr ⟨⟨m_w469, m_w384, m_w385, m_w51, m_qp_31, Nat.le_of_ble_eq_true rfl, rfl⟩, List.forall_mem_cons.mpr ⟨⟨m_w565, m_w567, m_w7, m_w51, m_qp_68, Nat.le_of_ble_eq_true rfl, rfl⟩, List.forall_mem_cons.mpr ⟨⟨m_w569, m_w570, m_w58, m_w571⟩, fun _ h => absurd h List.not_mem_nil⟩⟩⟩⟩⟩⟩⟩⟩
theorem m_ctx_7 : ∀ e ∈ m_ct.getD 7 [], m_ctP "ShelfSlots$Walker" e := List.forall_mem_cons.mpr ⟨m_w391, fun _ h => absurd h List.not_mem_nil⟩
theorem m_cnx_7 : ∀ e ∈ m_cn.getD 7 [], m_cnP "ShelfSlots$Walker" e := fun _ h => absurd h List.not_mem_nil
set_option maxRecDepth 20000 in
theorem m_flx_8 : ∀ e ∈ m_fl.getD 8 [], m_flP "ShelfSlots" e := List.forall_mem_cons.mpr ⟨⟨Nat.le_of_ble_eq_true rfl, Nat.le_of_ble_eq_true rfl, m_w84, rfl, rfl, rfl⟩, List.forall_mem_cons.mpr ⟨⟨Nat.le_of_ble_eq_true rfl, Nat.le_of_ble_eq_true rfl, m_w86, rfl, rfl, rfl⟩, List.forall_mem_cons.mpr ⟨⟨Nat.le_of_ble_eq_true rfl, Nat.le_of_ble_eq_true rfl, m_w89, rfl, rfl, rfl⟩, List.forall_mem_cons.mpr ⟨⟨Nat.le_of_ble_eq_true rfl, Nat.le_of_ble_eq_true rfl, m_w103, rfl, rfl, rfl⟩, List.forall_mem_cons.mpr ⟨⟨Nat.le_of_ble_eq_true rfl, Nat.le_of_ble_eq_true rfl, m_w106, rfl, rfl, rfl⟩, List.forall_mem_cons.mpr ⟨⟨Nat.le_of_ble_eq_true rfl, Nat.le_of_ble_eq_true rfl, m_w108, rfl, rfl, rfl⟩, List.forall_mem_cons.mpr ⟨⟨Nat.le_of_ble_eq_true rfl, Nat.le_of_ble_eq_true rfl, m_w110, rfl, rfl, rfl⟩, List.forall_mem_cons.mpr ⟨⟨Nat.le_of_ble_eq_true rfl, Nat.le_of_ble_eq_true rfl, m_w112, rfl, rfl, rfl⟩, List.forall_mem_cons.mpr ⟨⟨Nat.le_of_ble_eq_true rfl, Nat.le_of_ble_eq_true rfl, m_w114, rfl, rfl, rfl⟩, List.forall_mem_cons.mpr ⟨⟨Nat.le_of_ble_eq_true rfl, Nat.le_of_ble_eq_true rfl, m_w116, rfl, rfl, rfl⟩, List.forall_mem_cons.mpr ⟨⟨Nat.le_of_ble_eq_true rfl, Nat.le_of_ble_eq_true rfl, m_w119, rfl, rfl, rfl⟩, List.forall_mem_cons.mpr ⟨⟨Nat.le_of_ble_eq_true rfl, Nat.le_of_ble_eq_true rfl, m_w121, rfl, rfl, rfl⟩, List.forall_mem_cons.mpr ⟨⟨Nat.le_of_ble_eq_true rfl, Nat.le_of_ble_eq_true rfl, m_w125, rfl, rfl, rfl⟩, List.forall_mem_cons.mpr ⟨⟨Nat.le_of_ble_eq_true rfl, Nat.le_of_ble_eq_true rfl, m_w127, rfl, rfl, rfl⟩, List.forall_mem_cons.mpr ⟨⟨Nat.le_of_ble_eq_true rfl, Nat.le_of_ble_eq_true rfl, m_w130, rfl, rfl, rfl⟩, List.forall_mem_cons.mpr ⟨⟨Nat.le_of_ble_eq_true rfl, Nat.le_of_ble_eq_true rfl, m_w132, rfl, rfl, rfl⟩, List.forall_mem_cons.mpr ⟨⟨Nat.le_of_ble_eq_true rfl, Nat.le_of_ble_eq_true rfl, m_w135, rfl, rfl, rfl⟩, List.forall_mem_cons.mpr ⟨⟨Nat.le_of_ble_eq_true rfl, Nat.le_of_ble_eq_true rfl, m_w190, rfl, rfl, rfl⟩, List.forall_mem_cons.mpr ⟨⟨Nat.le_of_ble_eq_true rfl, Nat.le_of_ble_eq_true rfl, m_w192, rfl, rfl, rfl⟩, List.forall_mem_cons.mpr ⟨⟨Nat.le_of_ble_eq_true rfl, Nat.le_of_ble_eq_true rfl, m_w227, rfl, rfl, rfl⟩, List.forall_mem_cons.mpr ⟨⟨Nat.le_of_ble_eq_true rfl, Nat.le_of_ble_eq_true rfl, m_w249, rfl, rfl, rfl⟩, List.forall_mem_cons.mpr ⟨⟨Nat.le_of_ble_eq_true rfl, Nat.le_of_ble_eq_true rfl, m_w257, rfl, rfl, rfl⟩, List.forall_mem_cons.mpr ⟨⟨Nat.le_of_ble_eq_true rfl, Nat.le_of_ble_eq_true rfl, m_w258, rfl, rfl, rfl⟩, List.forall_mem_cons.mpr ⟨⟨Nat.le_of_ble_eq_true rfl, Nat.le_of_ble_eq_true rfl, m_w259, rfl, rfl, rfl⟩, List.forall_mem_cons.mpr ⟨⟨Nat.le_of_ble_eq_true rfl, Nat.le_of_ble_eq_true rfl, m_w260, rfl, rfl, rfl⟩, List.forall_mem_cons.mpr ⟨⟨Nat.le_of_ble_eq_true rfl, Nat.le_of_ble_eq_true rfl, m_w261, rfl, rfl, rfl⟩, List.forall_mem_cons.mpr ⟨⟨Nat.le_of_ble_eq_true rfl, Nat.le_of_ble_eq_true rfl, m_w262, rfl, rfl, rfl⟩, List.forall_mem_cons.mpr ⟨⟨Nat.le_of_ble_eq_true rfl, Nat.le_of_ble_eq_true rfl, m_w263, rfl, rfl, rfl⟩, List.forall_mem_cons.mpr ⟨⟨Nat.le_of_ble_eq_true rfl, Nat.le_of_ble_eq_true rfl, m_w264, rfl, rfl, rfl⟩, fun _ h => absurd h List.not_mem_nil⟩⟩⟩⟩⟩⟩⟩⟩⟩⟩⟩⟩⟩⟩⟩⟩⟩⟩⟩⟩⟩⟩⟩⟩⟩⟩⟩⟩⟩
set_option maxRecDepth 20000 in
theorem m_mtx_8 : ∀ e ∈ m_mt.getD 8 [], m_mtP "ShelfSlots" e := List.forall_mem_cons.mpr ⟨⟨m_w67, m_w68, m_w69⟩, List.forall_mem_cons.mpr ⟨⟨m_w72, m_w73, m_w49, m_qp_1, rfl, rfl⟩, List.forall_mem_cons.mpr ⟨⟨rfl, m_w172, m_w51, m_qp_3, rfl, rfl⟩, List.forall_mem_cons.mpr ⟨⟨m_w184, m_w185, m_w52, m_qp_4, rfl, rfl⟩, List.forall_mem_cons.mpr ⟨⟨rfl, m_w203, m_w53, m_qp_5, rfl, rfl⟩, List.forall_mem_cons.mpr ⟨⟨m_w239, m_w240, m_w55, m_qp_7, rfl, rfl⟩, List.forall_mem_cons.mpr ⟨⟨m_w287, m_w288, m_w289, m_w55, m_qp_9, Nat.le_of_ble_eq_true rfl, rfl⟩, List.forall_mem_cons.mpr ⟨⟨m_w303, m_w304, m_w305, m_w49, m_qp_12, Nat.le_of_ble_eq_true rfl, rfl⟩, List.forall_mem_cons.mpr ⟨⟨m_w307, m_w309, m_w0, m_w48, m_qp_13, Nat.le_of_ble_eq_true rfl, rfl⟩, List.forall_mem_cons.mpr ⟨⟨m_w311, m_w312, m_w313, m_w55, m_qp_14, Nat.le_of_ble_eq_true rfl, rfl⟩, List.forall_mem_cons.mpr ⟨⟨m_w322, m_w323, m_w324, m_w49, m_qp_16, Nat.le_of_ble_eq_true rfl, rfl⟩, List.forall_mem_cons.mpr ⟨⟨m_w333, m_w334, m_w335, m_w49, m_qp_19, Nat.le_of_ble_eq_true rfl, rfl⟩, List.forall_mem_cons.mpr ⟨⟨m_w357, m_w358, m_w359, m_w49, m_qp_25, Nat.le_of_ble_eq_true rfl, rfl⟩, List.forall_mem_cons.mpr ⟨⟨m_w369, m_w371, m_w3, m_w48, m_qp_28, Nat.le_of_ble_eq_true rfl, rfl⟩, List.forall_mem_cons.mpr ⟨⟨m_w373, m_w375, m_w4, m_w48, m_qp_29, Nat.le_of_ble_eq_true rfl, rfl⟩, List.forall_mem_cons.mpr ⟨⟨m_w377, m_w378, m_w59, m_qp_30⟩, List.forall_mem_cons.mpr ⟨⟨m_w383, m_w384, m_w385, m_w51, m_qp_31, Nat.le_of_ble_eq_true rfl, rfl⟩, List.forall_mem_cons.mpr ⟨⟨m_w404, m_w405, m_w406, m_w49, m_qp_36, Nat.le_of_ble_eq_true rfl, rfl⟩, List.forall_mem_cons.mpr ⟨⟨m_w447, m_w448, m_w449, m_w52, m_qp_42, Nat.le_of_ble_eq_true rfl, rfl⟩, List.forall_mem_cons.mpr ⟨⟨m_w484, m_w485, m_w61, m_qp_50⟩, List.forall_mem_cons.mpr ⟨⟨m_w497, m_w401, m_w402, m_w49, m_qp_35, Nat.le_of_ble_eq_true rfl, rfl⟩, List.forall_mem_cons.mpr ⟨⟨m_w502, m_w327, m_w49, m_qp_17⟩, List.forall_mem_cons.mpr ⟨⟨m_w503, m_w362, m_w363, m_w49, m_qp_26, Nat.le_of_ble_eq_true rfl, rfl⟩, List.forall_mem_cons.mpr ⟨⟨m_w508, m_w393, m_w394, m_w49, m_qp_33, Nat.le_of_ble_eq_true rfl, rfl⟩, List.forall_mem_cons.mpr ⟨⟨m_w517, m_w411, m_w412, m_w49, m_qp_37, Nat.le_of_ble_eq_true rfl, rfl⟩, List.forall_mem_cons.mpr ⟨⟨m_w522, m_w523, m_w524, m_w50, m_qp_58, Nat.le_of_ble_eq_true rfl, rfl⟩, List.forall_mem_cons.mpr ⟨⟨m_w526, m_w461, m_w462, m_w49, m_qp_45, Nat.le_of_ble_eq_true rfl, rfl⟩, List.forall_mem_cons.mpr ⟨⟨m_w527, m_w528, m_w529, m_w49, m_qp_59, Nat.le_of_ble_eq_true rfl, rfl⟩, List.forall_mem_cons.mpr ⟨⟨m_w531, m_w415, m_w416, m_w49, m_qp_38, Nat.le_of_ble_eq_true rfl, rfl⟩, List.forall_mem_cons.mpr ⟨⟨m_w536, m_w537, m_w538, m_w49, m_qp_61, Nat.le_of_ble_eq_true rfl, rfl⟩, List.forall_mem_cons.mpr ⟨⟨m_w540, m_w541, m_w61, m_qp_62⟩, List.forall_mem_cons.mpr ⟨⟨m_w553, m_w554, m_w555, m_w51, m_qp_65, Nat.le_of_ble_eq_true rfl, rfl⟩, List.forall_mem_cons.mpr ⟨⟨m_w561, m_w562, m_w563, m_w51, m_qp_67, Nat.le_of_ble_eq_true rfl, rfl⟩, List.forall_mem_cons.mpr ⟨⟨m_w576, m_w292, m_w293, m_w49, m_qp_10, Nat.le_of_ble_eq_true rfl, rfl⟩, List.forall_mem_cons.mpr ⟨⟨m_w577, m_w452, m_w453, m_w49, m_qp_43, Nat.le_of_ble_eq_true rfl, rfl⟩, List.forall_mem_cons.mpr ⟨⟨m_w578, m_w457, m_w458, m_w52, m_qp_44, Nat.le_of_ble_eq_true rfl, rfl⟩, List.forall_mem_cons.mpr ⟨⟨m_w583, m_w342, m_w343, m_w49, m_qp_21, Nat.le_of_ble_eq_true rfl, rfl⟩, List.forall_mem_cons.mpr ⟨⟨m_w584, m_w466, m_w467, m_w51, m_qp_46, Nat.le_of_ble_eq_true rfl, rfl⟩, List.forall_mem_cons.mpr ⟨⟨m_w589, m_w590, m_w591, m_w49, m_qp_72, Nat.le_of_ble_eq_true rfl, rfl⟩, List.forall_mem_cons.mpr ⟨⟨m_w597, m_w598, m_w599, m_w53, m_qp_74, Nat.le_of_ble_eq_true rfl, rfl⟩, List.forall_mem_cons.mpr ⟨⟨m_w606, m_w607, m_w608, m_w53, m_qp_76, Nat.le_of_ble_eq_true rfl, rfl⟩, List.forall_mem_cons.mpr ⟨⟨m_w614, m_w615, m_w616, m_w53, m_qp_78, Nat.le_of_ble_eq_true rfl, rfl⟩, List.forall_mem_cons.mpr ⟨⟨m_w645, m_w646, m_w647, m_w53, m_qp_86, Nat.le_of_ble_eq_true rfl, rfl⟩, List.forall_mem_cons.mpr ⟨⟨m_w649, m_w651, m_w10, m_w48, m_qp_87, Nat.le_of_ble_eq_true rfl, rfl⟩, List.forall_mem_cons.mpr ⟨⟨m_w653, m_w654, m_w655, m_w53, m_qp_88, Nat.le_of_ble_eq_true rfl, rfl⟩, List.forall_mem_cons.mpr ⟨⟨m_w657, m_w658, m_w659, m_w53, m_qp_89, Nat.le_of_ble_eq_true rfl, rfl⟩, List.forall_mem_cons.mpr ⟨⟨m_w662, m_w663, m_w664, m_w53, m_qp_90, Nat.le_of_ble_eq_true rfl, rfl⟩, List.forall_mem_cons.mpr ⟨⟨m_w672, m_w669, m_w670, m_w53, m_qp_91, Nat.le_of_ble_eq_true rfl, rfl⟩, List.forall_mem_cons.mpr ⟨⟨m_w677, m_w678, m_w679, m_w55, m_qp_93, Nat.le_of_ble_eq_true rfl, rfl⟩, fun _ h => absurd h List.not_mem_nil⟩⟩⟩⟩⟩⟩⟩⟩⟩⟩⟩⟩⟩⟩⟩⟩⟩⟩⟩⟩⟩⟩⟩⟩⟩⟩⟩⟩⟩⟩⟩⟩⟩⟩⟩⟩⟩⟩⟩⟩⟩⟩⟩⟩⟩⟩⟩⟩⟩
theorem m_ctx_8 : ∀ e ∈ m_ct.getD 8 [], m_ctP "ShelfSlots" e := fun _ h => absurd h List.not_mem_nil
theorem m_cnx_8 : ∀ e ∈ m_cn.getD 8 [], m_cnP "ShelfSlots" e := List.forall_mem_cons.mpr ⟨⟨Nat.le_of_ble_eq_true rfl, m_w70, m_w71, m_w49⟩, List.forall_mem_cons.mpr ⟨⟨Nat.le_of_ble_eq_true rfl, m_w169, m_w170, m_w51⟩, List.forall_mem_cons.mpr ⟨⟨Nat.le_of_ble_eq_true rfl, m_w182, m_w183, m_w52⟩, List.forall_mem_cons.mpr ⟨⟨Nat.le_of_ble_eq_true rfl, m_w200, m_w201, m_w53⟩, List.forall_mem_cons.mpr ⟨⟨Nat.le_of_ble_eq_true rfl, m_w237, m_w238, m_w55⟩, fun _ h => absurd h List.not_mem_nil⟩⟩⟩⟩⟩
set_option maxRecDepth 20000 in
theorem m_flx_9 : ∀ e ∈ m_fl.getD 9 [], m_flP "ShelfSlotsModel" e := List.forall_mem_cons.mpr ⟨⟨Nat.le_of_ble_eq_true rfl, Nat.le_of_ble_eq_true rfl, m_w695, rfl, rfl, rfl⟩, List.forall_mem_cons.mpr ⟨⟨Nat.le_of_ble_eq_true rfl, Nat.le_of_ble_eq_true rfl, m_w696, rfl, rfl, rfl⟩, List.forall_mem_cons.mpr ⟨⟨Nat.le_of_ble_eq_true rfl, Nat.le_of_ble_eq_true rfl, m_w697, rfl, rfl, rfl⟩, List.forall_mem_cons.mpr ⟨⟨Nat.le_of_ble_eq_true rfl, Nat.le_of_ble_eq_true rfl, m_w698, rfl, rfl, rfl⟩, List.forall_mem_cons.mpr ⟨⟨Nat.le_of_ble_eq_true rfl, Nat.le_of_ble_eq_true rfl, m_w699, rfl, rfl, rfl⟩, List.forall_mem_cons.mpr ⟨⟨Nat.le_of_ble_eq_true rfl, Nat.le_of_ble_eq_true rfl, m_w700, rfl, rfl, rfl⟩, List.forall_mem_cons.mpr ⟨⟨Nat.le_of_ble_eq_true rfl, Nat.le_of_ble_eq_true rfl, m_w701, rfl, rfl, rfl⟩, List.forall_mem_cons.mpr ⟨⟨Nat.le_of_ble_eq_true rfl, Nat.le_of_ble_eq_true rfl, m_w702, rfl, rfl, rfl⟩, List.forall_mem_cons.mpr ⟨⟨Nat.le_of_ble_eq_true rfl, Nat.le_of_ble_eq_true rfl, m_w703, rfl, rfl, rfl⟩, List.forall_mem_cons.mpr ⟨⟨Nat.le_of_ble_eq_true rfl, Nat.le_of_ble_eq_true rfl, m_w704, rfl, rfl, rfl⟩, List.forall_mem_cons.mpr ⟨⟨Nat.le_of_ble_eq_true rfl, Nat.le_of_ble_eq_true rfl, m_w705, rfl, rfl, rfl⟩, List.forall_mem_cons.mpr ⟨⟨Nat.le_of_ble_eq_true rfl, Nat.le_of_ble_eq_true rfl, m_w706, rfl, rfl, rfl⟩, List.forall_mem_cons.mpr ⟨⟨Nat.le_of_ble_eq_true rfl, Nat.le_of_ble_eq_true rfl, m_w707, rfl, rfl, rfl⟩, List.forall_mem_cons.mpr ⟨⟨Nat.le_of_ble_eq_true rfl, Nat.le_of_ble_eq_true rfl, m_w708, rfl, rfl, rfl⟩, List.forall_mem_cons.mpr ⟨⟨Nat.le_of_ble_eq_true rfl, Nat.le_of_ble_eq_true rfl, m_w709, rfl, rfl, rfl⟩, List.forall_mem_cons.mpr ⟨⟨Nat.le_of_ble_eq_true rfl, Nat.le_of_ble_eq_true rfl, m_w710, rfl, rfl, rfl⟩, List.forall_mem_cons.mpr ⟨⟨Nat.le_of_ble_eq_true rfl, Nat.le_of_ble_eq_true rfl, m_w711, rfl, rfl, rfl⟩, List.forall_mem_cons.mpr ⟨⟨Nat.le_of_ble_eq_true rfl, Nat.le_of_ble_eq_true rfl, m_w712, rfl, rfl, rfl⟩, List.forall_mem_cons.mpr ⟨⟨Nat.le_of_ble_eq_true rfl, Nat.le_of_ble_eq_true rfl, m_w713, rfl, rfl, rfl⟩, List.forall_mem_cons.mpr ⟨⟨Nat.le_of_ble_eq_true rfl, Nat.le_of_ble_eq_true rfl, m_w714, rfl, rfl, rfl⟩, List.forall_mem_cons.mpr ⟨⟨Nat.le_of_ble_eq_true rfl, Nat.le_of_ble_eq_true rfl, m_w715, rfl, rfl, rfl⟩, List.forall_mem_cons.mpr ⟨⟨Nat.le_of_ble_eq_true rfl, Nat.le_of_ble_eq_true rfl, m_w716, rfl, rfl, rfl⟩, List.forall_mem_cons.mpr ⟨⟨Nat.le_of_ble_eq_true rfl, Nat.le_of_ble_eq_true rfl, m_w717, rfl, rfl, rfl⟩, List.forall_mem_cons.mpr ⟨⟨Nat.le_of_ble_eq_true rfl, Nat.le_of_ble_eq_true rfl, m_w718, rfl, rfl, rfl⟩, fun _ h => absurd h List.not_mem_nil⟩⟩⟩⟩⟩⟩⟩⟩⟩⟩⟩⟩⟩⟩⟩⟩⟩⟩⟩⟩⟩⟩⟩⟩
set_option maxRecDepth 20000 in
theorem m_mtx_9 : ∀ e ∈ m_mt.getD 9 [], m_mtP "ShelfSlotsModel" e := List.forall_mem_cons.mpr ⟨⟨m_w694, m_w68, m_w69⟩, List.forall_mem_cons.mpr ⟨⟨m_w772, m_w774, m_w11, m_w56, m_qp_98, Nat.le_of_ble_eq_true rfl, rfl⟩, List.forall_mem_cons.mpr ⟨⟨m_w776, m_w777, m_w56, m_qp_99⟩, List.forall_mem_cons.mpr ⟨⟨m_w779, m_w780, m_w56, m_qp_100⟩, List.forall_mem_cons.mpr ⟨⟨m_w782, m_w783, m_w56, m_qp_101⟩, List.forall_mem_cons.mpr ⟨⟨m_w785, m_w787, m_w12, m_w56, m_qp_102, Nat.le_of_ble_eq_true rfl, rfl⟩, List.forall_mem_cons.mpr ⟨⟨m_w789, m_w791, m_w13, m_w56, m_qp_103, Nat.le_of_ble_eq_true rfl, rfl⟩, List.forall_mem_cons.mpr ⟨⟨m_w797, m_w799, m_w14, m_w56, m_qp_105, Nat.le_of_ble_eq_true rfl, rfl⟩, List.forall_mem_cons.mpr ⟨⟨m_w801, m_w802, m_w56, m_qp_106⟩, List.forall_mem_cons.mpr ⟨⟨m_w804, m_w806, m_w15, m_w56, m_qp_107, Nat.le_of_ble_eq_true rfl, rfl⟩, List.forall_mem_cons.mpr ⟨⟨m_w808, m_w810, m_w16, m_w56, m_qp_108, Nat.le_of_ble_eq_true rfl, rfl⟩, List.forall_mem_cons.mpr ⟨⟨m_w812, m_w813, m_w56, m_qp_109⟩, List.forall_mem_cons.mpr ⟨⟨m_w819, m_w821, m_w17, m_w56, m_qp_111, Nat.le_of_ble_eq_true rfl, rfl⟩, List.forall_mem_cons.mpr ⟨⟨m_w823, m_w825, m_w18, m_w56, m_qp_112, Nat.le_of_ble_eq_true rfl, rfl⟩, List.forall_mem_cons.mpr ⟨⟨m_w827, m_w829, m_w19, m_w56, m_qp_113, Nat.le_of_ble_eq_true rfl, rfl⟩, List.forall_mem_cons.mpr ⟨⟨m_w835, m_w837, m_w20, m_w56, m_qp_115, Nat.le_of_ble_eq_true rfl, rfl⟩, List.forall_mem_cons.mpr ⟨⟨m_w843, m_w845, m_w21, m_w56, m_qp_117, Nat.le_of_ble_eq_true rfl, rfl⟩, List.forall_mem_cons.mpr ⟨⟨m_w847, m_w849, m_w22, m_w56, m_qp_118, Nat.le_of_ble_eq_true rfl, rfl⟩, List.forall_mem_cons.mpr ⟨⟨m_w851, m_w852, m_w56, m_qp_119⟩, List.forall_mem_cons.mpr ⟨⟨m_w854, m_w856, m_w23, m_w56, m_qp_120, Nat.le_of_ble_eq_true rfl, rfl⟩, List.forall_mem_cons.mpr ⟨⟨m_w858, m_w860, m_w24, m_w56, m_qp_121, Nat.le_of_ble_eq_true rfl, rfl⟩, List.forall_mem_cons.mpr ⟨⟨m_w862, m_w864, m_w25, m_w56, m_qp_122, Nat.le_of_ble_eq_true rfl, rfl⟩, List.forall_mem_cons.mpr ⟨⟨m_w866, m_w868, m_w26, m_w56, m_qp_123, Nat.le_of_ble_eq_true rfl, rfl⟩, List.forall_mem_cons.mpr ⟨⟨m_w870, m_w872, m_w27, m_w56, m_qp_124, Nat.le_of_ble_eq_true rfl, rfl⟩, List.forall_mem_cons.mpr ⟨⟨m_w878, m_w880, m_w28, m_w56, m_qp_126, Nat.le_of_ble_eq_true rfl, rfl⟩, List.forall_mem_cons.mpr ⟨⟨m_w882, m_w884, m_w29, m_w56, m_qp_127, Nat.le_of_ble_eq_true rfl, rfl⟩, List.forall_mem_cons.mpr ⟨⟨m_w887, m_w889, m_w30, m_w56, m_qp_128, Nat.le_of_ble_eq_true rfl, rfl⟩, List.forall_mem_cons.mpr ⟨⟨m_w891, m_w893, m_w31, m_w56, m_qp_129, Nat.le_of_ble_eq_true rfl, rfl⟩, List.forall_mem_cons.mpr ⟨⟨m_w895, m_w897, m_w32, m_w56, m_qp_130, Nat.le_of_ble_eq_true rfl, rfl⟩, List.forall_mem_cons.mpr ⟨⟨m_w899, m_w901, m_w33, m_w56, m_qp_131, Nat.le_of_ble_eq_true rfl, rfl⟩, List.forall_mem_cons.mpr ⟨⟨m_w907, m_w909, m_w34, m_w56, m_qp_133, Nat.le_of_ble_eq_true rfl, rfl⟩, List.forall_mem_cons.mpr ⟨⟨m_w911, m_w912, m_w56, m_qp_134⟩, List.forall_mem_cons.mpr ⟨⟨m_w936, m_w938, m_w35, m_w56, m_qp_140, Nat.le_of_ble_eq_true rfl, rfl⟩, List.forall_mem_cons.mpr ⟨⟨m_w940, m_w942, m_w36, m_w56, m_qp_141, Nat.le_of_ble_eq_true rfl, rfl⟩, List.forall_mem_cons.mpr ⟨⟨m_w948, m_w949, m_w56, m_qp_143⟩, List.forall_mem_cons.mpr ⟨⟨m_w967, m_w969, m_w37, m_w56, m_qp_147, Nat.le_of_ble_eq_true rfl, rfl⟩, List.forall_mem_cons.mpr ⟨⟨m_w971, m_w973, m_w38, m_w56, m_qp_148, Nat.le_of_ble_eq_true rfl, rfl⟩, List.forall_mem_cons.mpr ⟨⟨m_w980, m_w982, m_w39, m_w56, m_qp_150, Nat.le_of_ble_eq_true rfl, rfl⟩, List.forall_mem_cons.mpr ⟨⟨m_w1005, m_w1007, m_w40, m_w56, m_qp_156, Nat.le_of_ble_eq_true rfl, rfl⟩, List.forall_mem_cons.mpr ⟨⟨m_w1009, m_w1011, m_w41, m_w56, m_qp_157, Nat.le_of_ble_eq_true rfl, rfl⟩, List.forall_mem_cons.mpr ⟨⟨m_w1013, m_w1015, m_w42, m_w56, m_qp_158, Nat.le_of_ble_eq_true rfl, rfl⟩, List.forall_mem_cons.mpr ⟨⟨m_w1017, m_w1019, m_w43, m_w56, m_qp_159, Nat.le_of_ble_eq_true rfl, rfl⟩, List.forall_mem_cons.mpr ⟨⟨m_w1021, m_w1023, m_w44, m_w56, m_qp_160, Nat.le_of_ble_eq_true rfl, rfl⟩, List.forall_mem_cons.mpr ⟨⟨m_w1025, m_w1027, m_w45, m_w56, m_qp_161, Nat.le_of_ble_eq_true rfl, rfl⟩, List.forall_mem_cons.mpr ⟨⟨m_w1029, m_w1031, m_w46, m_w56, m_qp_162, Nat.le_of_ble_eq_true rfl, rfl⟩, List.forall_mem_cons.mpr ⟨⟨m_w1037, m_w1002, m_w1003, m_w56, m_qp_155, Nat.le_of_ble_eq_true rfl, rfl⟩, fun _ h => absurd h List.not_mem_nil⟩⟩⟩⟩⟩⟩⟩⟩⟩⟩⟩⟩⟩⟩⟩⟩⟩⟩⟩⟩⟩⟩⟩⟩⟩⟩⟩⟩⟩⟩⟩⟩⟩⟩⟩⟩⟩⟩⟩⟩⟩⟩⟩⟩⟩⟩
theorem m_ctx_9 : ∀ e ∈ m_ct.getD 9 [], m_ctP "ShelfSlotsModel" e := List.forall_mem_cons.mpr ⟨m_w886, List.forall_mem_cons.mpr ⟨m_w914, List.forall_mem_cons.mpr ⟨m_w915, List.forall_mem_cons.mpr ⟨m_w951, List.forall_mem_cons.mpr ⟨m_w952, List.forall_mem_cons.mpr ⟨m_w953, List.forall_mem_cons.mpr ⟨m_w954, List.forall_mem_cons.mpr ⟨m_w975, List.forall_mem_cons.mpr ⟨m_w996, fun _ h => absurd h List.not_mem_nil⟩⟩⟩⟩⟩⟩⟩⟩⟩
theorem m_cnx_9 : ∀ e ∈ m_cn.getD 9 [], m_cnP "ShelfSlotsModel" e := fun _ h => absurd h List.not_mem_nil
set_option maxRecDepth 20000 in
theorem m_flx_10 : ∀ e ∈ m_fl.getD 10 [], m_flP "java/lang/Integer" e := fun _ h => absurd h List.not_mem_nil
set_option maxRecDepth 20000 in
theorem m_mtx_10 : ∀ e ∈ m_mt.getD 10 [], m_mtP "java/lang/Integer" e := fun _ h => absurd h List.not_mem_nil
theorem m_ctx_10 : ∀ e ∈ m_ct.getD 10 [], m_ctP "java/lang/Integer" e := List.forall_mem_cons.mpr ⟨m_w380, List.forall_mem_cons.mpr ⟨m_w381, List.forall_mem_cons.mpr ⟨m_w382, fun _ h => absurd h List.not_mem_nil⟩⟩⟩
theorem m_cnx_10 : ∀ e ∈ m_cn.getD 10 [], m_cnP "java/lang/Integer" e := fun _ h => absurd h List.not_mem_nil
set_option maxRecDepth 20000 in
theorem m_flx_11 : ∀ e ∈ m_fl.getD 11 [], m_flP "ShelfSlots$Bits" e := fun _ h => absurd h List.not_mem_nil
set_option maxRecDepth 20000 in
theorem m_mtx_11 : ∀ e ∈ m_mt.getD 11 [], m_mtP "ShelfSlots$Bits" e := List.forall_mem_cons.mpr ⟨⟨m_w487, m_w488, m_w61, m_qp_51⟩, List.forall_mem_cons.mpr ⟨⟨m_w491, m_w492, m_w61, m_qp_52⟩, List.forall_mem_cons.mpr ⟨⟨m_w495, m_w316, m_w58, m_w317⟩, fun _ h => absurd h List.not_mem_nil⟩⟩⟩
theorem m_ctx_11 : ∀ e ∈ m_ct.getD 11 [], m_ctP "ShelfSlots$Bits" e := List.forall_mem_cons.mpr ⟨m_w490, List.forall_mem_cons.mpr ⟨m_w494, List.forall_mem_cons.mpr ⟨m_w496, List.forall_mem_cons.mpr ⟨m_w543, List.forall_mem_cons.mpr ⟨m_w544, fun _ h => absurd h List.not_mem_nil⟩⟩⟩⟩⟩
theorem m_cnx_11 : ∀ e ∈ m_cn.getD 11 [], m_cnP "ShelfSlots$Bits" e := fun _ h => absurd h List.not_mem_nil
set_option maxRecDepth 20000 in
theorem m_flx_12 : ∀ e ∈ m_fl.getD 12 [], m_flP "ShelfSlotsLaw" e := fun _ h => absurd h List.not_mem_nil
set_option maxRecDepth 20000 in
theorem m_mtx_12 : ∀ e ∈ m_mt.getD 12 [], m_mtP "ShelfSlotsLaw" e := List.forall_mem_cons.mpr ⟨⟨m_w64, m_w65, m_w48, m_qp_0, rfl, rfl⟩, List.forall_mem_cons.mpr ⟨⟨m_w283, m_w284, m_w285, m_w48, m_qp_8, Nat.le_of_ble_eq_true rfl, rfl⟩, List.forall_mem_cons.mpr ⟨⟨m_w318, m_w319, m_w320, m_w48, m_qp_15, Nat.le_of_ble_eq_true rfl, rfl⟩, List.forall_mem_cons.mpr ⟨⟨m_w329, m_w330, m_w331, m_w48, m_qp_18, Nat.le_of_ble_eq_true rfl, rfl⟩, List.forall_mem_cons.mpr ⟨⟨m_w353, m_w354, m_w355, m_w48, m_qp_24, Nat.le_of_ble_eq_true rfl, rfl⟩, List.forall_mem_cons.mpr ⟨⟨m_w365, m_w366, m_w367, m_w48, m_qp_27, Nat.le_of_ble_eq_true rfl, rfl⟩, List.forall_mem_cons.mpr ⟨⟨m_w443, m_w444, m_w445, m_w48, m_qp_41, Nat.le_of_ble_eq_true rfl, rfl⟩, List.forall_mem_cons.mpr ⟨⟨m_w480, m_w481, m_w482, m_w48, m_qp_49, Nat.le_of_ble_eq_true rfl, rfl⟩, List.forall_mem_cons.mpr ⟨⟨m_w498, m_w499, m_w500, m_w48, m_qp_53, Nat.le_of_ble_eq_true rfl, rfl⟩, List.forall_mem_cons.mpr ⟨⟨m_w504, m_w505, m_w506, m_w48, m_qp_54, Nat.le_of_ble_eq_true rfl, rfl⟩, List.forall_mem_cons.mpr ⟨⟨m_w509, m_w510, m_w511, m_w48, m_qp_55, Nat.le_of_ble_eq_true rfl, rfl⟩, List.forall_mem_cons.mpr ⟨⟨m_w513, m_w514, m_w515, m_w48, m_qp_56, Nat.le_of_ble_eq_true rfl, rfl⟩, List.forall_mem_cons.mpr ⟨⟨m_w518, m_w519, m_w520, m_w48, m_qp_57, Nat.le_of_ble_eq_true rfl, rfl⟩, List.forall_mem_cons.mpr ⟨⟨m_w532, m_w533, m_w534, m_w48, m_qp_60, Nat.le_of_ble_eq_true rfl, rfl⟩, List.forall_mem_cons.mpr ⟨⟨m_w545, m_w546, m_w547, m_w48, m_qp_63, Nat.le_of_ble_eq_true rfl, rfl⟩, List.forall_mem_cons.mpr ⟨⟨m_w549, m_w550, m_w551, m_w48, m_qp_64, Nat.le_of_ble_eq_true rfl, rfl⟩, List.forall_mem_cons.mpr ⟨⟨m_w557, m_w558, m_w559, m_w48, m_qp_66, Nat.le_of_ble_eq_true rfl, rfl⟩, List.forall_mem_cons.mpr ⟨⟨m_w572, m_w573, m_w574, m_w48, m_qp_69, Nat.le_of_ble_eq_true rfl, rfl⟩, List.forall_mem_cons.mpr ⟨⟨m_w579, m_w580, m_w581, m_w48, m_qp_70, Nat.le_of_ble_eq_true rfl, rfl⟩, List.forall_mem_cons.mpr ⟨⟨m_w585, m_w586, m_w587, m_w48, m_qp_71, Nat.le_of_ble_eq_true rfl, rfl⟩, List.forall_mem_cons.mpr ⟨⟨m_w593, m_w594, m_w595, m_w48, m_qp_73, Nat.le_of_ble_eq_true rfl, rfl⟩, List.forall_mem_cons.mpr ⟨⟨m_w602, m_w603, m_w604, m_w48, m_qp_75, Nat.le_of_ble_eq_true rfl, rfl⟩, List.forall_mem_cons.mpr ⟨⟨m_w610, m_w611, m_w612, m_w48, m_qp_77, Nat.le_of_ble_eq_true rfl, rfl⟩, List.forall_mem_cons.mpr ⟨⟨m_w641, m_w642, m_w643, m_w48, m_qp_85, Nat.le_of_ble_eq_true rfl, rfl⟩, List.forall_mem_cons.mpr ⟨⟨m_w673, m_w674, m_w675, m_w48, m_qp_92, Nat.le_of_ble_eq_true rfl, rfl⟩, List.forall_mem_cons.mpr ⟨⟨m_w681, m_w682, m_w683, m_w48, m_qp_94, Nat.le_of_ble_eq_true rfl, rfl⟩, List.forall_mem_cons.mpr ⟨⟨m_w685, m_w686, m_w687, m_w48, m_qp_95, Nat.le_of_ble_eq_true rfl, rfl⟩, List.forall_mem_cons.mpr ⟨⟨m_w691, m_w692, m_w56, m_qp_96, rfl, rfl⟩, List.forall_mem_cons.mpr ⟨⟨m_w768, m_w769, m_w770, m_w56, m_qp_97, Nat.le_of_ble_eq_true rfl, rfl⟩, List.forall_mem_cons.mpr ⟨⟨m_w793, m_w794, m_w795, m_w56, m_qp_104, Nat.le_of_ble_eq_true rfl, rfl⟩, List.forall_mem_cons.mpr ⟨⟨m_w815, m_w816, m_w817, m_w56, m_qp_110, Nat.le_of_ble_eq_true rfl, rfl⟩, List.forall_mem_cons.mpr ⟨⟨m_w831, m_w832, m_w833, m_w56, m_qp_114, Nat.le_of_ble_eq_true rfl, rfl⟩, List.forall_mem_cons.mpr ⟨⟨m_w839, m_w840, m_w841, m_w56, m_qp_116, Nat.le_of_ble_eq_true rfl, rfl⟩, List.forall_mem_cons.mpr ⟨⟨m_w874, m_w875, m_w876, m_w56, m_qp_125, Nat.le_of_ble_eq_true rfl, rfl⟩, List.forall_mem_cons.mpr ⟨⟨m_w903, m_w904, m_w905, m_w56, m_qp_132, Nat.le_of_ble_eq_true rfl, rfl⟩, List.forall_mem_cons.mpr ⟨⟨m_w916, m_w917, m_w918, m_w56, m_qp_135, Nat.le_of_ble_eq_true rfl, rfl⟩, List.forall_mem_cons.mpr ⟨⟨m_w920, m_w921, m_w922, m_w56, m_qp_136, Nat.le_of_ble_eq_true rfl, rfl⟩, List.forall_mem_cons.mpr ⟨⟨m_w924, m_w925, m_w926, m_w56, m_qp_137, Nat.le_of_ble_eq_true rfl, rfl⟩, List.forall_mem_cons.mpr ⟨⟨m_w928, m_w929, m_w930, m_w56, m_qp_138, Nat.le_of_ble_eq_true rfl, rfl⟩, List.forall_mem_cons.mpr ⟨⟨m_w932, m_w933, m_w934, m_w56, m_qp_139, Nat.le_of_ble_eq_true rfl, rfl⟩, List.forall_mem_cons.mpr ⟨⟨m_w944, m_w945, m_w946, m_w56, m_qp_142, Nat.le_of_ble_eq_true rfl, rfl⟩, List.forall_mem_cons.mpr ⟨⟨m_w955, m_w956, m_w957, m_w56, m_qp_144, Nat.le_of_ble_eq_true rfl, rfl⟩, List.forall_mem_cons.mpr ⟨⟨m_w959, m_w960, m_w961, m_w56, m_qp_145, Nat.le_of_ble_eq_true rfl, rfl⟩, List.forall_mem_cons.mpr ⟨⟨m_w963, m_w964, m_w965, m_w56, m_qp_146, Nat.le_of_ble_eq_true rfl, rfl⟩, List.forall_mem_cons.mpr ⟨⟨m_w976, m_w977, m_w978, m_w56, m_qp_149, Nat.le_of_ble_eq_true rfl, rfl⟩, List.forall_mem_cons.mpr ⟨⟨m_w984, m_w985, m_w986, m_w56, m_qp_151, Nat.le_of_ble_eq_true rfl, rfl⟩, List.forall_mem_cons.mpr ⟨⟨m_w988, m_w989, m_w990, m_w56, m_qp_152, Nat.le_of_ble_eq_true rfl, rfl⟩, List.forall_mem_cons.mpr ⟨⟨m_w992, m_w993, m_w994, m_w56, m_qp_153, Nat.le_of_ble_eq_true rfl, rfl⟩, List.forall_mem_cons.mpr ⟨⟨m_w997, m_w998, m_w999, m_w56, m_qp_154, Nat.le_of_ble_eq_true rfl, rfl⟩, List.forall_mem_cons.mpr ⟨⟨m_w1001, m_w1002, m_w1003, m_w56, m_qp_155, Nat.le_of_ble_eq_true rfl, rfl⟩, List.forall_mem_cons.mpr ⟨⟨m_w1033, m_w1034, m_w1035, m_w56, m_qp_163, Nat.le_of_ble_eq_true rfl, rfl⟩, List.forall_mem_cons.mpr ⟨⟨m_w1038, m_w1039, m_w1040, m_w56, m_qp_164, Nat.le_of_ble_eq_true rfl, rfl⟩, List.forall_mem_cons.mpr ⟨⟨m_w1042, m_w1043, m_w1044, m_w56, m_qp_165, Nat.le_of_ble_eq_true rfl, rfl⟩, List.forall_mem_cons.mpr ⟨⟨m_w1046, m_w1047, m_w1048, m_w56, m_qp_166, Nat.le_of_ble_eq_true rfl, rfl⟩, fun _ h => absurd h List.not_mem_nil⟩⟩⟩⟩⟩⟩⟩⟩⟩⟩⟩⟩⟩⟩⟩⟩⟩⟩⟩⟩⟩⟩⟩⟩⟩⟩⟩⟩⟩⟩⟩⟩⟩⟩⟩⟩⟩⟩⟩⟩⟩⟩⟩⟩⟩⟩⟩⟩⟩⟩⟩⟩⟩⟩
theorem m_ctx_12 : ∀ e ∈ m_ct.getD 12 [], m_ctP "ShelfSlotsLaw" e := List.forall_mem_cons.mpr ⟨m_w1050, fun _ h => absurd h List.not_mem_nil⟩
theorem m_cnx_12 : ∀ e ∈ m_cn.getD 12 [], m_cnP "ShelfSlotsLaw" e := List.forall_mem_cons.mpr ⟨⟨Nat.le_of_ble_eq_true rfl, m_w62, m_w63, m_w48⟩, List.forall_mem_cons.mpr ⟨⟨Nat.le_of_ble_eq_true rfl, m_w689, m_w690, m_w56⟩, fun _ h => absurd h List.not_mem_nil⟩⟩
theorem m_fl_all : ∀ ox, ∀ e ∈ m_fl.getD ox [], m_flP (m_own ox) e := fun ox => match ox with
  | 0 => m_flx_0
  | 1 => m_flx_1
  | 2 => m_flx_2
  | 3 => m_flx_3
  | 4 => m_flx_4
  | 5 => m_flx_5
  | 6 => m_flx_6
  | 7 => m_flx_7
  | 8 => m_flx_8
  | 9 => m_flx_9
  | 10 => m_flx_10
  | 11 => m_flx_11
  | 12 => m_flx_12
  | _ + 13 => fun _ h => absurd h List.not_mem_nil
theorem m_mt_all : ∀ ox, ∀ e ∈ m_mt.getD ox [], m_mtP (m_own ox) e := fun ox => match ox with
  | 0 => m_mtx_0
  | 1 => m_mtx_1
  | 2 => m_mtx_2
  | 3 => m_mtx_3
  | 4 => m_mtx_4
  | 5 => m_mtx_5
  | 6 => m_mtx_6
  | 7 => m_mtx_7
  | 8 => m_mtx_8
  | 9 => m_mtx_9
  | 10 => m_mtx_10
  | 11 => m_mtx_11
  | 12 => m_mtx_12
  | _ + 13 => fun _ h => absurd h List.not_mem_nil
theorem m_ct_all : ∀ ox, ∀ e ∈ m_ct.getD ox [], m_ctP (m_own ox) e := fun ox => match ox with
  | 0 => m_ctx_0
  | 1 => m_ctx_1
  | 2 => m_ctx_2
  | 3 => m_ctx_3
  | 4 => m_ctx_4
  | 5 => m_ctx_5
  | 6 => m_ctx_6
  | 7 => m_ctx_7
  | 8 => m_ctx_8
  | 9 => m_ctx_9
  | 10 => m_ctx_10
  | 11 => m_ctx_11
  | 12 => m_ctx_12
  | _ + 13 => fun _ h => absurd h List.not_mem_nil
theorem m_cn_all : ∀ ox, ∀ e ∈ m_cn.getD ox [], m_cnP (m_own ox) e := fun ox => match ox with
  | 0 => m_cnx_0
  | 1 => m_cnx_1
  | 2 => m_cnx_2
  | 3 => m_cnx_3
  | 4 => m_cnx_4
  | 5 => m_cnx_5
  | 6 => m_cnx_6
  | 7 => m_cnx_7
  | 8 => m_cnx_8
  | 9 => m_cnx_9
  | 10 => m_cnx_10
  | 11 => m_cnx_11
  | 12 => m_cnx_12
  | _ + 13 => fun _ h => absurd h List.not_mem_nil
set_option maxRecDepth 20000 in
theorem m_own_all : ∀ q ∈ m_all, m_own q.2.2.2.2.1 = q.1.cls := List.forall_mem_cons.mpr ⟨rfl, List.forall_mem_cons.mpr ⟨rfl, List.forall_mem_cons.mpr ⟨rfl, List.forall_mem_cons.mpr ⟨rfl, List.forall_mem_cons.mpr ⟨rfl, List.forall_mem_cons.mpr ⟨rfl, List.forall_mem_cons.mpr ⟨rfl, List.forall_mem_cons.mpr ⟨rfl, List.forall_mem_cons.mpr ⟨rfl, List.forall_mem_cons.mpr ⟨rfl, List.forall_mem_cons.mpr ⟨rfl, List.forall_mem_cons.mpr ⟨rfl, List.forall_mem_cons.mpr ⟨rfl, List.forall_mem_cons.mpr ⟨rfl, List.forall_mem_cons.mpr ⟨rfl, List.forall_mem_cons.mpr ⟨rfl, List.forall_mem_cons.mpr ⟨rfl, List.forall_mem_cons.mpr ⟨rfl, List.forall_mem_cons.mpr ⟨rfl, List.forall_mem_cons.mpr ⟨rfl, List.forall_mem_cons.mpr ⟨rfl, List.forall_mem_cons.mpr ⟨rfl, List.forall_mem_cons.mpr ⟨rfl, List.forall_mem_cons.mpr ⟨rfl, List.forall_mem_cons.mpr ⟨rfl, List.forall_mem_cons.mpr ⟨rfl, List.forall_mem_cons.mpr ⟨rfl, List.forall_mem_cons.mpr ⟨rfl, List.forall_mem_cons.mpr ⟨rfl, List.forall_mem_cons.mpr ⟨rfl, List.forall_mem_cons.mpr ⟨rfl, List.forall_mem_cons.mpr ⟨rfl, List.forall_mem_cons.mpr ⟨rfl, List.forall_mem_cons.mpr ⟨rfl, List.forall_mem_cons.mpr ⟨rfl, List.forall_mem_cons.mpr ⟨rfl, List.forall_mem_cons.mpr ⟨rfl, List.forall_mem_cons.mpr ⟨rfl, List.forall_mem_cons.mpr ⟨rfl, List.forall_mem_cons.mpr ⟨rfl, List.forall_mem_cons.mpr ⟨rfl, List.forall_mem_cons.mpr ⟨rfl, List.forall_mem_cons.mpr ⟨rfl, List.forall_mem_cons.mpr ⟨rfl, List.forall_mem_cons.mpr ⟨rfl, List.forall_mem_cons.mpr ⟨rfl, List.forall_mem_cons.mpr ⟨rfl, List.forall_mem_cons.mpr ⟨rfl, List.forall_mem_cons.mpr ⟨rfl, List.forall_mem_cons.mpr ⟨rfl, List.forall_mem_cons.mpr ⟨rfl, List.forall_mem_cons.mpr ⟨rfl, List.forall_mem_cons.mpr ⟨rfl, List.forall_mem_cons.mpr ⟨rfl, List.forall_mem_cons.mpr ⟨rfl, List.forall_mem_cons.mpr ⟨rfl, List.forall_mem_cons.mpr ⟨rfl, List.forall_mem_cons.mpr ⟨rfl, List.forall_mem_cons.mpr ⟨rfl, List.forall_mem_cons.mpr ⟨rfl, List.forall_mem_cons.mpr ⟨rfl, List.forall_mem_cons.mpr ⟨rfl, List.forall_mem_cons.mpr ⟨rfl, List.forall_mem_cons.mpr ⟨rfl, List.forall_mem_cons.mpr ⟨rfl, List.forall_mem_cons.mpr ⟨rfl, List.forall_mem_cons.mpr ⟨rfl, List.forall_mem_cons.mpr ⟨rfl, List.forall_mem_cons.mpr ⟨rfl, List.forall_mem_cons.mpr ⟨rfl, List.forall_mem_cons.mpr ⟨rfl, List.forall_mem_cons.mpr ⟨rfl, List.forall_mem_cons.mpr ⟨rfl, List.forall_mem_cons.mpr ⟨rfl, List.forall_mem_cons.mpr ⟨rfl, List.forall_mem_cons.mpr ⟨rfl, List.forall_mem_cons.mpr ⟨rfl, List.forall_mem_cons.mpr ⟨rfl, List.forall_mem_cons.mpr ⟨rfl, List.forall_mem_cons.mpr ⟨rfl, List.forall_mem_cons.mpr ⟨rfl, List.forall_mem_cons.mpr ⟨rfl, List.forall_mem_cons.mpr ⟨rfl, List.forall_mem_cons.mpr ⟨rfl, List.forall_mem_cons.mpr ⟨rfl, List.forall_mem_cons.mpr ⟨rfl, List.forall_mem_cons.mpr ⟨rfl, List.forall_mem_cons.mpr ⟨rfl, List.forall_mem_cons.mpr ⟨rfl, List.forall_mem_cons.mpr ⟨rfl, List.forall_mem_cons.mpr ⟨rfl, List.forall_mem_cons.mpr ⟨rfl, List.forall_mem_cons.mpr ⟨rfl, List.forall_mem_cons.mpr ⟨rfl, List.forall_mem_cons.mpr ⟨rfl, List.forall_mem_cons.mpr ⟨rfl, List.forall_mem_cons.mpr ⟨rfl, List.forall_mem_cons.mpr ⟨rfl, List.forall_mem_cons.mpr ⟨rfl, List.forall_mem_cons.mpr ⟨rfl, List.forall_mem_cons.mpr ⟨rfl, List.forall_mem_cons.mpr ⟨rfl, List.forall_mem_cons.mpr ⟨rfl, List.forall_mem_cons.mpr ⟨rfl, List.forall_mem_cons.mpr ⟨rfl, List.forall_mem_cons.mpr ⟨rfl, List.forall_mem_cons.mpr ⟨rfl, List.forall_mem_cons.mpr ⟨rfl, List.forall_mem_cons.mpr ⟨rfl, List.forall_mem_cons.mpr ⟨rfl, List.forall_mem_cons.mpr ⟨rfl, List.forall_mem_cons.mpr ⟨rfl, List.forall_mem_cons.mpr ⟨rfl, List.forall_mem_cons.mpr ⟨rfl, List.forall_mem_cons.mpr ⟨rfl, List.forall_mem_cons.mpr ⟨rfl, List.forall_mem_cons.mpr ⟨rfl, List.forall_mem_cons.mpr ⟨rfl, List.forall_mem_cons.mpr ⟨rfl, List.forall_mem_cons.mpr ⟨rfl, List.forall_mem_cons.mpr ⟨rfl, List.forall_mem_cons.mpr ⟨rfl, List.forall_mem_cons.mpr ⟨rfl, List.forall_mem_cons.mpr ⟨rfl, List.forall_mem_cons.mpr ⟨rfl, List.forall_mem_cons.mpr ⟨rfl, List.forall_mem_cons.mpr ⟨rfl, List.forall_mem_cons.mpr ⟨rfl, List.forall_mem_cons.mpr ⟨rfl, List.forall_mem_cons.mpr ⟨rfl, List.forall_mem_cons.mpr ⟨rfl, List.forall_mem_cons.mpr ⟨rfl, List.forall_mem_cons.mpr ⟨rfl, List.forall_mem_cons.mpr ⟨rfl, List.forall_mem_cons.mpr ⟨rfl, List.forall_mem_cons.mpr ⟨rfl, List.forall_mem_cons.mpr ⟨rfl, List.forall_mem_cons.mpr ⟨rfl, List.forall_mem_cons.mpr ⟨rfl, List.forall_mem_cons.mpr ⟨rfl, List.forall_mem_cons.mpr ⟨rfl, List.forall_mem_cons.mpr ⟨rfl, List.forall_mem_cons.mpr ⟨rfl, List.forall_mem_cons.mpr ⟨rfl, List.forall_mem_cons.mpr ⟨rfl, List.forall_mem_cons.mpr ⟨rfl, List.forall_mem_cons.mpr ⟨rfl, List.forall_mem_cons.mpr ⟨rfl, List.forall_mem_cons.mpr ⟨rfl, List.forall_mem_cons.mpr ⟨rfl, List.forall_mem_cons.mpr ⟨rfl, List.forall_mem_cons.mpr ⟨rfl, List.forall_mem_cons.mpr ⟨rfl, List.forall_mem_cons.mpr ⟨rfl, List.forall_mem_cons.mpr ⟨rfl, List.forall_mem_cons.mpr ⟨rfl, List.forall_mem_cons.mpr ⟨rfl, List.forall_mem_cons.mpr ⟨rfl, List.forall_mem_cons.mpr ⟨rfl, List.forall_mem_cons.mpr ⟨rfl, List.forall_mem_cons.mpr ⟨rfl, List.forall_mem_cons.mpr ⟨rfl, List.forall_mem_cons.mpr ⟨rfl, List.forall_mem_cons.mpr ⟨rfl, List.forall_mem_cons.mpr ⟨rfl, List.forall_mem_cons.mpr ⟨rfl, List.forall_mem_cons.mpr ⟨rfl, List.forall_mem_cons.mpr ⟨rfl, fun _ h => absurd h List.not_mem_nil⟩⟩⟩⟩⟩⟩⟩⟩⟩⟩⟩⟩⟩⟩⟩⟩⟩⟩⟩⟩⟩⟩⟩⟩⟩⟩⟩⟩⟩⟩⟩⟩⟩⟩⟩⟩⟩⟩⟩⟩⟩⟩⟩⟩⟩⟩⟩⟩⟩⟩⟩⟩⟩⟩⟩⟩⟩⟩⟩⟩⟩⟩⟩⟩⟩⟩⟩⟩⟩⟩⟩⟩⟩⟩⟩⟩⟩⟩⟩⟩⟩⟩⟩⟩⟩⟩⟩⟩⟩⟩⟩⟩⟩⟩⟩⟩⟩⟩⟩⟩⟩⟩⟩⟩⟩⟩⟩⟩⟩⟩⟩⟩⟩⟩⟩⟩⟩⟩⟩⟩⟩⟩⟩⟩⟩⟩⟩⟩⟩⟩⟩⟩⟩⟩⟩⟩⟩⟩⟩⟩⟩⟩⟩⟩⟩⟩⟩⟩⟩⟩⟩⟩⟩⟩⟩⟩⟩⟩⟩⟩⟩⟩⟩⟩⟩⟩⟩⟩
theorem m_ci_0 : ∀ w ∈ u_ws RX1 TX1 3, w ∈ m_wt := List.forall_mem_cons.mpr ⟨m_w91, List.forall_mem_cons.mpr ⟨m_w93, List.forall_mem_cons.mpr ⟨m_w95, fun _ h => absurd h List.not_mem_nil⟩⟩⟩
theorem m_ci_1 : ∀ w ∈ u_ws RX2 TX2 3, w ∈ m_wt := List.forall_mem_cons.mpr ⟨m_w215, List.forall_mem_cons.mpr ⟨m_w217, List.forall_mem_cons.mpr ⟨m_w219, fun _ h => absurd h List.not_mem_nil⟩⟩⟩
theorem m_ci_2 : ∀ w ∈ u_ws RX3 TX3 3, w ∈ m_wt := List.forall_mem_cons.mpr ⟨m_w250, List.forall_mem_cons.mpr ⟨m_w252, List.forall_mem_cons.mpr ⟨m_w254, fun _ h => absurd h List.not_mem_nil⟩⟩⟩
theorem m_ci_3 : ∀ w ∈ u_ws RX4 TX4 3, w ∈ m_wt := List.forall_mem_cons.mpr ⟨m_w193, List.forall_mem_cons.mpr ⟨m_w195, List.forall_mem_cons.mpr ⟨m_w197, fun _ h => absurd h List.not_mem_nil⟩⟩⟩
theorem m_ci_4 : ∀ w ∈ u_ws RX5 TX5 4, w ∈ m_wt := List.forall_mem_cons.mpr ⟨m_w228, List.forall_mem_cons.mpr ⟨m_w230, List.forall_mem_cons.mpr ⟨m_w232, List.forall_mem_cons.mpr ⟨m_w234, fun _ h => absurd h List.not_mem_nil⟩⟩⟩⟩
theorem m_ci_5 : ∀ w ∈ u_ws RX6 TX6 4, w ∈ m_wt := List.forall_mem_cons.mpr ⟨m_w430, List.forall_mem_cons.mpr ⟨m_w432, List.forall_mem_cons.mpr ⟨m_w434, List.forall_mem_cons.mpr ⟨m_w436, fun _ h => absurd h List.not_mem_nil⟩⟩⟩⟩
theorem m_ci_6 : ∀ w ∈ u_ws RX7 TX7 16, w ∈ m_wt := List.forall_mem_cons.mpr ⟨m_w136, List.forall_mem_cons.mpr ⟨m_w138, List.forall_mem_cons.mpr ⟨m_w140, List.forall_mem_cons.mpr ⟨m_w142, List.forall_mem_cons.mpr ⟨m_w144, List.forall_mem_cons.mpr ⟨m_w146, List.forall_mem_cons.mpr ⟨m_w148, List.forall_mem_cons.mpr ⟨m_w150, List.forall_mem_cons.mpr ⟨m_w152, List.forall_mem_cons.mpr ⟨m_w154, List.forall_mem_cons.mpr ⟨m_w156, List.forall_mem_cons.mpr ⟨m_w158, List.forall_mem_cons.mpr ⟨m_w160, List.forall_mem_cons.mpr ⟨m_w162, List.forall_mem_cons.mpr ⟨m_w164, List.forall_mem_cons.mpr ⟨m_w166, fun _ h => absurd h List.not_mem_nil⟩⟩⟩⟩⟩⟩⟩⟩⟩⟩⟩⟩⟩⟩⟩⟩
theorem m_ci_7 : ∀ w ∈ u_ws RX8 TX8 2, w ∈ m_wt := List.forall_mem_cons.mpr ⟨m_w177, List.forall_mem_cons.mpr ⟨m_w179, fun _ h => absurd h List.not_mem_nil⟩⟩
theorem m_ci_8 : ∀ w ∈ u_ws RX9 TX9 8, w ∈ m_wt := List.forall_mem_cons.mpr ⟨m_w265, List.forall_mem_cons.mpr ⟨m_w267, List.forall_mem_cons.mpr ⟨m_w269, List.forall_mem_cons.mpr ⟨m_w271, List.forall_mem_cons.mpr ⟨m_w273, List.forall_mem_cons.mpr ⟨m_w275, List.forall_mem_cons.mpr ⟨m_w277, List.forall_mem_cons.mpr ⟨m_w279, fun _ h => absurd h List.not_mem_nil⟩⟩⟩⟩⟩⟩⟩⟩
theorem m_ci_9 : ∀ w ∈ u_ws RX10 TX10 24, w ∈ m_wt := List.forall_mem_cons.mpr ⟨m_w719, List.forall_mem_cons.mpr ⟨m_w721, List.forall_mem_cons.mpr ⟨m_w723, List.forall_mem_cons.mpr ⟨m_w725, List.forall_mem_cons.mpr ⟨m_w727, List.forall_mem_cons.mpr ⟨m_w729, List.forall_mem_cons.mpr ⟨m_w731, List.forall_mem_cons.mpr ⟨m_w733, List.forall_mem_cons.mpr ⟨m_w735, List.forall_mem_cons.mpr ⟨m_w737, List.forall_mem_cons.mpr ⟨m_w739, List.forall_mem_cons.mpr ⟨m_w741, List.forall_mem_cons.mpr ⟨m_w743, List.forall_mem_cons.mpr ⟨m_w745, List.forall_mem_cons.mpr ⟨m_w747, List.forall_mem_cons.mpr ⟨m_w749, List.forall_mem_cons.mpr ⟨m_w751, List.forall_mem_cons.mpr ⟨m_w753, List.forall_mem_cons.mpr ⟨m_w755, List.forall_mem_cons.mpr ⟨m_w757, List.forall_mem_cons.mpr ⟨m_w759, List.forall_mem_cons.mpr ⟨m_w761, List.forall_mem_cons.mpr ⟨m_w763, List.forall_mem_cons.mpr ⟨m_w765, fun _ h => absurd h List.not_mem_nil⟩⟩⟩⟩⟩⟩⟩⟩⟩⟩⟩⟩⟩⟩⟩⟩⟩⟩⟩⟩⟩⟩⟩⟩
/-- what a class's row says -/
def m_clOk (c : String × u_T × Nat × (Nat → FieldType)) : Prop := (∀ w ∈ u_ws c.1 c.2.1 c.2.2.1, w ∈ m_wt) ∧ (∀ k, k < c.2.2.1 → parseFieldDescriptor (c.2.1 k).2.2.1 = some (c.2.2.2 k)) ∧ (∀ a, a < c.2.2.1 → ∀ b, b < c.2.2.1 → a ≠ b → (c.2.1 a).2.1 ≠ (c.2.1 b).2.1)
theorem m_cl_ok : ∀ c ∈ m_cl, m_clOk c := List.forall_mem_cons.mpr ⟨⟨m_ci_0, tyX1_ok, nmX1⟩, List.forall_mem_cons.mpr ⟨⟨m_ci_1, tyX2_ok, nmX2⟩, List.forall_mem_cons.mpr ⟨⟨m_ci_2, tyX3_ok, nmX3⟩, List.forall_mem_cons.mpr ⟨⟨m_ci_3, tyX4_ok, nmX4⟩, List.forall_mem_cons.mpr ⟨⟨m_ci_4, tyX5_ok, nmX5⟩, List.forall_mem_cons.mpr ⟨⟨m_ci_5, tyX6_ok, nmX6⟩, List.forall_mem_cons.mpr ⟨⟨m_ci_6, tyX7_ok, nmX7⟩, List.forall_mem_cons.mpr ⟨⟨m_ci_7, tyX8_ok, nmX8⟩, List.forall_mem_cons.mpr ⟨⟨m_ci_8, tyX9_ok, nmX9⟩, List.forall_mem_cons.mpr ⟨⟨m_ci_9, tyX10_ok, nmX10⟩, fun _ h => absurd h List.not_mem_nil⟩⟩⟩⟩⟩⟩⟩⟩⟩⟩
theorem m_cl_vw : vwCl = m_cl.map (fun c => (c.1, c.2.1, c.2.2.1)) := rfl
theorem m_cl_own : ∀ ci, ci < m_cl.length → m_own ci = (m_c ci).1 := fun ci h => match ci, h with
  | 0, _ => rfl
  | 1, _ => rfl
  | 2, _ => rfl
  | 3, _ => rfl
  | 4, _ => rfl
  | 5, _ => rfl
  | 6, _ => rfl
  | 7, _ => rfl
  | 8, _ => rfl
  | 9, _ => rfl
  | k + 10, h => absurd h (Nat.not_lt.mpr (Nat.le_add_left _ _))
theorem m_arr_int : Cond.arrayClass .int ∈ m_wt := m_w98
theorem m_arr_float : Cond.arrayClass .float ∈ m_wt := m_w99
theorem m_arr_char : Cond.arrayClass .char ∈ m_wt := m_w222
theorem m_arr_boolean : Cond.arrayClass .boolean ∈ m_wt := m_w282
theorem m_over : Cond.arrayOver (.object "ShelfSlots$Shed") ∈ lw_tbl := m_p1_in (List.mem_of_getElem? (i := 197) rfl)
theorem m_nest_in : ∀ q ∈ m_nests, Cond.methodLinkNest q.1 q.2.1 q.2.2.1 q.2.2.2 ∈ lw_tbl := List.forall_mem_cons.mpr ⟨m_p1_in (List.mem_of_getElem? (i := 31) rfl), List.forall_mem_cons.mpr ⟨m_p1_in (List.mem_of_getElem? (i := 124) rfl), List.forall_mem_cons.mpr ⟨m_p1_in (List.mem_of_getElem? (i := 155) rfl), List.forall_mem_cons.mpr ⟨m_p1_in (List.mem_of_getElem? (i := 161) rfl), fun _ h => absurd h List.not_mem_nil⟩⟩⟩⟩
