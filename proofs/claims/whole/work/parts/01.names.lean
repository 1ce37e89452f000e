-- ===== PART A: goes FIRST, ahead of the names: the tables' words, and 'selects' of the private methods out of them =====
/-- a private method of a class that the tables say can be made, by its rows of tables_1 -/
def lw_okq (q : MethodName × Nat) : Prop := (q.1.cls ≠ "java/lang/invoke/MethodHandle" ∧ q.1.cls ≠ "java/lang/invoke/VarHandle") ∧ Cond.instantiable q.1.cls q.2 ∈ tables_1 ∧ Cond.privateMethod q.1 ∈ tables_1 ∧ Cond.instanceMethod q.1 ∈ tables_1
theorem lw_p0 : lw_okq (⟨"ShelfSlots", "recorded", "(I)I"⟩, 8) := ⟨⟨by decide +kernel, by decide +kernel⟩, List.mem_of_getElem? (i := 16) (by decide +kernel), List.mem_of_getElem? (i := 261) (by decide +kernel), List.mem_of_getElem? (i := 262) (by decide +kernel)⟩
theorem lw_p1 : lw_okq (⟨"ShelfSlots$Shed", "stand", "(II)V"⟩, 16) := ⟨⟨by decide +kernel, by decide +kernel⟩, List.mem_of_getElem? (i := 24) (by decide +kernel), List.mem_of_getElem? (i := 299) (by decide +kernel), List.mem_of_getElem? (i := 300) (by decide +kernel)⟩
theorem lw_p2 : lw_okq (⟨"ShelfSlots$Shed", "countSwap", "(I)I"⟩, 16) := ⟨⟨by decide +kernel, by decide +kernel⟩, List.mem_of_getElem? (i := 24) (by decide +kernel), List.mem_of_getElem? (i := 303) (by decide +kernel), List.mem_of_getElem? (i := 304) (by decide +kernel)⟩
theorem lw_p3 : lw_okq (⟨"ShelfSlots", "pickBasket", "(I)I"⟩, 8) := ⟨⟨by decide +kernel, by decide +kernel⟩, List.mem_of_getElem? (i := 16) (by decide +kernel), List.mem_of_getElem? (i := 323) (by decide +kernel), List.mem_of_getElem? (i := 324) (by decide +kernel)⟩
theorem lw_p4 : lw_okq (⟨"ShelfSlots", "errorOfBasket", "(I)I"⟩, 8) := ⟨⟨by decide +kernel, by decide +kernel⟩, List.mem_of_getElem? (i := 16) (by decide +kernel), List.mem_of_getElem? (i := 327) (by decide +kernel), List.mem_of_getElem? (i := 328) (by decide +kernel)⟩
theorem lw_p5 : lw_okq (⟨"ShelfSlots$Walker", "listGoods", "(I)V"⟩, 2) := ⟨⟨by decide +kernel, by decide +kernel⟩, List.mem_of_getElem? (i := 123) (by decide +kernel), List.mem_of_getElem? (i := 341) (by decide +kernel), List.mem_of_getElem? (i := 342) (by decide +kernel)⟩
theorem lw_p6 : lw_okq (⟨"ShelfSlots$Walker", "moveUp", "(II)V"⟩, 2) := ⟨⟨by decide +kernel, by decide +kernel⟩, List.mem_of_getElem? (i := 123) (by decide +kernel), List.mem_of_getElem? (i := 350) (by decide +kernel), List.mem_of_getElem? (i := 351) (by decide +kernel)⟩
theorem lw_p7 : lw_okq (⟨"ShelfSlots$Walker", "lastPlace", "(LShelfSlots$Shed;I)I"⟩, 2) := ⟨⟨by decide +kernel, by decide +kernel⟩, List.mem_of_getElem? (i := 123) (by decide +kernel), List.mem_of_getElem? (i := 519) (by decide +kernel), List.mem_of_getElem? (i := 520) (by decide +kernel)⟩
theorem lw_p8 : lw_okq (⟨"ShelfSlots$Grammar", "takesLetter", "(C)Z"⟩, 3) := ⟨⟨by decide +kernel, by decide +kernel⟩, List.mem_of_getElem? (i := 160) (by decide +kernel), List.mem_of_getElem? (i := 580) (by decide +kernel), List.mem_of_getElem? (i := 581) (by decide +kernel)⟩
theorem lw_p9 : lw_okq (⟨"ShelfSlots$Grammar", "takesMark", "(C)Z"⟩, 3) := ⟨⟨by decide +kernel, by decide +kernel⟩, List.mem_of_getElem? (i := 160) (by decide +kernel), List.mem_of_getElem? (i := 587) (by decide +kernel), List.mem_of_getElem? (i := 588) (by decide +kernel)⟩
theorem lw_p10 : lw_okq (⟨"ShelfSlots", "carryOutOrder", "()I"⟩, 8) := ⟨⟨by decide +kernel, by decide +kernel⟩, List.mem_of_getElem? (i := 16) (by decide +kernel), List.mem_of_getElem? (i := 603) (by decide +kernel), List.mem_of_getElem? (i := 604) (by decide +kernel)⟩
theorem lw_p11 : lw_okq (⟨"ShelfSlotsModel", "putAside", "()V"⟩, 24) := ⟨⟨by decide +kernel, by decide +kernel⟩, List.mem_of_getElem? (i := 643) (by decide +kernel), List.mem_of_getElem? (i := 726) (by decide +kernel), List.mem_of_getElem? (i := 727) (by decide +kernel)⟩
theorem lw_p12 : lw_okq (⟨"ShelfSlotsModel", "changed", "(I)I"⟩, 24) := ⟨⟨by decide +kernel, by decide +kernel⟩, List.mem_of_getElem? (i := 643) (by decide +kernel), List.mem_of_getElem? (i := 739) (by decide +kernel), List.mem_of_getElem? (i := 740) (by decide +kernel)⟩
theorem lw_p13 : lw_okq (⟨"ShelfSlotsModel", "record", "()V"⟩, 24) := ⟨⟨by decide +kernel, by decide +kernel⟩, List.mem_of_getElem? (i := 643) (by decide +kernel), List.mem_of_getElem? (i := 743) (by decide +kernel), List.mem_of_getElem? (i := 744) (by decide +kernel)⟩
theorem lw_p14 : lw_okq (⟨"ShelfSlotsModel", "adds", "(I)I"⟩, 24) := ⟨⟨by decide +kernel, by decide +kernel⟩, List.mem_of_getElem? (i := 643) (by decide +kernel), List.mem_of_getElem? (i := 751) (by decide +kernel), List.mem_of_getElem? (i := 752) (by decide +kernel)⟩
theorem lw_p15 : lw_okq (⟨"ShelfSlotsModel", "goodIn", "(I)I"⟩, 24) := ⟨⟨by decide +kernel, by decide +kernel⟩, List.mem_of_getElem? (i := 643) (by decide +kernel), List.mem_of_getElem? (i := 758) (by decide +kernel), List.mem_of_getElem? (i := 759) (by decide +kernel)⟩
def lw_privs_1 : List (MethodName × Nat) := [(⟨"ShelfSlots", "recorded", "(I)I"⟩, 8), (⟨"ShelfSlots$Shed", "stand", "(II)V"⟩, 16), (⟨"ShelfSlots$Shed", "countSwap", "(I)I"⟩, 16), (⟨"ShelfSlots", "pickBasket", "(I)I"⟩, 8), (⟨"ShelfSlots", "errorOfBasket", "(I)I"⟩, 8), (⟨"ShelfSlots$Walker", "listGoods", "(I)V"⟩, 2), (⟨"ShelfSlots$Walker", "moveUp", "(II)V"⟩, 2), (⟨"ShelfSlots$Walker", "lastPlace", "(LShelfSlots$Shed;I)I"⟩, 2), (⟨"ShelfSlots$Grammar", "takesLetter", "(C)Z"⟩, 3), (⟨"ShelfSlots$Grammar", "takesMark", "(C)Z"⟩, 3), (⟨"ShelfSlots", "carryOutOrder", "()I"⟩, 8), (⟨"ShelfSlotsModel", "putAside", "()V"⟩, 24), (⟨"ShelfSlotsModel", "changed", "(I)I"⟩, 24), (⟨"ShelfSlotsModel", "record", "()V"⟩, 24), (⟨"ShelfSlotsModel", "adds", "(I)I"⟩, 24), (⟨"ShelfSlotsModel", "goodIn", "(I)I"⟩, 24)]
theorem lw_r1 : ∀ q ∈ lw_privs_1, lw_okq q := List.forall_mem_cons.mpr ⟨lw_p0, List.forall_mem_cons.mpr ⟨lw_p1, List.forall_mem_cons.mpr ⟨lw_p2, List.forall_mem_cons.mpr ⟨lw_p3, List.forall_mem_cons.mpr ⟨lw_p4, List.forall_mem_cons.mpr ⟨lw_p5, List.forall_mem_cons.mpr ⟨lw_p6, List.forall_mem_cons.mpr ⟨lw_p7, List.forall_mem_cons.mpr ⟨lw_p8, List.forall_mem_cons.mpr ⟨lw_p9, List.forall_mem_cons.mpr ⟨lw_p10, List.forall_mem_cons.mpr ⟨lw_p11, List.forall_mem_cons.mpr ⟨lw_p12, List.forall_mem_cons.mpr ⟨lw_p13, List.forall_mem_cons.mpr ⟨lw_p14, List.forall_mem_cons.mpr ⟨lw_p15, fun _ h => absurd h List.not_mem_nil⟩⟩⟩⟩⟩⟩⟩⟩⟩⟩⟩⟩⟩⟩⟩⟩
theorem lw_p16 : lw_okq (⟨"ShelfSlotsModel", "slotOf", "(I)I"⟩, 24) := ⟨⟨by decide +kernel, by decide +kernel⟩, List.mem_of_getElem? (i := 643) (by decide +kernel), List.mem_of_getElem? (i := 762) (by decide +kernel), List.mem_of_getElem? (i := 763) (by decide +kernel)⟩
theorem lw_p17 : lw_okq (⟨"ShelfSlotsModel", "swaps", "(II)I"⟩, 24) := ⟨⟨by decide +kernel, by decide +kernel⟩, List.mem_of_getElem? (i := 643) (by decide +kernel), List.mem_of_getElem? (i := 773) (by decide +kernel), List.mem_of_getElem? (i := 774) (by decide +kernel)⟩
theorem lw_p18 : lw_okq (⟨"ShelfSlotsModel", "exchanges", "(II)I"⟩, 24) := ⟨⟨by decide +kernel, by decide +kernel⟩, List.mem_of_getElem? (i := 643) (by decide +kernel), List.mem_of_getElem? (i := 777) (by decide +kernel), List.mem_of_getElem? (i := 778) (by decide +kernel)⟩
theorem lw_p19 : lw_okq (⟨"ShelfSlotsModel", "counts", "(I)V"⟩, 24) := ⟨⟨by decide +kernel, by decide +kernel⟩, List.mem_of_getElem? (i := 643) (by decide +kernel), List.mem_of_getElem? (i := 781) (by decide +kernel), List.mem_of_getElem? (i := 782) (by decide +kernel)⟩
theorem lw_p20 : lw_okq (⟨"ShelfSlotsModel", "closes", "(I)I"⟩, 24) := ⟨⟨by decide +kernel, by decide +kernel⟩, List.mem_of_getElem? (i := 643) (by decide +kernel), List.mem_of_getElem? (i := 789) (by decide +kernel), List.mem_of_getElem? (i := 790) (by decide +kernel)⟩
theorem lw_p21 : lw_okq (⟨"ShelfSlotsModel", "picksOne", "(I)I"⟩, 24) := ⟨⟨by decide +kernel, by decide +kernel⟩, List.mem_of_getElem? (i := 643) (by decide +kernel), List.mem_of_getElem? (i := 797) (by decide +kernel), List.mem_of_getElem? (i := 798) (by decide +kernel)⟩
theorem lw_p22 : lw_okq (⟨"ShelfSlotsModel", "errorOf", "(I)I"⟩, 24) := ⟨⟨by decide +kernel, by decide +kernel⟩, List.mem_of_getElem? (i := 643) (by decide +kernel), List.mem_of_getElem? (i := 801) (by decide +kernel), List.mem_of_getElem? (i := 802) (by decide +kernel)⟩
theorem lw_p23 : lw_okq (⟨"ShelfSlotsModel", "walkOf", "(I)I"⟩, 24) := ⟨⟨by decide +kernel, by decide +kernel⟩, List.mem_of_getElem? (i := 643) (by decide +kernel), List.mem_of_getElem? (i := 808) (by decide +kernel), List.mem_of_getElem? (i := 809) (by decide +kernel)⟩
theorem lw_p24 : lw_okq (⟨"ShelfSlotsModel", "nearest", "(II)I"⟩, 24) := ⟨⟨by decide +kernel, by decide +kernel⟩, List.mem_of_getElem? (i := 643) (by decide +kernel), List.mem_of_getElem? (i := 812) (by decide +kernel), List.mem_of_getElem? (i := 813) (by decide +kernel)⟩
theorem lw_p25 : lw_okq (⟨"ShelfSlotsModel", "far", "(I)I"⟩, 24) := ⟨⟨by decide +kernel, by decide +kernel⟩, List.mem_of_getElem? (i := 643) (by decide +kernel), List.mem_of_getElem? (i := 816) (by decide +kernel), List.mem_of_getElem? (i := 817) (by decide +kernel)⟩
theorem lw_p26 : lw_okq (⟨"ShelfSlotsModel", "stepsOf", "(II)I"⟩, 24) := ⟨⟨by decide +kernel, by decide +kernel⟩, List.mem_of_getElem? (i := 643) (by decide +kernel), List.mem_of_getElem? (i := 820) (by decide +kernel), List.mem_of_getElem? (i := 821) (by decide +kernel)⟩
theorem lw_p27 : lw_okq (⟨"ShelfSlotsModel", "oftenOf", "(I)I"⟩, 24) := ⟨⟨by decide +kernel, by decide +kernel⟩, List.mem_of_getElem? (i := 643) (by decide +kernel), List.mem_of_getElem? (i := 824) (by decide +kernel), List.mem_of_getElem? (i := 825) (by decide +kernel)⟩
theorem lw_p28 : lw_okq (⟨"ShelfSlotsModel", "nights", "()I"⟩, 24) := ⟨⟨by decide +kernel, by decide +kernel⟩, List.mem_of_getElem? (i := 643) (by decide +kernel), List.mem_of_getElem? (i := 832) (by decide +kernel), List.mem_of_getElem? (i := 833) (by decide +kernel)⟩
theorem lw_p29 : lw_okq (⟨"ShelfSlotsModel", "forgets", "()V"⟩, 24) := ⟨⟨by decide +kernel, by decide +kernel⟩, List.mem_of_getElem? (i := 643) (by decide +kernel), List.mem_of_getElem? (i := 836) (by decide +kernel), List.mem_of_getElem? (i := 837) (by decide +kernel)⟩
theorem lw_p30 : lw_okq (⟨"ShelfSlotsModel", "best", "()I"⟩, 24) := ⟨⟨by decide +kernel, by decide +kernel⟩, List.mem_of_getElem? (i := 643) (by decide +kernel), List.mem_of_getElem? (i := 841) (by decide +kernel), List.mem_of_getElem? (i := 842) (by decide +kernel)⟩
theorem lw_p31 : lw_okq (⟨"ShelfSlotsModel", "walksNow", "()I"⟩, 24) := ⟨⟨by decide +kernel, by decide +kernel⟩, List.mem_of_getElem? (i := 643) (by decide +kernel), List.mem_of_getElem? (i := 845) (by decide +kernel), List.mem_of_getElem? (i := 846) (by decide +kernel)⟩
def lw_privs_2 : List (MethodName × Nat) := [(⟨"ShelfSlotsModel", "slotOf", "(I)I"⟩, 24), (⟨"ShelfSlotsModel", "swaps", "(II)I"⟩, 24), (⟨"ShelfSlotsModel", "exchanges", "(II)I"⟩, 24), (⟨"ShelfSlotsModel", "counts", "(I)V"⟩, 24), (⟨"ShelfSlotsModel", "closes", "(I)I"⟩, 24), (⟨"ShelfSlotsModel", "picksOne", "(I)I"⟩, 24), (⟨"ShelfSlotsModel", "errorOf", "(I)I"⟩, 24), (⟨"ShelfSlotsModel", "walkOf", "(I)I"⟩, 24), (⟨"ShelfSlotsModel", "nearest", "(II)I"⟩, 24), (⟨"ShelfSlotsModel", "far", "(I)I"⟩, 24), (⟨"ShelfSlotsModel", "stepsOf", "(II)I"⟩, 24), (⟨"ShelfSlotsModel", "oftenOf", "(I)I"⟩, 24), (⟨"ShelfSlotsModel", "nights", "()I"⟩, 24), (⟨"ShelfSlotsModel", "forgets", "()V"⟩, 24), (⟨"ShelfSlotsModel", "best", "()I"⟩, 24), (⟨"ShelfSlotsModel", "walksNow", "()I"⟩, 24)]
theorem lw_r2 : ∀ q ∈ lw_privs_2, lw_okq q := List.forall_mem_cons.mpr ⟨lw_p16, List.forall_mem_cons.mpr ⟨lw_p17, List.forall_mem_cons.mpr ⟨lw_p18, List.forall_mem_cons.mpr ⟨lw_p19, List.forall_mem_cons.mpr ⟨lw_p20, List.forall_mem_cons.mpr ⟨lw_p21, List.forall_mem_cons.mpr ⟨lw_p22, List.forall_mem_cons.mpr ⟨lw_p23, List.forall_mem_cons.mpr ⟨lw_p24, List.forall_mem_cons.mpr ⟨lw_p25, List.forall_mem_cons.mpr ⟨lw_p26, List.forall_mem_cons.mpr ⟨lw_p27, List.forall_mem_cons.mpr ⟨lw_p28, List.forall_mem_cons.mpr ⟨lw_p29, List.forall_mem_cons.mpr ⟨lw_p30, List.forall_mem_cons.mpr ⟨lw_p31, fun _ h => absurd h List.not_mem_nil⟩⟩⟩⟩⟩⟩⟩⟩⟩⟩⟩⟩⟩⟩⟩⟩
theorem lw_p32 : lw_okq (⟨"ShelfSlotsModel", "weight", "()F"⟩, 24) := ⟨⟨by decide +kernel, by decide +kernel⟩, List.mem_of_getElem? (i := 643) (by decide +kernel), List.mem_of_getElem? (i := 849) (by decide +kernel), List.mem_of_getElem? (i := 850) (by decide +kernel)⟩
theorem lw_p33 : lw_okq (⟨"ShelfSlotsModel", "isOpen", "(I)Z"⟩, 24) := ⟨⟨by decide +kernel, by decide +kernel⟩, List.mem_of_getElem? (i := 643) (by decide +kernel), List.mem_of_getElem? (i := 853) (by decide +kernel), List.mem_of_getElem? (i := 854) (by decide +kernel)⟩
theorem lw_p34 : lw_okq (⟨"ShelfSlotsModel", "isGood", "(I)Z"⟩, 24) := ⟨⟨by decide +kernel, by decide +kernel⟩, List.mem_of_getElem? (i := 643) (by decide +kernel), List.mem_of_getElem? (i := 861) (by decide +kernel), List.mem_of_getElem? (i := 862) (by decide +kernel)⟩
theorem lw_p35 : lw_okq (⟨"ShelfSlotsModel", "sumOf", "(II)I"⟩, 24) := ⟨⟨by decide +kernel, by decide +kernel⟩, List.mem_of_getElem? (i := 643) (by decide +kernel), List.mem_of_getElem? (i := 890) (by decide +kernel), List.mem_of_getElem? (i := 891) (by decide +kernel)⟩
theorem lw_p36 : lw_okq (⟨"ShelfSlotsModel", "fastest", "()I"⟩, 24) := ⟨⟨by decide +kernel, by decide +kernel⟩, List.mem_of_getElem? (i := 643) (by decide +kernel), List.mem_of_getElem? (i := 894) (by decide +kernel), List.mem_of_getElem? (i := 895) (by decide +kernel)⟩
theorem lw_p37 : lw_okq (⟨"ShelfSlotsModel", "shortestOf", "(I)I"⟩, 24) := ⟨⟨by decide +kernel, by decide +kernel⟩, List.mem_of_getElem? (i := 643) (by decide +kernel), List.mem_of_getElem? (i := 921) (by decide +kernel), List.mem_of_getElem? (i := 922) (by decide +kernel)⟩
theorem lw_p38 : lw_okq (⟨"ShelfSlotsModel", "wayTo", "(III)I"⟩, 24) := ⟨⟨by decide +kernel, by decide +kernel⟩, List.mem_of_getElem? (i := 643) (by decide +kernel), List.mem_of_getElem? (i := 925) (by decide +kernel), List.mem_of_getElem? (i := 926) (by decide +kernel)⟩
theorem lw_p39 : lw_okq (⟨"ShelfSlotsModel", "putBack", "()V"⟩, 24) := ⟨⟨by decide +kernel, by decide +kernel⟩, List.mem_of_getElem? (i := 643) (by decide +kernel), List.mem_of_getElem? (i := 934) (by decide +kernel), List.mem_of_getElem? (i := 935) (by decide +kernel)⟩
theorem lw_p40 : lw_okq (⟨"ShelfSlotsModel", "goesThrough", "(Z)I"⟩, 24) := ⟨⟨by decide +kernel, by decide +kernel⟩, List.mem_of_getElem? (i := 643) (by decide +kernel), List.mem_of_getElem? (i := 959) (by decide +kernel), List.mem_of_getElem? (i := 960) (by decide +kernel)⟩
theorem lw_p41 : lw_okq (⟨"ShelfSlotsModel", "readOrder", "()V"⟩, 24) := ⟨⟨by decide +kernel, by decide +kernel⟩, List.mem_of_getElem? (i := 643) (by decide +kernel), List.mem_of_getElem? (i := 963) (by decide +kernel), List.mem_of_getElem? (i := 964) (by decide +kernel)⟩
theorem lw_p42 : lw_okq (⟨"ShelfSlotsModel", "readGood", "()V"⟩, 24) := ⟨⟨by decide +kernel, by decide +kernel⟩, List.mem_of_getElem? (i := 643) (by decide +kernel), List.mem_of_getElem? (i := 967) (by decide +kernel), List.mem_of_getElem? (i := 968) (by decide +kernel)⟩
theorem lw_p43 : lw_okq (⟨"ShelfSlotsModel", "number", "()I"⟩, 24) := ⟨⟨by decide +kernel, by decide +kernel⟩, List.mem_of_getElem? (i := 643) (by decide +kernel), List.mem_of_getElem? (i := 971) (by decide +kernel), List.mem_of_getElem? (i := 972) (by decide +kernel)⟩
theorem lw_p44 : lw_okq (⟨"ShelfSlotsModel", "isNext", "(II)Z"⟩, 24) := ⟨⟨by decide +kernel, by decide +kernel⟩, List.mem_of_getElem? (i := 643) (by decide +kernel), List.mem_of_getElem? (i := 975) (by decide +kernel), List.mem_of_getElem? (i := 976) (by decide +kernel)⟩
theorem lw_p45 : lw_okq (⟨"ShelfSlotsModel", "takes", "(I)V"⟩, 24) := ⟨⟨by decide +kernel, by decide +kernel⟩, List.mem_of_getElem? (i := 643) (by decide +kernel), List.mem_of_getElem? (i := 979) (by decide +kernel), List.mem_of_getElem? (i := 980) (by decide +kernel)⟩
theorem lw_p46 : lw_okq (⟨"ShelfSlotsModel", "does", "()I"⟩, 24) := ⟨⟨by decide +kernel, by decide +kernel⟩, List.mem_of_getElem? (i := 643) (by decide +kernel), List.mem_of_getElem? (i := 983) (by decide +kernel), List.mem_of_getElem? (i := 984) (by decide +kernel)⟩
def lw_privs_3 : List (MethodName × Nat) := [(⟨"ShelfSlotsModel", "weight", "()F"⟩, 24), (⟨"ShelfSlotsModel", "isOpen", "(I)Z"⟩, 24), (⟨"ShelfSlotsModel", "isGood", "(I)Z"⟩, 24), (⟨"ShelfSlotsModel", "sumOf", "(II)I"⟩, 24), (⟨"ShelfSlotsModel", "fastest", "()I"⟩, 24), (⟨"ShelfSlotsModel", "shortestOf", "(I)I"⟩, 24), (⟨"ShelfSlotsModel", "wayTo", "(III)I"⟩, 24), (⟨"ShelfSlotsModel", "putBack", "()V"⟩, 24), (⟨"ShelfSlotsModel", "goesThrough", "(Z)I"⟩, 24), (⟨"ShelfSlotsModel", "readOrder", "()V"⟩, 24), (⟨"ShelfSlotsModel", "readGood", "()V"⟩, 24), (⟨"ShelfSlotsModel", "number", "()I"⟩, 24), (⟨"ShelfSlotsModel", "isNext", "(II)Z"⟩, 24), (⟨"ShelfSlotsModel", "takes", "(I)V"⟩, 24), (⟨"ShelfSlotsModel", "does", "()I"⟩, 24)]
theorem lw_r3 : ∀ q ∈ lw_privs_3, lw_okq q := List.forall_mem_cons.mpr ⟨lw_p32, List.forall_mem_cons.mpr ⟨lw_p33, List.forall_mem_cons.mpr ⟨lw_p34, List.forall_mem_cons.mpr ⟨lw_p35, List.forall_mem_cons.mpr ⟨lw_p36, List.forall_mem_cons.mpr ⟨lw_p37, List.forall_mem_cons.mpr ⟨lw_p38, List.forall_mem_cons.mpr ⟨lw_p39, List.forall_mem_cons.mpr ⟨lw_p40, List.forall_mem_cons.mpr ⟨lw_p41, List.forall_mem_cons.mpr ⟨lw_p42, List.forall_mem_cons.mpr ⟨lw_p43, List.forall_mem_cons.mpr ⟨lw_p44, List.forall_mem_cons.mpr ⟨lw_p45, List.forall_mem_cons.mpr ⟨lw_p46, fun _ h => absurd h List.not_mem_nil⟩⟩⟩⟩⟩⟩⟩⟩⟩⟩⟩⟩⟩⟩⟩
def lw_privs : List (MethodName × Nat) := lw_privs_1 ++ (lw_privs_2 ++ (lw_privs_3))
def lw_tbl : List Cond := k2_sels lw_privs ++ tables_1
theorem lw_privs_ok : ∀ q ∈ lw_privs, lw_okq q := by
  show ∀ q ∈ lw_privs_1 ++ (lw_privs_2 ++ (lw_privs_3)), lw_okq q
  exact List.forall_mem_append.mpr ⟨lw_r1, List.forall_mem_append.mpr ⟨lw_r2, lw_r3⟩⟩
/-- the streams that the claim lets the run draw from -/
abbrev lw_cs : List Choice := [Jvm.Choice.named "NaN.bits"]
theorem lw_bits : nanBits ∈ lw_cs := by first | decide | exact List.mem_cons_self | simp [lw_cs, nanBits]
def RX0 : String := "ShelfSlots$Bits"
def TX0 : u_T := fun k => match k with
  | _ => ("", "", "", false)
def tyX0 : Nat → FieldType := fun k => match k with
  | _ => .int
abbrev wsX00 : List Cond := u_ws RX0 TX0 0
theorem nmX0 : ∀ a, a < 0 → ∀ b, b < 0 → a ≠ b → (TX0 a).2.1 ≠ (TX0 b).2.1 := by decide +kernel
theorem tyX0_ok : ∀ k, k < 0 → parseFieldDescriptor (TX0 k).2.2.1 = some (tyX0 k) := by decide +kernel
abbrev cX0_ofFloat : ByteArray := prog_2_method_2_code
def yX0_ofFloat : MethodName := ⟨RX0, "ofFloat", "(F)I"⟩
abbrev cX0_ofDouble : ByteArray := prog_2_method_3_code
def yX0_ofDouble : MethodName := ⟨RX0, "ofDouble", "(D)J"⟩
abbrev cX0_exponentOf : ByteArray := prog_2_method_4_code
def yX0_exponentOf : MethodName := ⟨RX0, "exponentOf", "(D)I"⟩
abbrev cX0_scaled : ByteArray := prog_2_method_5_code
def yX0_scaled : MethodName := ⟨RX0, "scaled", "(DI)D"⟩
def RX1 : String := "ShelfSlots$Day"
def TX1 : u_T := fun k => match k with
  | 0 => ("ShelfSlots$Day", "baskets", "[I", true)
  | 1 => ("ShelfSlots$Day", "lengths", "[I", true)
  | _ => ("ShelfSlots$Day", "many", "I", false)
def tyX1 : Nat → FieldType := fun k => match k with
  | 0 => .array .int
  | 1 => .array .int
  | _ => .int
abbrev wsX10 : List Cond := u_ws RX1 TX1 3
theorem nmX1 : ∀ a, a < 3 → ∀ b, b < 3 → a ≠ b → (TX1 a).2.1 ≠ (TX1 b).2.1 := by decide +kernel
theorem tyX1_ok : ∀ k, k < 3 → parseFieldDescriptor (TX1 k).2.2.1 = some (tyX1 k) := by decide +kernel
abbrev cX1_init : ByteArray := prog_3_method_1_code
def yX1_init : MethodName := ⟨RX1, "<init>", "()V"⟩
abbrev cX1_copyFrom : ByteArray := prog_3_method_2_code
def yX1_copyFrom : MethodName := ⟨RX1, "copyFrom", "(LShelfSlots$Day;)V"⟩
abbrev cX1_add : ByteArray := prog_3_method_3_code
def yX1_add : MethodName := ⟨RX1, "add", "(II)V"⟩
abbrev cX1_together : ByteArray := prog_3_method_4_code
def yX1_together : MethodName := ⟨RX1, "together", "()I"⟩
def RX2 : String := "ShelfSlots$Grammar"
def TX2 : u_T := fun k => match k with
  | 0 => ("ShelfSlots$Grammar", "due", "I", false)
  | 1 => ("ShelfSlots$Grammar", "numberMark", "C", false)
  | _ => ("ShelfSlots$Grammar", "mayEnd", "Z", false)
def tyX2 : Nat → FieldType := fun k => match k with
  | 0 => .int
  | 1 => .char
  | _ => .boolean
abbrev wsX20 : List Cond := u_ws RX2 TX2 3
theorem nmX2 : ∀ a, a < 3 → ∀ b, b < 3 → a ≠ b → (TX2 a).2.1 ≠ (TX2 b).2.1 := by decide +kernel
theorem tyX2_ok : ∀ k, k < 3 → parseFieldDescriptor (TX2 k).2.2.1 = some (tyX2 k) := by decide +kernel
abbrev cX2_init : ByteArray := prog_4_method_1_code
def yX2_init : MethodName := ⟨RX2, "<init>", "()V"⟩
abbrev cX2_isDigit : ByteArray := prog_4_method_2_code
def yX2_isDigit : MethodName := ⟨RX2, "isDigit", "(C)Z"⟩
abbrev cX2_startAnew : ByteArray := prog_4_method_3_code
def yX2_startAnew : MethodName := ⟨RX2, "startAnew", "()V"⟩
abbrev cX2_mayStop : ByteArray := prog_4_method_4_code
def yX2_mayStop : MethodName := ⟨RX2, "mayStop", "()Z"⟩
abbrev cX2_takes : ByteArray := prog_4_method_5_code
def yX2_takes : MethodName := ⟨RX2, "takes", "(C)Z"⟩
abbrev cX2_takesLetter : ByteArray := prog_4_method_6_code
def yX2_takesLetter : MethodName := ⟨RX2, "takesLetter", "(C)Z"⟩
abbrev cX2_takesMark : ByteArray := prog_4_method_7_code
def yX2_takesMark : MethodName := ⟨RX2, "takesMark", "(C)Z"⟩
def RX3 : String := "ShelfSlots$History"
def TX3 : u_T := fun k => match k with
  | 0 => ("ShelfSlots$History", "rows", "[LShelfSlots$Shed;", true)
  | 1 => ("ShelfSlots$History", "next", "I", false)
  | _ => ("ShelfSlots$History", "kept", "I", false)
def tyX3 : Nat → FieldType := fun k => match k with
  | 0 => .array (.object "ShelfSlots$Shed")
  | 1 => .int
  | _ => .int
abbrev wsX30 : List Cond := u_ws RX3 TX3 3
theorem nmX3 : ∀ a, a < 3 → ∀ b, b < 3 → a ≠ b → (TX3 a).2.1 ≠ (TX3 b).2.1 := by decide +kernel
theorem tyX3_ok : ∀ k, k < 3 → parseFieldDescriptor (TX3 k).2.2.1 = some (tyX3 k) := by decide +kernel
abbrev cX3_init : ByteArray := prog_5_method_1_code
def yX3_init : MethodName := ⟨RX3, "<init>", "()V"⟩
abbrev cX3_note : ByteArray := prog_5_method_2_code
def yX3_note : MethodName := ⟨RX3, "note", "(LShelfSlots$Shed;)V"⟩
abbrev cX3_keepNote : ByteArray := prog_5_method_3_code
def yX3_keepNote : MethodName := ⟨RX3, "keepNote", "()V"⟩
abbrev cX3_takeBack : ByteArray := prog_5_method_4_code
def yX3_takeBack : MethodName := ⟨RX3, "takeBack", "(LShelfSlots$Shed;)I"⟩
def RX4 : String := "ShelfSlots$Mover"
def TX4 : u_T := fun k => match k with
  | 0 => ("ShelfSlots$Mover", "walker", "LShelfSlots$Walker;", true)
  | 1 => ("ShelfSlots$Mover", "lower", "I", false)
  | _ => ("ShelfSlots$Mover", "higher", "I", false)
def tyX4 : Nat → FieldType := fun k => match k with
  | 0 => .object "ShelfSlots$Walker"
  | 1 => .int
  | _ => .int
abbrev wsX40 : List Cond := u_ws RX4 TX4 3
theorem nmX4 : ∀ a, a < 3 → ∀ b, b < 3 → a ≠ b → (TX4 a).2.1 ≠ (TX4 b).2.1 := by decide +kernel
theorem tyX4_ok : ∀ k, k < 3 → parseFieldDescriptor (TX4 k).2.2.1 = some (tyX4 k) := by decide +kernel
abbrev cX4_init : ByteArray := prog_6_method_1_code
def yX4_init : MethodName := ⟨RX4, "<init>", "(LShelfSlots$Walker;)V"⟩
abbrev cX4_passNight : ByteArray := prog_6_method_2_code
def yX4_passNight : MethodName := ⟨RX4, "passNight", "(LShelfSlots$Shed;)I"⟩
abbrev cX4_findSwap : ByteArray := prog_6_method_3_code
def yX4_findSwap : MethodName := ⟨RX4, "findSwap", "(LShelfSlots$Shed;)Z"⟩
def RX5 : String := "ShelfSlots$Pad"
def TX5 : u_T := fun k => match k with
  | 0 => ("ShelfSlots$Pad", "signs", "[C", true)
  | 1 => ("ShelfSlots$Pad", "grammar", "LShelfSlots$Grammar;", true)
  | 2 => ("ShelfSlots$Pad", "at", "I", false)
  | _ => ("ShelfSlots$Pad", "length", "I", false)
def tyX5 : Nat → FieldType := fun k => match k with
  | 0 => .array .char
  | 1 => .object "ShelfSlots$Grammar"
  | 2 => .int
  | _ => .int
abbrev wsX50 : List Cond := u_ws RX5 TX5 4
theorem nmX5 : ∀ a, a < 4 → ∀ b, b < 4 → a ≠ b → (TX5 a).2.1 ≠ (TX5 b).2.1 := by decide +kernel
theorem tyX5_ok : ∀ k, k < 4 → parseFieldDescriptor (TX5 k).2.2.1 = some (tyX5 k) := by decide +kernel
abbrev cX5_init : ByteArray := prog_7_method_1_code
def yX5_init : MethodName := ⟨RX5, "<init>", "()V"⟩
abbrev cX5_append : ByteArray := prog_7_method_2_code
def yX5_append : MethodName := ⟨RX5, "append", "(J)I"⟩
abbrev cX5_empty : ByteArray := prog_7_method_3_code
def yX5_empty : MethodName := ⟨RX5, "empty", "()I"⟩
abbrev cX5_firstFault : ByteArray := prog_7_method_4_code
def yX5_firstFault : MethodName := ⟨RX5, "firstFault", "()I"⟩
abbrev cX5_rewind : ByteArray := prog_7_method_5_code
def yX5_rewind : MethodName := ⟨RX5, "rewind", "()V"⟩
abbrev cX5_takeLetter : ByteArray := prog_7_method_6_code
def yX5_takeLetter : MethodName := ⟨RX5, "takeLetter", "()C"⟩
abbrev cX5_takeNumber : ByteArray := prog_7_method_7_code
def yX5_takeNumber : MethodName := ⟨RX5, "takeNumber", "()I"⟩
abbrev cX5_takeBasket : ByteArray := prog_7_method_8_code
def yX5_takeBasket : MethodName := ⟨RX5, "takeBasket", "()I"⟩
abbrev cX5_passes : ByteArray := prog_7_method_9_code
def yX5_passes : MethodName := ⟨RX5, "passes", "(C)Z"⟩
def RX6 : String := "ShelfSlots$Picked"
def TX6 : u_T := fun k => match k with
  | 0 => ("ShelfSlots$Picked", "basket", "I", true)
  | 1 => ("ShelfSlots$Picked", "times", "I", true)
  | 2 => ("ShelfSlots$Picked", "unlike", "I", true)
  | _ => ("ShelfSlots$Picked", "before", "LShelfSlots$Picked;", true)
def tyX6 : Nat → FieldType := fun k => match k with
  | 0 => .int
  | 1 => .int
  | 2 => .int
  | _ => .object "ShelfSlots$Picked"
abbrev wsX60 : List Cond := u_ws RX6 TX6 4
theorem nmX6 : ∀ a, a < 4 → ∀ b, b < 4 → a ≠ b → (TX6 a).2.1 ≠ (TX6 b).2.1 := by decide +kernel
theorem tyX6_ok : ∀ k, k < 4 → parseFieldDescriptor (TX6 k).2.2.1 = some (tyX6 k) := by decide +kernel
abbrev cX6_init : ByteArray := prog_8_method_1_code
def yX6_init : MethodName := ⟨RX6, "<init>", "(IIILShelfSlots$Picked;)V"⟩
def RX7 : String := "ShelfSlots$Shed"
def TX7 : u_T := fun k => match k with
  | 0 => ("ShelfSlots$Shed", "settings", "[I", true)
  | 1 => ("ShelfSlots$Shed", "slotOf", "[I", true)
  | 2 => ("ShelfSlots$Shed", "goodIn", "[I", true)
  | 3 => ("ShelfSlots$Shed", "speed", "[F", true)
  | 4 => ("ShelfSlots$Shed", "pickedToday", "[I", true)
  | 5 => ("ShelfSlots$Shed", "pickedSoFar", "[I", true)
  | 6 => ("ShelfSlots$Shed", "swapped", "[I", true)
  | 7 => ("ShelfSlots$Shed", "today", "LShelfSlots$Day;", true)
  | 8 => ("ShelfSlots$Shed", "yesterday", "LShelfSlots$Day;", true)
  | 9 => ("ShelfSlots$Shed", "lastPicked", "LShelfSlots$Picked;", false)
  | 10 => ("ShelfSlots$Shed", "picks", "I", false)
  | 11 => ("ShelfSlots$Shed", "goods", "I", false)
  | 12 => ("ShelfSlots$Shed", "closed", "I", false)
  | 13 => ("ShelfSlots$Shed", "nights", "I", false)
  | 14 => ("ShelfSlots$Shed", "walksSoFar", "I", false)
  | _ => ("ShelfSlots$Shed", "nightSwaps", "I", false)
def tyX7 : Nat → FieldType := fun k => match k with
  | 0 => .array .int
  | 1 => .array .int
  | 2 => .array .int
  | 3 => .array .float
  | 4 => .array .int
  | 5 => .array .int
  | 6 => .array .int
  | 7 => .object "ShelfSlots$Day"
  | 8 => .object "ShelfSlots$Day"
  | 9 => .object "ShelfSlots$Picked"
  | 10 => .int
  | 11 => .int
  | 12 => .int
  | 13 => .int
  | 14 => .int
  | _ => .int
abbrev wsX70 : List Cond := u_ws RX7 TX7 16
theorem nmX7 : ∀ a, a < 16 → ∀ b, b < 16 → a ≠ b → (TX7 a).2.1 ≠ (TX7 b).2.1 := by decide +kernel
theorem tyX7_ok : ∀ k, k < 16 → parseFieldDescriptor (TX7 k).2.2.1 = some (tyX7 k) := by decide +kernel
abbrev cX7_init : ByteArray := prog_9_method_1_code
def yX7_init : MethodName := ⟨RX7, "<init>", "()V"⟩
abbrev cX7_copyFrom : ByteArray := prog_9_method_2_code
def yX7_copyFrom : MethodName := ⟨RX7, "copyFrom", "(LShelfSlots$Shed;)V"⟩
abbrev cX7_isSlot : ByteArray := prog_9_method_3_code
def yX7_isSlot : MethodName := ⟨RX7, "isSlot", "(I)Z"⟩
abbrev cX7_isClosed : ByteArray := prog_9_method_4_code
def yX7_isClosed : MethodName := ⟨RX7, "isClosed", "(I)Z"⟩
abbrev cX7_changeSetting : ByteArray := prog_9_method_5_code
def yX7_changeSetting : MethodName := ⟨RX7, "changeSetting", "(II)I"⟩
abbrev cX7_bringGood : ByteArray := prog_9_method_6_code
def yX7_bringGood : MethodName := ⟨RX7, "bringGood", "(I)I"⟩
abbrev cX7_swapByHand : ByteArray := prog_9_method_7_code
def yX7_swapByHand : MethodName := ⟨RX7, "swapByHand", "(II)I"⟩
abbrev cX7_closeOrOpen : ByteArray := prog_9_method_8_code
def yX7_closeOrOpen : MethodName := ⟨RX7, "closeOrOpen", "(I)I"⟩
abbrev cX7_swapCounted : ByteArray := prog_9_method_9_code
def yX7_swapCounted : MethodName := ⟨RX7, "swapCounted", "(II)I"⟩
abbrev cX7_countSwap : ByteArray := prog_9_method_10_code
def yX7_countSwap : MethodName := ⟨RX7, "countSwap", "(I)I"⟩
abbrev cX7_exchange : ByteArray := prog_9_method_11_code
def yX7_exchange : MethodName := ⟨RX7, "exchange", "(II)V"⟩
abbrev cX7_stand : ByteArray := prog_9_method_12_code
def yX7_stand : MethodName := ⟨RX7, "stand", "(II)V"⟩
abbrev cX7_mayMoveByNight : ByteArray := prog_9_method_13_code
def yX7_mayMoveByNight : MethodName := ⟨RX7, "mayMoveByNight", "(II)Z"⟩
abbrev cX7_stepsBetween : ByteArray := prog_9_method_14_code
def yX7_stepsBetween : MethodName := ⟨RX7, "stepsBetween", "(II)I"⟩
abbrev cX7_deskSteps : ByteArray := prog_9_method_15_code
def yX7_deskSteps : MethodName := ⟨RX7, "deskSteps", "(I)I"⟩
abbrev cX7_weight : ByteArray := prog_9_method_16_code
def yX7_weight : MethodName := ⟨RX7, "weight", "()F"⟩
abbrev cX7_mean : ByteArray := prog_9_method_17_code
def yX7_mean : MethodName := ⟨RX7, "mean", "()D"⟩
abbrev cX7_fastest : ByteArray := prog_9_method_18_code
def yX7_fastest : MethodName := ⟨RX7, "fastest", "()I"⟩
abbrev cX7_standsBadly : ByteArray := prog_9_method_19_code
def yX7_standsBadly : MethodName := ⟨RX7, "standsBadly", "(I)Z"⟩
abbrev cX7_notePicked : ByteArray := prog_9_method_20_code
def yX7_notePicked : MethodName := ⟨RX7, "notePicked", "(II)V"⟩
abbrev cX7_timesPicked : ByteArray := prog_9_method_21_code
def yX7_timesPicked : MethodName := ⟨RX7, "timesPicked", "(I)I"⟩
abbrev cX7_unlikeBaskets : ByteArray := prog_9_method_22_code
def yX7_unlikeBaskets : MethodName := ⟨RX7, "unlikeBaskets", "()I"⟩
abbrev cX7_ageSpeeds : ByteArray := prog_9_method_23_code
def yX7_ageSpeeds : MethodName := ⟨RX7, "ageSpeeds", "()V"⟩
abbrev cX7_endDay : ByteArray := prog_9_method_24_code
def yX7_endDay : MethodName := ⟨RX7, "endDay", "()V"⟩
def RX8 : String := "ShelfSlots$Walker"
def TX8 : u_T := fun k => match k with
  | 0 => ("ShelfSlots$Walker", "stops", "[I", true)
  | _ => ("ShelfSlots$Walker", "many", "I", false)
def tyX8 : Nat → FieldType := fun k => match k with
  | 0 => .array .int
  | _ => .int
abbrev wsX80 : List Cond := u_ws RX8 TX8 2
theorem nmX8 : ∀ a, a < 2 → ∀ b, b < 2 → a ≠ b → (TX8 a).2.1 ≠ (TX8 b).2.1 := by decide +kernel
theorem tyX8_ok : ∀ k, k < 2 → parseFieldDescriptor (TX8 k).2.2.1 = some (tyX8 k) := by decide +kernel
abbrev cX8_init : ByteArray := prog_10_method_1_code
def yX8_init : MethodName := ⟨RX8, "<init>", "()V"⟩
abbrev cX8_lengthOf : ByteArray := prog_10_method_2_code
def yX8_lengthOf : MethodName := ⟨RX8, "lengthOf", "(LShelfSlots$Shed;I)I"⟩
abbrev cX8_goodAt : ByteArray := prog_10_method_3_code
def yX8_goodAt : MethodName := ⟨RX8, "goodAt", "(I)I"⟩
abbrev cX8_togetherOf : ByteArray := prog_10_method_4_code
def yX8_togetherOf : MethodName := ⟨RX8, "togetherOf", "(LShelfSlots$Shed;)I"⟩
abbrev cX8_listGoods : ByteArray := prog_10_method_5_code
def yX8_listGoods : MethodName := ⟨RX8, "listGoods", "(I)V"⟩
abbrev cX8_moveUp : ByteArray := prog_10_method_6_code
def yX8_moveUp : MethodName := ⟨RX8, "moveUp", "(II)V"⟩
abbrev cX8_shortestOf : ByteArray := prog_10_method_7_code
def yX8_shortestOf : MethodName := ⟨RX8, "shortestOf", "(LShelfSlots$Shed;I)I"⟩
abbrev cX8_lastPlace : ByteArray := prog_10_method_8_code
def yX8_lastPlace : MethodName := ⟨RX8, "lastPlace", "(LShelfSlots$Shed;I)I"⟩
def RX9 : String := "ShelfSlots"
def TX9 : u_T := fun k => match k with
  | 0 => ("ShelfSlots", "now", "LShelfSlots$Shed;", true)
  | 1 => ("ShelfSlots", "trial", "LShelfSlots$Shed;", true)
  | 2 => ("ShelfSlots", "walker", "LShelfSlots$Walker;", true)
  | 3 => ("ShelfSlots", "mover", "LShelfSlots$Mover;", true)
  | 4 => ("ShelfSlots", "pad", "LShelfSlots$Pad;", true)
  | 5 => ("ShelfSlots", "history", "LShelfSlots$History;", true)
  | 6 => ("ShelfSlots", "saved", "[LShelfSlots$Shed;", true)
  | _ => ("ShelfSlots", "wasSaved", "[Z", true)
def tyX9 : Nat → FieldType := fun k => match k with
  | 0 => .object "ShelfSlots$Shed"
  | 1 => .object "ShelfSlots$Shed"
  | 2 => .object "ShelfSlots$Walker"
  | 3 => .object "ShelfSlots$Mover"
  | 4 => .object "ShelfSlots$Pad"
  | 5 => .object "ShelfSlots$History"
  | 6 => .array (.object "ShelfSlots$Shed")
  | _ => .array .boolean
abbrev wsX90 : List Cond := u_ws RX9 TX9 8
theorem nmX9 : ∀ a, a < 8 → ∀ b, b < 8 → a ≠ b → (TX9 a).2.1 ≠ (TX9 b).2.1 := by decide +kernel
theorem tyX9_ok : ∀ k, k < 8 → parseFieldDescriptor (TX9 k).2.2.1 = some (tyX9 k) := by decide +kernel
abbrev cX9_init : ByteArray := prog_1_method_1_code
def yX9_init : MethodName := ⟨RX9, "<init>", "()V"⟩
abbrev cX9_set : ByteArray := prog_1_method_2_code
def yX9_set : MethodName := ⟨RX9, "set", "(II)I"⟩
abbrev cX9_good : ByteArray := prog_1_method_3_code
def yX9_good : MethodName := ⟨RX9, "good", "(I)I"⟩
abbrev cX9_swap : ByteArray := prog_1_method_4_code
def yX9_swap : MethodName := ⟨RX9, "swap", "(II)I"⟩
abbrev cX9_close : ByteArray := prog_1_method_5_code
def yX9_close : MethodName := ⟨RX9, "close", "(I)I"⟩
abbrev cX9_pick : ByteArray := prog_1_method_6_code
def yX9_pick : MethodName := ⟨RX9, "pick", "(I)I"⟩
abbrev cX9_night : ByteArray := prog_1_method_7_code
def yX9_night : MethodName := ⟨RX9, "night", "()I"⟩
abbrev cX9_of : ByteArray := prog_1_method_8_code
def yX9_of : MethodName := ⟨RX9, "of", "(II)I"⟩
abbrev cX9_ofSlot : ByteArray := prog_1_method_9_code
def yX9_ofSlot : MethodName := ⟨RX9, "ofSlot", "(II)I"⟩
abbrev cX9_steps : ByteArray := prog_1_method_10_code
def yX9_steps : MethodName := ⟨RX9, "steps", "(II)I"⟩
abbrev cX9_basket : ByteArray := prog_1_method_11_code
def yX9_basket : MethodName := ⟨RX9, "basket", "(III)I"⟩
abbrev cX9_often : ByteArray := prog_1_method_12_code
def yX9_often : MethodName := ⟨RX9, "often", "(I)I"⟩
abbrev cX9_count : ByteArray := prog_1_method_13_code
def yX9_count : MethodName := ⟨RX9, "count", "(I)I"⟩
abbrev cX9_meanSpeed : ByteArray := prog_1_method_14_code
def yX9_meanSpeed : MethodName := ⟨RX9, "meanSpeed", "()J"⟩
abbrev cX9_walk : ByteArray := prog_1_method_15_code
def yX9_walk : MethodName := ⟨RX9, "walk", "(I)I"⟩
abbrev cX9_stop : ByteArray := prog_1_method_16_code
def yX9_stop : MethodName := ⟨RX9, "stop", "(II)I"⟩
abbrev cX9_shortest : ByteArray := prog_1_method_17_code
def yX9_shortest : MethodName := ⟨RX9, "shortest", "(I)I"⟩
abbrev cX9_bestSwap : ByteArray := prog_1_method_18_code
def yX9_bestSwap : MethodName := ⟨RX9, "bestSwap", "(I)I"⟩
abbrev cX9_ifSwapped : ByteArray := prog_1_method_19_code
def yX9_ifSwapped : MethodName := ⟨RX9, "ifSwapped", "(II)I"⟩
abbrev cX9_badly : ByteArray := prog_1_method_20_code
def yX9_badly : MethodName := ⟨RX9, "badly", "()I"⟩
abbrev cX9_put : ByteArray := prog_1_method_21_code
def yX9_put : MethodName := ⟨RX9, "put", "(J)I"⟩
abbrev cX9_wipe : ByteArray := prog_1_method_22_code
def yX9_wipe : MethodName := ⟨RX9, "wipe", "()I"⟩
abbrev cX9_fault : ByteArray := prog_1_method_23_code
def yX9_fault : MethodName := ⟨RX9, "fault", "()I"⟩
abbrev cX9_carryOut : ByteArray := prog_1_method_24_code
def yX9_carryOut : MethodName := ⟨RX9, "carryOut", "()I"⟩
abbrev cX9_undo : ByteArray := prog_1_method_25_code
def yX9_undo : MethodName := ⟨RX9, "undo", "()I"⟩
abbrev cX9_save : ByteArray := prog_1_method_26_code
def yX9_save : MethodName := ⟨RX9, "save", "(I)I"⟩
abbrev cX9_restore : ByteArray := prog_1_method_27_code
def yX9_restore : MethodName := ⟨RX9, "restore", "(I)I"⟩
abbrev cX9_recorded : ByteArray := prog_1_method_28_code
def yX9_recorded : MethodName := ⟨RX9, "recorded", "(I)I"⟩
abbrev cX9_errorOfBasket : ByteArray := prog_1_method_29_code
def yX9_errorOfBasket : MethodName := ⟨RX9, "errorOfBasket", "(I)I"⟩
abbrev cX9_pickBasket : ByteArray := prog_1_method_30_code
def yX9_pickBasket : MethodName := ⟨RX9, "pickBasket", "(I)I"⟩
abbrev cX9_carryOutOrder : ByteArray := prog_1_method_31_code
def yX9_carryOutOrder : MethodName := ⟨RX9, "carryOutOrder", "()I"⟩
def RX10 : String := "ShelfSlotsModel"
def TX10 : u_T := fun k => match k with
  | 0 => ("ShelfSlotsModel", "s", "[I", true)
  | 1 => ("ShelfSlotsModel", "speeds", "[F", true)
  | 2 => ("ShelfSlotsModel", "aside", "[I", true)
  | 3 => ("ShelfSlotsModel", "speedsAside", "[F", true)
  | 4 => ("ShelfSlotsModel", "history", "[I", true)
  | 5 => ("ShelfSlotsModel", "speedHistory", "[F", true)
  | 6 => ("ShelfSlotsModel", "known", "I", false)
  | 7 => ("ShelfSlotsModel", "slots", "[I", true)
  | 8 => ("ShelfSlotsModel", "speedSlots", "[F", true)
  | 9 => ("ShelfSlotsModel", "kept", "I", false)
  | 10 => ("ShelfSlotsModel", "pad", "[I", true)
  | 11 => ("ShelfSlotsModel", "length", "I", false)
  | 12 => ("ShelfSlotsModel", "picks", "[I", true)
  | 13 => ("ShelfSlotsModel", "ahead", "[I", true)
  | 14 => ("ShelfSlotsModel", "pickMany", "I", false)
  | 15 => ("ShelfSlotsModel", "ways", "[I", true)
  | 16 => ("ShelfSlotsModel", "members", "[I", true)
  | 17 => ("ShelfSlotsModel", "spot", "I", false)
  | 18 => ("ShelfSlotsModel", "isFaulty", "Z", false)
  | 19 => ("ShelfSlotsModel", "letter", "I", false)
  | 20 => ("ShelfSlotsModel", "first", "I", false)
  | 21 => ("ShelfSlotsModel", "second", "I", false)
  | 22 => ("ShelfSlotsModel", "told", "I", false)
  | _ => ("ShelfSlotsModel", "isStrange", "Z", false)
def tyX10 : Nat → FieldType := fun k => match k with
  | 0 => .array .int
  | 1 => .array .float
  | 2 => .array .int
  | 3 => .array .float
  | 4 => .array .int
  | 5 => .array .float
  | 6 => .int
  | 7 => .array .int
  | 8 => .array .float
  | 9 => .int
  | 10 => .array .int
  | 11 => .int
  | 12 => .array .int
  | 13 => .array .int
  | 14 => .int
  | 15 => .array .int
  | 16 => .array .int
  | 17 => .int
  | 18 => .boolean
  | 19 => .int
  | 20 => .int
  | 21 => .int
  | 22 => .int
  | _ => .boolean
abbrev wsX100 : List Cond := u_ws RX10 TX10 24
theorem nmX10 : ∀ a, a < 24 → ∀ b, b < 24 → a ≠ b → (TX10 a).2.1 ≠ (TX10 b).2.1 := by decide +kernel
theorem tyX10_ok : ∀ k, k < 24 → parseFieldDescriptor (TX10 k).2.2.1 = some (tyX10 k) := by decide +kernel
abbrev cX10_init : ByteArray := prog_12_method_1_code
def yX10_init : MethodName := ⟨RX10, "<init>", "()V"⟩
abbrev cX10_in : ByteArray := prog_12_method_2_code
def yX10_in : MethodName := ⟨RX10, "in", "(III)Z"⟩
abbrev cX10_isSlot : ByteArray := prog_12_method_3_code
def yX10_isSlot : MethodName := ⟨RX10, "isSlot", "(I)Z"⟩
abbrev cX10_isGood : ByteArray := prog_12_method_4_code
def yX10_isGood : MethodName := ⟨RX10, "isGood", "(I)Z"⟩
abbrev cX10_ofGood : ByteArray := prog_12_method_5_code
def yX10_ofGood : MethodName := ⟨RX10, "ofGood", "(II)I"⟩
abbrev cX10_putAside : ByteArray := prog_12_method_6_code
def yX10_putAside : MethodName := ⟨RX10, "putAside", "()V"⟩
abbrev cX10_putBack : ByteArray := prog_12_method_7_code
def yX10_putBack : MethodName := ⟨RX10, "putBack", "()V"⟩
abbrev cX10_record : ByteArray := prog_12_method_8_code
def yX10_record : MethodName := ⟨RX10, "record", "()V"⟩
abbrev cX10_changed : ByteArray := prog_12_method_9_code
def yX10_changed : MethodName := ⟨RX10, "changed", "(I)I"⟩
abbrev cX10_stepsOf : ByteArray := prog_12_method_10_code
def yX10_stepsOf : MethodName := ⟨RX10, "stepsOf", "(II)I"⟩
abbrev cX10_far : ByteArray := prog_12_method_11_code
def yX10_far : MethodName := ⟨RX10, "far", "(I)I"⟩
abbrev cX10_slotOf : ByteArray := prog_12_method_12_code
def yX10_slotOf : MethodName := ⟨RX10, "slotOf", "(I)I"⟩
abbrev cX10_ones : ByteArray := prog_12_method_13_code
def yX10_ones : MethodName := ⟨RX10, "ones", "(I)I"⟩
abbrev cX10_nearest : ByteArray := prog_12_method_14_code
def yX10_nearest : MethodName := ⟨RX10, "nearest", "(II)I"⟩
abbrev cX10_walkOf : ByteArray := prog_12_method_15_code
def yX10_walkOf : MethodName := ⟨RX10, "walkOf", "(I)I"⟩
abbrev cX10_walksNow : ByteArray := prog_12_method_16_code
def yX10_walksNow : MethodName := ⟨RX10, "walksNow", "()I"⟩
abbrev cX10_weight : ByteArray := prog_12_method_17_code
def yX10_weight : MethodName := ⟨RX10, "weight", "()F"⟩
abbrev cX10_goodIn : ByteArray := prog_12_method_18_code
def yX10_goodIn : MethodName := ⟨RX10, "goodIn", "(I)I"⟩
abbrev cX10_exchanges : ByteArray := prog_12_method_19_code
def yX10_exchanges : MethodName := ⟨RX10, "exchanges", "(II)I"⟩
abbrev cX10_isOpen : ByteArray := prog_12_method_20_code
def yX10_isOpen : MethodName := ⟨RX10, "isOpen", "(I)Z"⟩
abbrev cX10_best : ByteArray := prog_12_method_21_code
def yX10_best : MethodName := ⟨RX10, "best", "()I"⟩
abbrev cX10_counts : ByteArray := prog_12_method_22_code
def yX10_counts : MethodName := ⟨RX10, "counts", "(I)V"⟩
abbrev cX10_swaps : ByteArray := prog_12_method_23_code
def yX10_swaps : MethodName := ⟨RX10, "swaps", "(II)I"⟩
abbrev cX10_forgets : ByteArray := prog_12_method_24_code
def yX10_forgets : MethodName := ⟨RX10, "forgets", "()V"⟩
abbrev cX10_nights : ByteArray := prog_12_method_25_code
def yX10_nights : MethodName := ⟨RX10, "nights", "()I"⟩
abbrev cX10_least : ByteArray := prog_12_method_26_code
def yX10_least : MethodName := ⟨RX10, "least", "(I)I"⟩
abbrev cX10_most : ByteArray := prog_12_method_27_code
def yX10_most : MethodName := ⟨RX10, "most", "(I)I"⟩
abbrev cX10_set : ByteArray := prog_12_method_28_code
def yX10_set : MethodName := ⟨RX10, "set", "(II)I"⟩
abbrev cX10_adds : ByteArray := prog_12_method_29_code
def yX10_adds : MethodName := ⟨RX10, "adds", "(I)I"⟩
abbrev cX10_good : ByteArray := prog_12_method_30_code
def yX10_good : MethodName := ⟨RX10, "good", "(I)I"⟩
abbrev cX10_swap : ByteArray := prog_12_method_31_code
def yX10_swap : MethodName := ⟨RX10, "swap", "(II)I"⟩
abbrev cX10_closes : ByteArray := prog_12_method_32_code
def yX10_closes : MethodName := ⟨RX10, "closes", "(I)I"⟩
abbrev cX10_close : ByteArray := prog_12_method_33_code
def yX10_close : MethodName := ⟨RX10, "close", "(I)I"⟩
abbrev cX10_errorOf : ByteArray := prog_12_method_34_code
def yX10_errorOf : MethodName := ⟨RX10, "errorOf", "(I)I"⟩
abbrev cX10_oftenOf : ByteArray := prog_12_method_35_code
def yX10_oftenOf : MethodName := ⟨RX10, "oftenOf", "(I)I"⟩
abbrev cX10_picksOne : ByteArray := prog_12_method_36_code
def yX10_picksOne : MethodName := ⟨RX10, "picksOne", "(I)I"⟩
abbrev cX10_pick : ByteArray := prog_12_method_37_code
def yX10_pick : MethodName := ⟨RX10, "pick", "(I)I"⟩
abbrev cX10_night : ByteArray := prog_12_method_38_code
def yX10_night : MethodName := ⟨RX10, "night", "()I"⟩
abbrev cX10_bitsOf : ByteArray := prog_12_method_39_code
def yX10_bitsOf : MethodName := ⟨RX10, "bitsOf", "(F)I"⟩
abbrev cX10_of : ByteArray := prog_12_method_40_code
def yX10_of : MethodName := ⟨RX10, "of", "(II)I"⟩
abbrev cX10_ofSlot : ByteArray := prog_12_method_41_code
def yX10_ofSlot : MethodName := ⟨RX10, "ofSlot", "(II)I"⟩
abbrev cX10_steps : ByteArray := prog_12_method_42_code
def yX10_steps : MethodName := ⟨RX10, "steps", "(II)I"⟩
abbrev cX10_basket : ByteArray := prog_12_method_43_code
def yX10_basket : MethodName := ⟨RX10, "basket", "(III)I"⟩
abbrev cX10_often : ByteArray := prog_12_method_44_code
def yX10_often : MethodName := ⟨RX10, "often", "(I)I"⟩
abbrev cX10_sumOf : ByteArray := prog_12_method_45_code
def yX10_sumOf : MethodName := ⟨RX10, "sumOf", "(II)I"⟩
abbrev cX10_fastest : ByteArray := prog_12_method_46_code
def yX10_fastest : MethodName := ⟨RX10, "fastest", "()I"⟩
abbrev cX10_count : ByteArray := prog_12_method_47_code
def yX10_count : MethodName := ⟨RX10, "count", "(I)I"⟩
abbrev cX10_longBitsOf : ByteArray := prog_12_method_48_code
def yX10_longBitsOf : MethodName := ⟨RX10, "longBitsOf", "(D)J"⟩
abbrev cX10_meanSpeed : ByteArray := prog_12_method_49_code
def yX10_meanSpeed : MethodName := ⟨RX10, "meanSpeed", "()J"⟩
abbrev cX10_walk : ByteArray := prog_12_method_50_code
def yX10_walk : MethodName := ⟨RX10, "walk", "(I)I"⟩
abbrev cX10_stop : ByteArray := prog_12_method_51_code
def yX10_stop : MethodName := ⟨RX10, "stop", "(II)I"⟩
abbrev cX10_shortestOf : ByteArray := prog_12_method_52_code
def yX10_shortestOf : MethodName := ⟨RX10, "shortestOf", "(I)I"⟩
abbrev cX10_wayTo : ByteArray := prog_12_method_53_code
def yX10_wayTo : MethodName := ⟨RX10, "wayTo", "(III)I"⟩
abbrev cX10_shortest : ByteArray := prog_12_method_54_code
def yX10_shortest : MethodName := ⟨RX10, "shortest", "(I)I"⟩
abbrev cX10_bestSwap : ByteArray := prog_12_method_55_code
def yX10_bestSwap : MethodName := ⟨RX10, "bestSwap", "(I)I"⟩
abbrev cX10_ifSwapped : ByteArray := prog_12_method_56_code
def yX10_ifSwapped : MethodName := ⟨RX10, "ifSwapped", "(II)I"⟩
abbrev cX10_badly : ByteArray := prog_12_method_57_code
def yX10_badly : MethodName := ⟨RX10, "badly", "()I"⟩
abbrev cX10_put : ByteArray := prog_12_method_58_code
def yX10_put : MethodName := ⟨RX10, "put", "(J)I"⟩
abbrev cX10_wipe : ByteArray := prog_12_method_59_code
def yX10_wipe : MethodName := ⟨RX10, "wipe", "()I"⟩
abbrev cX10_isNext : ByteArray := prog_12_method_60_code
def yX10_isNext : MethodName := ⟨RX10, "isNext", "(II)Z"⟩
abbrev cX10_takes : ByteArray := prog_12_method_61_code
def yX10_takes : MethodName := ⟨RX10, "takes", "(I)V"⟩
abbrev cX10_number : ByteArray := prog_12_method_62_code
def yX10_number : MethodName := ⟨RX10, "number", "()I"⟩
abbrev cX10_readGood : ByteArray := prog_12_method_63_code
def yX10_readGood : MethodName := ⟨RX10, "readGood", "()V"⟩
abbrev cX10_readOrder : ByteArray := prog_12_method_64_code
def yX10_readOrder : MethodName := ⟨RX10, "readOrder", "()V"⟩
abbrev cX10_does : ByteArray := prog_12_method_65_code
def yX10_does : MethodName := ⟨RX10, "does", "()I"⟩
abbrev cX10_goesThrough : ByteArray := prog_12_method_66_code
def yX10_goesThrough : MethodName := ⟨RX10, "goesThrough", "(Z)I"⟩
abbrev cX10_fault : ByteArray := prog_12_method_67_code
def yX10_fault : MethodName := ⟨RX10, "fault", "()I"⟩
abbrev cX10_carryOut : ByteArray := prog_12_method_68_code
def yX10_carryOut : MethodName := ⟨RX10, "carryOut", "()I"⟩
abbrev cX10_undo : ByteArray := prog_12_method_69_code
def yX10_undo : MethodName := ⟨RX10, "undo", "()I"⟩
abbrev cX10_save : ByteArray := prog_12_method_70_code
def yX10_save : MethodName := ⟨RX10, "save", "(I)I"⟩
abbrev cX10_restore : ByteArray := prog_12_method_71_code
def yX10_restore : MethodName := ⟨RX10, "restore", "(I)I"⟩
def RJ6 : String := "java/lang/Integer"
def TJ6 : u_T := fun k => match k with
  | _ => ("", "", "", false)
def tyJ6 : Nat → FieldType := fun k => match k with
  | _ => .int
abbrev wsJ60 : List Cond := u_ws RJ6 TJ6 0
theorem nmJ6 : ∀ a, a < 0 → ∀ b, b < 0 → a ≠ b → (TJ6 a).2.1 ≠ (TJ6 b).2.1 := by decide +kernel
theorem tyJ6_ok : ∀ k, k < 0 → parseFieldDescriptor (TJ6 k).2.2.1 = some (tyJ6 k) := by decide +kernel
abbrev cJ6_bitCount_0f7a4 : ByteArray := prog_13_method_49_code
def yJ6_bitCount_0f7a4 : MethodName := ⟨RJ6, "bitCount", "(I)I"⟩
def RJ9 : String := "java/lang/Math"
def TJ9 : u_T := fun k => match k with
  | _ => ("", "", "", false)
def tyJ9 : Nat → FieldType := fun k => match k with
  | _ => .int
abbrev wsJ90 : List Cond := u_ws RJ9 TJ9 0
theorem nmJ9 : ∀ a, a < 0 → ∀ b, b < 0 → a ≠ b → (TJ9 a).2.1 ≠ (TJ9 b).2.1 := by decide +kernel
theorem tyJ9_ok : ∀ k, k < 0 → parseFieldDescriptor (TJ9 k).2.2.1 = some (tyJ9 k) := by decide +kernel
abbrev cJ9_max_7cf53 : ByteArray := prog_14_method_65_code
def yJ9_max_7cf53 : MethodName := ⟨RJ9, "max", "(II)I"⟩
abbrev cJ9_min_7cf53 : ByteArray := prog_14_method_69_code
def yJ9_min_7cf53 : MethodName := ⟨RJ9, "min", "(II)I"⟩
def RJ10 : String := "java/lang/System"
def TJ10 : u_T := fun k => match k with
  | _ => ("", "", "", false)
def tyJ10 : Nat → FieldType := fun k => match k with
  | _ => .int
abbrev wsJ100 : List Cond := u_ws RJ10 TJ10 0
theorem nmJ10 : ∀ a, a < 0 → ∀ b, b < 0 → a ≠ b → (TJ10 a).2.1 ≠ (TJ10 b).2.1 := by decide +kernel
theorem tyJ10_ok : ∀ k, k < 0 → parseFieldDescriptor (TJ10 k).2.2.1 = some (tyJ10 k) := by decide +kernel
def RL : String := "ShelfSlotsLaw"
abbrev cL_law : ByteArray := code
def yL_law : MethodName := ⟨RL, "law", "([I)Z"⟩
abbrev vwCl : List vw_C := [(RX1, TX1, 3), (RX2, TX2, 3), (RX3, TX3, 3), (RX4, TX4, 3), (RX5, TX5, 4), (RX6, TX6, 4), (RX7, TX7, 16), (RX8, TX8, 2), (RX9, TX9, 8), (RX10, TX10, 24)]
