-- ===== PART A: goes FIRST, ahead of the names: the tables' words, and 'selects' of the private methods out of them =====
/-- a private method of a class that the tables say can be made, by its rows of tables_1 -/
def lw_okq (q : MethodName × Nat) : Prop := (q.1.cls ≠ "java/lang/invoke/MethodHandle" ∧ q.1.cls ≠ "java/lang/invoke/VarHandle") ∧ Cond.instantiable q.1.cls q.2 ∈ tables_1 ∧ Cond.privateMethod q.1 ∈ tables_1 ∧ Cond.instanceMethod q.1 ∈ tables_1
theorem lw_p0 : lw_okq (⟨"EndTooLong$Numbers", "howMany", "(I)I"⟩, 3) := ⟨⟨by decide +kernel, by decide +kernel⟩, List.mem_of_getElem? (i := 24) (by decide +kernel), List.mem_of_getElem? (i := 344) (by decide +kernel), List.mem_of_getElem? (i := 345) (by decide +kernel)⟩
theorem lw_p1 : lw_okq (⟨"EndTooLong", "tieCame", "(LEndTooLong$Shelf;I)Z"⟩, 11) := ⟨⟨by decide +kernel, by decide +kernel⟩, List.mem_of_getElem? (i := 16) (by decide +kernel), List.mem_of_getElem? (i := 368) (by decide +kernel), List.mem_of_getElem? (i := 369) (by decide +kernel)⟩
theorem lw_p2 : lw_okq (⟨"EndTooLong$Changes", "forgetOldest", "()V"⟩, 6) := ⟨⟨by decide +kernel, by decide +kernel⟩, List.mem_of_getElem? (i := 43) (by decide +kernel), List.mem_of_getElem? (i := 404) (by decide +kernel), List.mem_of_getElem? (i := 405) (by decide +kernel)⟩
theorem lw_p3 : lw_okq (⟨"EndTooLong$Reader", "readLine", "()Z"⟩, 5) := ⟨⟨by decide +kernel, by decide +kernel⟩, List.mem_of_getElem? (i := 69) (by decide +kernel), List.mem_of_getElem? (i := 429) (by decide +kernel), List.mem_of_getElem? (i := 430) (by decide +kernel)⟩
theorem lw_p4 : lw_okq (⟨"EndTooLong$Reader", "readLevel", "(II)Z"⟩, 5) := ⟨⟨by decide +kernel, by decide +kernel⟩, List.mem_of_getElem? (i := 69) (by decide +kernel), List.mem_of_getElem? (i := 433) (by decide +kernel), List.mem_of_getElem? (i := 434) (by decide +kernel)⟩
theorem lw_p5 : lw_okq (⟨"EndTooLong$Reader", "readOperand", "(I)Z"⟩, 5) := ⟨⟨by decide +kernel, by decide +kernel⟩, List.mem_of_getElem? (i := 69) (by decide +kernel), List.mem_of_getElem? (i := 437) (by decide +kernel), List.mem_of_getElem? (i := 438) (by decide +kernel)⟩
theorem lw_p6 : lw_okq (⟨"EndTooLong$Reader", "ahead", "()I"⟩, 5) := ⟨⟨by decide +kernel, by decide +kernel⟩, List.mem_of_getElem? (i := 69) (by decide +kernel), List.mem_of_getElem? (i := 441) (by decide +kernel), List.mem_of_getElem? (i := 442) (by decide +kernel)⟩
theorem lw_p7 : lw_okq (⟨"EndTooLong$Reader", "number", "()I"⟩, 5) := ⟨⟨by decide +kernel, by decide +kernel⟩, List.mem_of_getElem? (i := 69) (by decide +kernel), List.mem_of_getElem? (i := 448) (by decide +kernel), List.mem_of_getElem? (i := 449) (by decide +kernel)⟩
theorem lw_p8 : lw_okq (⟨"EndTooLong$Reader", "emit", "(I)Z"⟩, 5) := ⟨⟨by decide +kernel, by decide +kernel⟩, List.mem_of_getElem? (i := 69) (by decide +kernel), List.mem_of_getElem? (i := 452) (by decide +kernel), List.mem_of_getElem? (i := 453) (by decide +kernel)⟩
theorem lw_p9 : lw_okq (⟨"EndTooLong$Reader", "goesOnWith", "(I)Z"⟩, 5) := ⟨⟨by decide +kernel, by decide +kernel⟩, List.mem_of_getElem? (i := 69) (by decide +kernel), List.mem_of_getElem? (i := 459) (by decide +kernel), List.mem_of_getElem? (i := 460) (by decide +kernel)⟩
theorem lw_p10 : lw_okq (⟨"EndTooLong", "isTieInKnot", "(I)Z"⟩, 11) := ⟨⟨by decide +kernel, by decide +kernel⟩, List.mem_of_getElem? (i := 16) (by decide +kernel), List.mem_of_getElem? (i := 481) (by decide +kernel), List.mem_of_getElem? (i := 482) (by decide +kernel)⟩
theorem lw_p11 : lw_okq (⟨"EndTooLong", "hung", "(I)LEndTooLong$Hanging;"⟩, 11) := ⟨⟨by decide +kernel, by decide +kernel⟩, List.mem_of_getElem? (i := 16) (by decide +kernel), List.mem_of_getElem? (i := 489) (by decide +kernel), List.mem_of_getElem? (i := 490) (by decide +kernel)⟩
theorem lw_p12 : lw_okq (⟨"EndTooLong$Law", "pop", "()I"⟩, 4) := ⟨⟨by decide +kernel, by decide +kernel⟩, List.mem_of_getElem? (i := 95) (by decide +kernel), List.mem_of_getElem? (i := 510) (by decide +kernel), List.mem_of_getElem? (i := 511) (by decide +kernel)⟩
theorem lw_p13 : lw_okq (⟨"EndTooLong$Law", "push", "(I)V"⟩, 4) := ⟨⟨by decide +kernel, by decide +kernel⟩, List.mem_of_getElem? (i := 95) (by decide +kernel), List.mem_of_getElem? (i := 514) (by decide +kernel), List.mem_of_getElem? (i := 515) (by decide +kernel)⟩
theorem lw_p14 : lw_okq (⟨"EndTooLong$Hanging", "corrected", "(III)I"⟩, 12) := ⟨⟨by decide +kernel, by decide +kernel⟩, List.mem_of_getElem? (i := 114) (by decide +kernel), List.mem_of_getElem? (i := 586) (by decide +kernel), List.mem_of_getElem? (i := 587) (by decide +kernel)⟩
theorem lw_p15 : lw_okq (⟨"EndTooLong", "minutesOf", "(ILEndTooLong$Hanging;)I"⟩, 11) := ⟨⟨by decide +kernel, by decide +kernel⟩, List.mem_of_getElem? (i := 16) (by decide +kernel), List.mem_of_getElem? (i := 623) (by decide +kernel), List.mem_of_getElem? (i := 624) (by decide +kernel)⟩
def lw_privs_1 : List (MethodName × Nat) := [(⟨"EndTooLong$Numbers", "howMany", "(I)I"⟩, 3), (⟨"EndTooLong", "tieCame", "(LEndTooLong$Shelf;I)Z"⟩, 11), (⟨"EndTooLong$Changes", "forgetOldest", "()V"⟩, 6), (⟨"EndTooLong$Reader", "readLine", "()Z"⟩, 5), (⟨"EndTooLong$Reader", "readLevel", "(II)Z"⟩, 5), (⟨"EndTooLong$Reader", "readOperand", "(I)Z"⟩, 5), (⟨"EndTooLong$Reader", "ahead", "()I"⟩, 5), (⟨"EndTooLong$Reader", "number", "()I"⟩, 5), (⟨"EndTooLong$Reader", "emit", "(I)Z"⟩, 5), (⟨"EndTooLong$Reader", "goesOnWith", "(I)Z"⟩, 5), (⟨"EndTooLong", "isTieInKnot", "(I)Z"⟩, 11), (⟨"EndTooLong", "hung", "(I)LEndTooLong$Hanging;"⟩, 11), (⟨"EndTooLong$Law", "pop", "()I"⟩, 4), (⟨"EndTooLong$Law", "push", "(I)V"⟩, 4), (⟨"EndTooLong$Hanging", "corrected", "(III)I"⟩, 12), (⟨"EndTooLong", "minutesOf", "(ILEndTooLong$Hanging;)I"⟩, 11)]
theorem lw_r1 : ∀ q ∈ lw_privs_1, lw_okq q := List.forall_mem_cons.mpr ⟨lw_p0, List.forall_mem_cons.mpr ⟨lw_p1, List.forall_mem_cons.mpr ⟨lw_p2, List.forall_mem_cons.mpr ⟨lw_p3, List.forall_mem_cons.mpr ⟨lw_p4, List.forall_mem_cons.mpr ⟨lw_p5, List.forall_mem_cons.mpr ⟨lw_p6, List.forall_mem_cons.mpr ⟨lw_p7, List.forall_mem_cons.mpr ⟨lw_p8, List.forall_mem_cons.mpr ⟨lw_p9, List.forall_mem_cons.mpr ⟨lw_p10, List.forall_mem_cons.mpr ⟨lw_p11, List.forall_mem_cons.mpr ⟨lw_p12, List.forall_mem_cons.mpr ⟨lw_p13, List.forall_mem_cons.mpr ⟨lw_p14, List.forall_mem_cons.mpr ⟨lw_p15, fun _ h => absurd h List.not_mem_nil⟩⟩⟩⟩⟩⟩⟩⟩⟩⟩⟩⟩⟩⟩⟩⟩
theorem lw_p16 : lw_okq (⟨"EndTooLong", "refusalOfDressing", "(IIZ)I"⟩, 11) := ⟨⟨by decide +kernel, by decide +kernel⟩, List.mem_of_getElem? (i := 16) (by decide +kernel), List.mem_of_getElem? (i := 631) (by decide +kernel), List.mem_of_getElem? (i := 632) (by decide +kernel)⟩
theorem lw_p17 : lw_okq (⟨"EndTooLong", "refusalOfRow", "(II)I"⟩, 11) := ⟨⟨by decide +kernel, by decide +kernel⟩, List.mem_of_getElem? (i := 16) (by decide +kernel), List.mem_of_getElem? (i := 635) (by decide +kernel), List.mem_of_getElem? (i := 636) (by decide +kernel)⟩
theorem lw_p18 : lw_okq (⟨"EndTooLong", "gather", "(II)V"⟩, 11) := ⟨⟨by decide +kernel, by decide +kernel⟩, List.mem_of_getElem? (i := 16) (by decide +kernel), List.mem_of_getElem? (i := 639) (by decide +kernel), List.mem_of_getElem? (i := 640) (by decide +kernel)⟩
theorem lw_p19 : lw_okq (⟨"EndTooLong$Dressing", "isGathered", "(I)Z"⟩, 8) := ⟨⟨by decide +kernel, by decide +kernel⟩, List.mem_of_getElem? (i := 168) (by decide +kernel), List.mem_of_getElem? (i := 648) (by decide +kernel), List.mem_of_getElem? (i := 649) (by decide +kernel)⟩
theorem lw_p20 : lw_okq (⟨"EndTooLong$Dressing", "layPlaces", "()V"⟩, 8) := ⟨⟨by decide +kernel, by decide +kernel⟩, List.mem_of_getElem? (i := 168) (by decide +kernel), List.mem_of_getElem? (i := 660) (by decide +kernel), List.mem_of_getElem? (i := 661) (by decide +kernel)⟩
theorem lw_p21 : lw_okq (⟨"EndTooLong$Dressing", "done", "(I)I"⟩, 8) := ⟨⟨by decide +kernel, by decide +kernel⟩, List.mem_of_getElem? (i := 168) (by decide +kernel), List.mem_of_getElem? (i := 664) (by decide +kernel), List.mem_of_getElem? (i := 665) (by decide +kernel)⟩
theorem lw_p22 : lw_okq (⟨"EndTooLong$Dressing", "firstFree", "(I)I"⟩, 8) := ⟨⟨by decide +kernel, by decide +kernel⟩, List.mem_of_getElem? (i := 168) (by decide +kernel), List.mem_of_getElem? (i := 671) (by decide +kernel), List.mem_of_getElem? (i := 672) (by decide +kernel)⟩
theorem lw_p23 : lw_okq (⟨"EndTooLong$Dressing", "minutesFor", "(II)I"⟩, 8) := ⟨⟨by decide +kernel, by decide +kernel⟩, List.mem_of_getElem? (i := 168) (by decide +kernel), List.mem_of_getElem? (i := 675) (by decide +kernel), List.mem_of_getElem? (i := 676) (by decide +kernel)⟩
theorem lw_p24 : lw_okq (⟨"EndTooLong$Dressing", "keepOrder", "()V"⟩, 8) := ⟨⟨by decide +kernel, by decide +kernel⟩, List.mem_of_getElem? (i := 168) (by decide +kernel), List.mem_of_getElem? (i := 688) (by decide +kernel), List.mem_of_getElem? (i := 689) (by decide +kernel)⟩
theorem lw_p25 : lw_okq (⟨"EndTooLong$Dressing", "nextOrder", "()Z"⟩, 8) := ⟨⟨by decide +kernel, by decide +kernel⟩, List.mem_of_getElem? (i := 168) (by decide +kernel), List.mem_of_getElem? (i := 692) (by decide +kernel), List.mem_of_getElem? (i := 693) (by decide +kernel)⟩
theorem lw_p26 : lw_okq (⟨"EndTooLong$Dressing", "swap", "(II)V"⟩, 8) := ⟨⟨by decide +kernel, by decide +kernel⟩, List.mem_of_getElem? (i := 168) (by decide +kernel), List.mem_of_getElem? (i := 696) (by decide +kernel), List.mem_of_getElem? (i := 697) (by decide +kernel)⟩
theorem lw_p27 : lw_okq (⟨"EndTooLong", "refusalOfTries", "(IZ)I"⟩, 11) := ⟨⟨by decide +kernel, by decide +kernel⟩, List.mem_of_getElem? (i := 16) (by decide +kernel), List.mem_of_getElem? (i := 721) (by decide +kernel), List.mem_of_getElem? (i := 722) (by decide +kernel)⟩
theorem lw_p28 : lw_okq (⟨"EndTooLong$Turns", "ask", "(IIII)I"⟩, 6) := ⟨⟨by decide +kernel, by decide +kernel⟩, List.mem_of_getElem? (i := 233) (by decide +kernel), List.mem_of_getElem? (i := 831) (by decide +kernel), List.mem_of_getElem? (i := 832) (by decide +kernel)⟩
theorem lw_p29 : lw_okq (⟨"EndTooLong$Turns", "begin", "(I)V"⟩, 6) := ⟨⟨by decide +kernel, by decide +kernel⟩, List.mem_of_getElem? (i := 233) (by decide +kernel), List.mem_of_getElem? (i := 848) (by decide +kernel), List.mem_of_getElem? (i := 849) (by decide +kernel)⟩
theorem lw_p30 : lw_okq (⟨"EndTooLong$Turns", "run", "(IIII)I"⟩, 6) := ⟨⟨by decide +kernel, by decide +kernel⟩, List.mem_of_getElem? (i := 233) (by decide +kernel), List.mem_of_getElem? (i := 852) (by decide +kernel), List.mem_of_getElem? (i := 853) (by decide +kernel)⟩
theorem lw_p31 : lw_okq (⟨"EndTooLong", "refusalOfPlace", "(II)I"⟩, 11) := ⟨⟨by decide +kernel, by decide +kernel⟩, List.mem_of_getElem? (i := 16) (by decide +kernel), List.mem_of_getElem? (i := 885) (by decide +kernel), List.mem_of_getElem? (i := 886) (by decide +kernel)⟩
def lw_privs_2 : List (MethodName × Nat) := [(⟨"EndTooLong", "refusalOfDressing", "(IIZ)I"⟩, 11), (⟨"EndTooLong", "refusalOfRow", "(II)I"⟩, 11), (⟨"EndTooLong", "gather", "(II)V"⟩, 11), (⟨"EndTooLong$Dressing", "isGathered", "(I)Z"⟩, 8), (⟨"EndTooLong$Dressing", "layPlaces", "()V"⟩, 8), (⟨"EndTooLong$Dressing", "done", "(I)I"⟩, 8), (⟨"EndTooLong$Dressing", "firstFree", "(I)I"⟩, 8), (⟨"EndTooLong$Dressing", "minutesFor", "(II)I"⟩, 8), (⟨"EndTooLong$Dressing", "keepOrder", "()V"⟩, 8), (⟨"EndTooLong$Dressing", "nextOrder", "()Z"⟩, 8), (⟨"EndTooLong$Dressing", "swap", "(II)V"⟩, 8), (⟨"EndTooLong", "refusalOfTries", "(IZ)I"⟩, 11), (⟨"EndTooLong$Turns", "ask", "(IIII)I"⟩, 6), (⟨"EndTooLong$Turns", "begin", "(I)V"⟩, 6), (⟨"EndTooLong$Turns", "run", "(IIII)I"⟩, 6), (⟨"EndTooLong", "refusalOfPlace", "(II)I"⟩, 11)]
theorem lw_r2 : ∀ q ∈ lw_privs_2, lw_okq q := List.forall_mem_cons.mpr ⟨lw_p16, List.forall_mem_cons.mpr ⟨lw_p17, List.forall_mem_cons.mpr ⟨lw_p18, List.forall_mem_cons.mpr ⟨lw_p19, List.forall_mem_cons.mpr ⟨lw_p20, List.forall_mem_cons.mpr ⟨lw_p21, List.forall_mem_cons.mpr ⟨lw_p22, List.forall_mem_cons.mpr ⟨lw_p23, List.forall_mem_cons.mpr ⟨lw_p24, List.forall_mem_cons.mpr ⟨lw_p25, List.forall_mem_cons.mpr ⟨lw_p26, List.forall_mem_cons.mpr ⟨lw_p27, List.forall_mem_cons.mpr ⟨lw_p28, List.forall_mem_cons.mpr ⟨lw_p29, List.forall_mem_cons.mpr ⟨lw_p30, List.forall_mem_cons.mpr ⟨lw_p31, fun _ h => absurd h List.not_mem_nil⟩⟩⟩⟩⟩⟩⟩⟩⟩⟩⟩⟩⟩⟩⟩⟩
theorem lw_p32 : lw_okq (⟨"EndTooLong$Shelf", "fitted", "(J)J"⟩, 4) := ⟨⟨by decide +kernel, by decide +kernel⟩, List.mem_of_getElem? (i := 262) (by decide +kernel), List.mem_of_getElem? (i := 894) (by decide +kernel), List.mem_of_getElem? (i := 895) (by decide +kernel)⟩
theorem lw_p33 : lw_okq (⟨"EndTooLongModel", "newTie", "(III)I"⟩, 57) := ⟨⟨by decide +kernel, by decide +kernel⟩, List.mem_of_getElem? (i := 923) (by decide +kernel), List.mem_of_getElem? (i := 1109) (by decide +kernel), List.mem_of_getElem? (i := 1110) (by decide +kernel)⟩
theorem lw_p34 : lw_okq (⟨"EndTooLongModel", "isOf", "(II)Z"⟩, 57) := ⟨⟨by decide +kernel, by decide +kernel⟩, List.mem_of_getElem? (i := 923) (by decide +kernel), List.mem_of_getElem? (i := 1135) (by decide +kernel), List.mem_of_getElem? (i := 1136) (by decide +kernel)⟩
theorem lw_p35 : lw_okq (⟨"EndTooLongModel", "isTie", "(I)Z"⟩, 57) := ⟨⟨by decide +kernel, by decide +kernel⟩, List.mem_of_getElem? (i := 923) (by decide +kernel), List.mem_of_getElem? (i := 1139) (by decide +kernel), List.mem_of_getElem? (i := 1140) (by decide +kernel)⟩
theorem lw_p36 : lw_okq (⟨"EndTooLongModel", "isTier", "(I)Z"⟩, 57) := ⟨⟨by decide +kernel, by decide +kernel⟩, List.mem_of_getElem? (i := 923) (by decide +kernel), List.mem_of_getElem? (i := 1146) (by decide +kernel), List.mem_of_getElem? (i := 1147) (by decide +kernel)⟩
theorem lw_p37 : lw_okq (⟨"EndTooLongModel", "get", "(II)I"⟩, 57) := ⟨⟨by decide +kernel, by decide +kernel⟩, List.mem_of_getElem? (i := 923) (by decide +kernel), List.mem_of_getElem? (i := 1153) (by decide +kernel), List.mem_of_getElem? (i := 1154) (by decide +kernel)⟩
theorem lw_p38 : lw_okq (⟨"EndTooLongModel", "becomes", "(III)V"⟩, 57) := ⟨⟨by decide +kernel, by decide +kernel⟩, List.mem_of_getElem? (i := 923) (by decide +kernel), List.mem_of_getElem? (i := 1157) (by decide +kernel), List.mem_of_getElem? (i := 1158) (by decide +kernel)⟩
theorem lw_p39 : lw_okq (⟨"EndTooLongModel", "isLine", "()Z"⟩, 57) := ⟨⟨by decide +kernel, by decide +kernel⟩, List.mem_of_getElem? (i := 923) (by decide +kernel), List.mem_of_getElem? (i := 1181) (by decide +kernel), List.mem_of_getElem? (i := 1182) (by decide +kernel)⟩
theorem lw_p40 : lw_okq (⟨"EndTooLongModel", "isE", "()Z"⟩, 57) := ⟨⟨by decide +kernel, by decide +kernel⟩, List.mem_of_getElem? (i := 923) (by decide +kernel), List.mem_of_getElem? (i := 1185) (by decide +kernel), List.mem_of_getElem? (i := 1186) (by decide +kernel)⟩
theorem lw_p41 : lw_okq (⟨"EndTooLongModel", "isA", "()Z"⟩, 57) := ⟨⟨by decide +kernel, by decide +kernel⟩, List.mem_of_getElem? (i := 923) (by decide +kernel), List.mem_of_getElem? (i := 1189) (by decide +kernel), List.mem_of_getElem? (i := 1190) (by decide +kernel)⟩
theorem lw_p42 : lw_okq (⟨"EndTooLongModel", "isB", "()Z"⟩, 57) := ⟨⟨by decide +kernel, by decide +kernel⟩, List.mem_of_getElem? (i := 923) (by decide +kernel), List.mem_of_getElem? (i := 1193) (by decide +kernel), List.mem_of_getElem? (i := 1194) (by decide +kernel)⟩
theorem lw_p43 : lw_okq (⟨"EndTooLongModel", "isS", "()Z"⟩, 57) := ⟨⟨by decide +kernel, by decide +kernel⟩, List.mem_of_getElem? (i := 923) (by decide +kernel), List.mem_of_getElem? (i := 1197) (by decide +kernel), List.mem_of_getElem? (i := 1198) (by decide +kernel)⟩
theorem lw_p44 : lw_okq (⟨"EndTooLongModel", "isP", "()Z"⟩, 57) := ⟨⟨by decide +kernel, by decide +kernel⟩, List.mem_of_getElem? (i := 923) (by decide +kernel), List.mem_of_getElem? (i := 1201) (by decide +kernel), List.mem_of_getElem? (i := 1202) (by decide +kernel)⟩
theorem lw_p45 : lw_okq (⟨"EndTooLongModel", "isO", "()Z"⟩, 57) := ⟨⟨by decide +kernel, by decide +kernel⟩, List.mem_of_getElem? (i := 923) (by decide +kernel), List.mem_of_getElem? (i := 1205) (by decide +kernel), List.mem_of_getElem? (i := 1206) (by decide +kernel)⟩
theorem lw_p46 : lw_okq (⟨"EndTooLongModel", "isDigit", "()Z"⟩, 57) := ⟨⟨by decide +kernel, by decide +kernel⟩, List.mem_of_getElem? (i := 923) (by decide +kernel), List.mem_of_getElem? (i := 1209) (by decide +kernel), List.mem_of_getElem? (i := 1210) (by decide +kernel)⟩
theorem lw_p47 : lw_okq (⟨"EndTooLongModel", "sign", "()I"⟩, 57) := ⟨⟨by decide +kernel, by decide +kernel⟩, List.mem_of_getElem? (i := 923) (by decide +kernel), List.mem_of_getElem? (i := 1213) (by decide +kernel), List.mem_of_getElem? (i := 1214) (by decide +kernel)⟩
def lw_privs_3 : List (MethodName × Nat) := [(⟨"EndTooLong$Shelf", "fitted", "(J)J"⟩, 4), (⟨"EndTooLongModel", "newTie", "(III)I"⟩, 57), (⟨"EndTooLongModel", "isOf", "(II)Z"⟩, 57), (⟨"EndTooLongModel", "isTie", "(I)Z"⟩, 57), (⟨"EndTooLongModel", "isTier", "(I)Z"⟩, 57), (⟨"EndTooLongModel", "get", "(II)I"⟩, 57), (⟨"EndTooLongModel", "becomes", "(III)V"⟩, 57), (⟨"EndTooLongModel", "isLine", "()Z"⟩, 57), (⟨"EndTooLongModel", "isE", "()Z"⟩, 57), (⟨"EndTooLongModel", "isA", "()Z"⟩, 57), (⟨"EndTooLongModel", "isB", "()Z"⟩, 57), (⟨"EndTooLongModel", "isS", "()Z"⟩, 57), (⟨"EndTooLongModel", "isP", "()Z"⟩, 57), (⟨"EndTooLongModel", "isO", "()Z"⟩, 57), (⟨"EndTooLongModel", "isDigit", "()Z"⟩, 57), (⟨"EndTooLongModel", "sign", "()I"⟩, 57)]
theorem lw_r3 : ∀ q ∈ lw_privs_3, lw_okq q := List.forall_mem_cons.mpr ⟨lw_p32, List.forall_mem_cons.mpr ⟨lw_p33, List.forall_mem_cons.mpr ⟨lw_p34, List.forall_mem_cons.mpr ⟨lw_p35, List.forall_mem_cons.mpr ⟨lw_p36, List.forall_mem_cons.mpr ⟨lw_p37, List.forall_mem_cons.mpr ⟨lw_p38, List.forall_mem_cons.mpr ⟨lw_p39, List.forall_mem_cons.mpr ⟨lw_p40, List.forall_mem_cons.mpr ⟨lw_p41, List.forall_mem_cons.mpr ⟨lw_p42, List.forall_mem_cons.mpr ⟨lw_p43, List.forall_mem_cons.mpr ⟨lw_p44, List.forall_mem_cons.mpr ⟨lw_p45, List.forall_mem_cons.mpr ⟨lw_p46, List.forall_mem_cons.mpr ⟨lw_p47, fun _ h => absurd h List.not_mem_nil⟩⟩⟩⟩⟩⟩⟩⟩⟩⟩⟩⟩⟩⟩⟩⟩
theorem lw_p48 : lw_okq (⟨"EndTooLongModel", "codes", "(I)Z"⟩, 57) := ⟨⟨by decide +kernel, by decide +kernel⟩, List.mem_of_getElem? (i := 923) (by decide +kernel), List.mem_of_getElem? (i := 1217) (by decide +kernel), List.mem_of_getElem? (i := 1218) (by decide +kernel)⟩
theorem lw_p49 : lw_okq (⟨"EndTooLongModel", "is", "(I)Z"⟩, 57) := ⟨⟨by decide +kernel, by decide +kernel⟩, List.mem_of_getElem? (i := 923) (by decide +kernel), List.mem_of_getElem? (i := 1224) (by decide +kernel), List.mem_of_getElem? (i := 1225) (by decide +kernel)⟩
theorem lw_p50 : lw_okq (⟨"EndTooLongModel", "isTied", "(I)Z"⟩, 57) := ⟨⟨by decide +kernel, by decide +kernel⟩, List.mem_of_getElem? (i := 923) (by decide +kernel), List.mem_of_getElem? (i := 1232) (by decide +kernel), List.mem_of_getElem? (i := 1233) (by decide +kernel)⟩
theorem lw_p51 : lw_okq (⟨"EndTooLongModel", "cloth", "(III)I"⟩, 57) := ⟨⟨by decide +kernel, by decide +kernel⟩, List.mem_of_getElem? (i := 923) (by decide +kernel), List.mem_of_getElem? (i := 1236) (by decide +kernel), List.mem_of_getElem? (i := 1237) (by decide +kernel)⟩
theorem lw_p52 : lw_okq (⟨"EndTooLongModel", "worked", "(IIIII)I"⟩, 57) := ⟨⟨by decide +kernel, by decide +kernel⟩, List.mem_of_getElem? (i := 923) (by decide +kernel), List.mem_of_getElem? (i := 1241) (by decide +kernel), List.mem_of_getElem? (i := 1242) (by decide +kernel)⟩
theorem lw_p53 : lw_okq (⟨"EndTooLongModel", "thin", "(II)I"⟩, 57) := ⟨⟨by decide +kernel, by decide +kernel⟩, List.mem_of_getElem? (i := 923) (by decide +kernel), List.mem_of_getElem? (i := 1249) (by decide +kernel), List.mem_of_getElem? (i := 1250) (by decide +kernel)⟩
theorem lw_p54 : lw_okq (⟨"EndTooLongModel", "isRight", "(III)Z"⟩, 57) := ⟨⟨by decide +kernel, by decide +kernel⟩, List.mem_of_getElem? (i := 923) (by decide +kernel), List.mem_of_getElem? (i := 1253) (by decide +kernel), List.mem_of_getElem? (i := 1254) (by decide +kernel)⟩
theorem lw_p55 : lw_okq (⟨"EndTooLongModel", "rights", "(III)I"⟩, 57) := ⟨⟨by decide +kernel, by decide +kernel⟩, List.mem_of_getElem? (i := 923) (by decide +kernel), List.mem_of_getElem? (i := 1262) (by decide +kernel), List.mem_of_getElem? (i := 1263) (by decide +kernel)⟩
theorem lw_p56 : lw_okq (⟨"EndTooLongModel", "hangsRight", "(III)Z"⟩, 57) := ⟨⟨by decide +kernel, by decide +kernel⟩, List.mem_of_getElem? (i := 923) (by decide +kernel), List.mem_of_getElem? (i := 1266) (by decide +kernel), List.mem_of_getElem? (i := 1267) (by decide +kernel)⟩
theorem lw_p57 : lw_okq (⟨"EndTooLongModel", "tries", "(IIII)I"⟩, 57) := ⟨⟨by decide +kernel, by decide +kernel⟩, List.mem_of_getElem? (i := 923) (by decide +kernel), List.mem_of_getElem? (i := 1281) (by decide +kernel), List.mem_of_getElem? (i := 1282) (by decide +kernel)⟩
theorem lw_p58 : lw_okq (⟨"EndTooLongModel", "next", "(III)I"⟩, 57) := ⟨⟨by decide +kernel, by decide +kernel⟩, List.mem_of_getElem? (i := 923) (by decide +kernel), List.mem_of_getElem? (i := 1285) (by decide +kernel), List.mem_of_getElem? (i := 1286) (by decide +kernel)⟩
theorem lw_p59 : lw_okq (⟨"EndTooLongModel", "stained", "(III)I"⟩, 57) := ⟨⟨by decide +kernel, by decide +kernel⟩, List.mem_of_getElem? (i := 923) (by decide +kernel), List.mem_of_getElem? (i := 1301) (by decide +kernel), List.mem_of_getElem? (i := 1302) (by decide +kernel)⟩
theorem lw_p60 : lw_okq (⟨"EndTooLongModel", "takesFor", "(III)I"⟩, 57) := ⟨⟨by decide +kernel, by decide +kernel⟩, List.mem_of_getElem? (i := 923) (by decide +kernel), List.mem_of_getElem? (i := 1321) (by decide +kernel), List.mem_of_getElem? (i := 1322) (by decide +kernel)⟩
theorem lw_p61 : lw_okq (⟨"EndTooLongModel", "noRow", "(II)I"⟩, 57) := ⟨⟨by decide +kernel, by decide +kernel⟩, List.mem_of_getElem? (i := 923) (by decide +kernel), List.mem_of_getElem? (i := 1329) (by decide +kernel), List.mem_of_getElem? (i := 1330) (by decide +kernel)⟩
theorem lw_p62 : lw_okq (⟨"EndTooLongModel", "reads", "(I)V"⟩, 57) := ⟨⟨by decide +kernel, by decide +kernel⟩, List.mem_of_getElem? (i := 923) (by decide +kernel), List.mem_of_getElem? (i := 1333) (by decide +kernel), List.mem_of_getElem? (i := 1334) (by decide +kernel)⟩
theorem lw_p63 : lw_okq (⟨"EndTooLongModel", "told", "(II)I"⟩, 57) := ⟨⟨by decide +kernel, by decide +kernel⟩, List.mem_of_getElem? (i := 923) (by decide +kernel), List.mem_of_getElem? (i := 1337) (by decide +kernel), List.mem_of_getElem? (i := 1338) (by decide +kernel)⟩
def lw_privs_4 : List (MethodName × Nat) := [(⟨"EndTooLongModel", "codes", "(I)Z"⟩, 57), (⟨"EndTooLongModel", "is", "(I)Z"⟩, 57), (⟨"EndTooLongModel", "isTied", "(I)Z"⟩, 57), (⟨"EndTooLongModel", "cloth", "(III)I"⟩, 57), (⟨"EndTooLongModel", "worked", "(IIIII)I"⟩, 57), (⟨"EndTooLongModel", "thin", "(II)I"⟩, 57), (⟨"EndTooLongModel", "isRight", "(III)Z"⟩, 57), (⟨"EndTooLongModel", "rights", "(III)I"⟩, 57), (⟨"EndTooLongModel", "hangsRight", "(III)Z"⟩, 57), (⟨"EndTooLongModel", "tries", "(IIII)I"⟩, 57), (⟨"EndTooLongModel", "next", "(III)I"⟩, 57), (⟨"EndTooLongModel", "stained", "(III)I"⟩, 57), (⟨"EndTooLongModel", "takesFor", "(III)I"⟩, 57), (⟨"EndTooLongModel", "noRow", "(II)I"⟩, 57), (⟨"EndTooLongModel", "reads", "(I)V"⟩, 57), (⟨"EndTooLongModel", "told", "(II)I"⟩, 57)]
theorem lw_r4 : ∀ q ∈ lw_privs_4, lw_okq q := List.forall_mem_cons.mpr ⟨lw_p48, List.forall_mem_cons.mpr ⟨lw_p49, List.forall_mem_cons.mpr ⟨lw_p50, List.forall_mem_cons.mpr ⟨lw_p51, List.forall_mem_cons.mpr ⟨lw_p52, List.forall_mem_cons.mpr ⟨lw_p53, List.forall_mem_cons.mpr ⟨lw_p54, List.forall_mem_cons.mpr ⟨lw_p55, List.forall_mem_cons.mpr ⟨lw_p56, List.forall_mem_cons.mpr ⟨lw_p57, List.forall_mem_cons.mpr ⟨lw_p58, List.forall_mem_cons.mpr ⟨lw_p59, List.forall_mem_cons.mpr ⟨lw_p60, List.forall_mem_cons.mpr ⟨lw_p61, List.forall_mem_cons.mpr ⟨lw_p62, List.forall_mem_cons.mpr ⟨lw_p63, fun _ h => absurd h List.not_mem_nil⟩⟩⟩⟩⟩⟩⟩⟩⟩⟩⟩⟩⟩⟩⟩⟩
theorem lw_p64 : lw_okq (⟨"EndTooLongModel", "dresses", "(II)I"⟩, 57) := ⟨⟨by decide +kernel, by decide +kernel⟩, List.mem_of_getElem? (i := 923) (by decide +kernel), List.mem_of_getElem? (i := 1341) (by decide +kernel), List.mem_of_getElem? (i := 1342) (by decide +kernel)⟩
theorem lw_p65 : lw_okq (⟨"EndTooLongModel", "nextOrder", "()Z"⟩, 57) := ⟨⟨by decide +kernel, by decide +kernel⟩, List.mem_of_getElem? (i := 923) (by decide +kernel), List.mem_of_getElem? (i := 1349) (by decide +kernel), List.mem_of_getElem? (i := 1350) (by decide +kernel)⟩
theorem lw_p66 : lw_okq (⟨"EndTooLongModel", "exchange", "(II)V"⟩, 57) := ⟨⟨by decide +kernel, by decide +kernel⟩, List.mem_of_getElem? (i := 923) (by decide +kernel), List.mem_of_getElem? (i := 1353) (by decide +kernel), List.mem_of_getElem? (i := 1354) (by decide +kernel)⟩
theorem lw_p67 : lw_okq (⟨"EndTooLongModel", "wrong", "(IIIII)I"⟩, 57) := ⟨⟨by decide +kernel, by decide +kernel⟩, List.mem_of_getElem? (i := 923) (by decide +kernel), List.mem_of_getElem? (i := 1369) (by decide +kernel), List.mem_of_getElem? (i := 1370) (by decide +kernel)⟩
theorem lw_p68 : lw_okq (⟨"EndTooLongModel", "lies", "(III)I"⟩, 57) := ⟨⟨by decide +kernel, by decide +kernel⟩, List.mem_of_getElem? (i := 923) (by decide +kernel), List.mem_of_getElem? (i := 1418) (by decide +kernel), List.mem_of_getElem? (i := 1419) (by decide +kernel)⟩
theorem lw_p69 : lw_okq (⟨"EndTooLongModel", "ran", "(I)V"⟩, 57) := ⟨⟨by decide +kernel, by decide +kernel⟩, List.mem_of_getElem? (i := 923) (by decide +kernel), List.mem_of_getElem? (i := 1422) (by decide +kernel), List.mem_of_getElem? (i := 1423) (by decide +kernel)⟩
theorem lw_p70 : lw_okq (⟨"EndTooLongModel", "tookBy", "(III)I"⟩, 57) := ⟨⟨by decide +kernel, by decide +kernel⟩, List.mem_of_getElem? (i := 923) (by decide +kernel), List.mem_of_getElem? (i := 1429) (by decide +kernel), List.mem_of_getElem? (i := 1430) (by decide +kernel)⟩
theorem lw_p71 : lw_okq (⟨"EndTooLongModel", "slipped", "(III)I"⟩, 57) := ⟨⟨by decide +kernel, by decide +kernel⟩, List.mem_of_getElem? (i := 923) (by decide +kernel), List.mem_of_getElem? (i := 1433) (by decide +kernel), List.mem_of_getElem? (i := 1434) (by decide +kernel)⟩
theorem lw_p72 : lw_okq (⟨"EndTooLongModel", "tells", "(III)I"⟩, 57) := ⟨⟨by decide +kernel, by decide +kernel⟩, List.mem_of_getElem? (i := 923) (by decide +kernel), List.mem_of_getElem? (i := 1437) (by decide +kernel), List.mem_of_getElem? (i := 1438) (by decide +kernel)⟩
theorem lw_p73 : lw_okq (⟨"EndTooLongModel", "isRow", "(I)Z"⟩, 57) := ⟨⟨by decide +kernel, by decide +kernel⟩, List.mem_of_getElem? (i := 923) (by decide +kernel), List.mem_of_getElem? (i := 1457) (by decide +kernel), List.mem_of_getElem? (i := 1458) (by decide +kernel)⟩
def lw_privs_5 : List (MethodName × Nat) := [(⟨"EndTooLongModel", "dresses", "(II)I"⟩, 57), (⟨"EndTooLongModel", "nextOrder", "()Z"⟩, 57), (⟨"EndTooLongModel", "exchange", "(II)V"⟩, 57), (⟨"EndTooLongModel", "wrong", "(IIIII)I"⟩, 57), (⟨"EndTooLongModel", "lies", "(III)I"⟩, 57), (⟨"EndTooLongModel", "ran", "(I)V"⟩, 57), (⟨"EndTooLongModel", "tookBy", "(III)I"⟩, 57), (⟨"EndTooLongModel", "slipped", "(III)I"⟩, 57), (⟨"EndTooLongModel", "tells", "(III)I"⟩, 57), (⟨"EndTooLongModel", "isRow", "(I)Z"⟩, 57)]
theorem lw_r5 : ∀ q ∈ lw_privs_5, lw_okq q := List.forall_mem_cons.mpr ⟨lw_p64, List.forall_mem_cons.mpr ⟨lw_p65, List.forall_mem_cons.mpr ⟨lw_p66, List.forall_mem_cons.mpr ⟨lw_p67, List.forall_mem_cons.mpr ⟨lw_p68, List.forall_mem_cons.mpr ⟨lw_p69, List.forall_mem_cons.mpr ⟨lw_p70, List.forall_mem_cons.mpr ⟨lw_p71, List.forall_mem_cons.mpr ⟨lw_p72, List.forall_mem_cons.mpr ⟨lw_p73, fun _ h => absurd h List.not_mem_nil⟩⟩⟩⟩⟩⟩⟩⟩⟩⟩
def lw_privs : List (MethodName × Nat) := lw_privs_1 ++ (lw_privs_2 ++ (lw_privs_3 ++ (lw_privs_4 ++ (lw_privs_5))))
def lw_tbl : List Cond := k2_sels lw_privs ++ tables_1
theorem lw_privs_ok : ∀ q ∈ lw_privs, lw_okq q := by
  show ∀ q ∈ lw_privs_1 ++ (lw_privs_2 ++ (lw_privs_3 ++ (lw_privs_4 ++ (lw_privs_5)))), lw_okq q
  exact List.forall_mem_append.mpr ⟨lw_r1, List.forall_mem_append.mpr ⟨lw_r2, List.forall_mem_append.mpr ⟨lw_r3, List.forall_mem_append.mpr ⟨lw_r4, lw_r5⟩⟩⟩⟩
def RX0 : String := "EndTooLong$Changes"
def TX0 : u_T := fun k => match k with
  | 0 => ("EndTooLong$Changes", "number", "[I", true)
  | 1 => ("EndTooLong$Changes", "what", "[I", true)
  | 2 => ("EndTooLong$Changes", "was", "[I", true)
  | 3 => ("EndTooLong$Changes", "became", "[I", true)
  | 4 => ("EndTooLong$Changes", "done", "I", false)
  | _ => ("EndTooLong$Changes", "all", "I", false)
def tyX0 : Nat → FieldType := fun k => match k with
  | 0 => .array .int
  | 1 => .array .int
  | 2 => .array .int
  | 3 => .array .int
  | 4 => .int
  | _ => .int
theorem nmX0 : ∀ a, a < 6 → ∀ b, b < 6 → a ≠ b → (TX0 a).2.1 ≠ (TX0 b).2.1 := by decide +kernel
theorem tyX0_ok : ∀ k, k < 6 → parseFieldDescriptor (TX0 k).2.2.1 = some (tyX0 k) := by decide +kernel
abbrev cX0_init : ByteArray := prog_2_method_1_code
def yX0_init : MethodName := ⟨RX0, "<init>", "()V"⟩
abbrev cX0_add : ByteArray := prog_2_method_2_code
def yX0_add : MethodName := ⟨RX0, "add", "(IIII)V"⟩
abbrev cX0_stepBack : ByteArray := prog_2_method_3_code
def yX0_stepBack : MethodName := ⟨RX0, "stepBack", "(LEndTooLong$Numbers;)I"⟩
abbrev cX0_stepOn : ByteArray := prog_2_method_4_code
def yX0_stepOn : MethodName := ⟨RX0, "stepOn", "(LEndTooLong$Numbers;)I"⟩
abbrev cX0_forgetOldest : ByteArray := prog_2_method_5_code
def yX0_forgetOldest : MethodName := ⟨RX0, "forgetOldest", "()V"⟩
def RX1 : String := "EndTooLong$Dressing"
def TX1 : u_T := fun k => match k with
  | 0 => ("EndTooLong$Dressing", "ties", "[I", true)
  | 1 => ("EndTooLong$Dressing", "who", "[I", true)
  | 2 => ("EndTooLong$Dressing", "best", "[I", true)
  | 3 => ("EndTooLong$Dressing", "doneAt", "[I", true)
  | 4 => ("EndTooLong$Dressing", "places", "[I", true)
  | 5 => ("EndTooLong$Dressing", "minutes", "[I", true)
  | 6 => ("EndTooLong$Dressing", "free", "[I", true)
  | _ => ("EndTooLong$Dressing", "many", "I", false)
def tyX1 : Nat → FieldType := fun k => match k with
  | 0 => .array .int
  | 1 => .array .int
  | 2 => .array .int
  | 3 => .array .int
  | 4 => .array .int
  | 5 => .array .int
  | 6 => .array .int
  | _ => .int
theorem nmX1 : ∀ a, a < 8 → ∀ b, b < 8 → a ≠ b → (TX1 a).2.1 ≠ (TX1 b).2.1 := by decide +kernel
theorem tyX1_ok : ∀ k, k < 8 → parseFieldDescriptor (TX1 k).2.2.1 = some (tyX1 k) := by decide +kernel
abbrev cX1_init : ByteArray := prog_3_method_1_code
def yX1_init : MethodName := ⟨RX1, "<init>", "()V"⟩
abbrev cX1_gather : ByteArray := prog_3_method_2_code
def yX1_gather : MethodName := ⟨RX1, "gather", "(LEndTooLong$Shelf;I)V"⟩
abbrev cX1_time : ByteArray := prog_3_method_3_code
def yX1_time : MethodName := ⟨RX1, "time", "(III)V"⟩
abbrev cX1_addTierLike : ByteArray := prog_3_method_4_code
def yX1_addTierLike : MethodName := ⟨RX1, "addTierLike", "(II)V"⟩
abbrev cX1_allDone : ByteArray := prog_3_method_5_code
def yX1_allDone : MethodName := ⟨RX1, "allDone", "(I)I"⟩
abbrev cX1_firstDone : ByteArray := prog_3_method_6_code
def yX1_firstDone : MethodName := ⟨RX1, "firstDone", "(I)I"⟩
abbrev cX1_doneBy : ByteArray := prog_3_method_7_code
def yX1_doneBy : MethodName := ⟨RX1, "doneBy", "(I)I"⟩
abbrev cX1_isGathered : ByteArray := prog_3_method_8_code
def yX1_isGathered : MethodName := ⟨RX1, "isGathered", "(I)Z"⟩
abbrev cX1_minutesFor : ByteArray := prog_3_method_9_code
def yX1_minutesFor : MethodName := ⟨RX1, "minutesFor", "(II)I"⟩
abbrev cX1_layPlaces : ByteArray := prog_3_method_10_code
def yX1_layPlaces : MethodName := ⟨RX1, "layPlaces", "()V"⟩
abbrev cX1_keepOrder : ByteArray := prog_3_method_11_code
def yX1_keepOrder : MethodName := ⟨RX1, "keepOrder", "()V"⟩
abbrev cX1_done : ByteArray := prog_3_method_12_code
def yX1_done : MethodName := ⟨RX1, "done", "(I)I"⟩
abbrev cX1_firstFree : ByteArray := prog_3_method_13_code
def yX1_firstFree : MethodName := ⟨RX1, "firstFree", "(I)I"⟩
abbrev cX1_nextOrder : ByteArray := prog_3_method_14_code
def yX1_nextOrder : MethodName := ⟨RX1, "nextOrder", "()Z"⟩
abbrev cX1_swap : ByteArray := prog_3_method_15_code
def yX1_swap : MethodName := ⟨RX1, "swap", "(II)V"⟩
def RX2 : String := "EndTooLong$Hanging"
def TX2 : u_T := fun k => match k with
  | 0 => ("EndTooLong$Hanging", "text", "LEndTooLong$Law;", true)
  | 1 => ("EndTooLong$Hanging", "length", "I", false)
  | 2 => ("EndTooLong$Hanging", "thick", "I", false)
  | 3 => ("EndTooLong$Hanging", "slips", "I", false)
  | 4 => ("EndTooLong$Hanging", "stain", "I", false)
  | 5 => ("EndTooLong$Hanging", "worn", "I", false)
  | 6 => ("EndTooLong$Hanging", "turns", "I", false)
  | 7 => ("EndTooLong$Hanging", "neck", "I", false)
  | 8 => ("EndTooLong$Hanging", "belt", "I", false)
  | 9 => ("EndTooLong$Hanging", "near", "I", false)
  | 10 => ("EndTooLong$Hanging", "endedAt", "I", false)
  | _ => ("EndTooLong$Hanging", "draw", "I", false)
def tyX2 : Nat → FieldType := fun k => match k with
  | 0 => .object "EndTooLong$Law"
  | 1 => .int
  | 2 => .int
  | 3 => .int
  | 4 => .int
  | 5 => .int
  | 6 => .int
  | 7 => .int
  | 8 => .int
  | 9 => .int
  | 10 => .int
  | _ => .int
theorem nmX2 : ∀ a, a < 12 → ∀ b, b < 12 → a ≠ b → (TX2 a).2.1 ≠ (TX2 b).2.1 := by decide +kernel
theorem tyX2_ok : ∀ k, k < 12 → parseFieldDescriptor (TX2 k).2.2.1 = some (tyX2 k) := by decide +kernel
abbrev cX2_init : ByteArray := prog_4_method_1_code
def yX2_init : MethodName := ⟨RX2, "<init>", "(LEndTooLong$Law;)V"⟩
abbrev cX2_lay : ByteArray := prog_4_method_2_code
def yX2_lay : MethodName := ⟨RX2, "lay", "(LEndTooLong$Numbers;II)V"⟩
abbrev cX2_cloth : ByteArray := prog_4_method_3_code
def yX2_cloth : MethodName := ⟨RX2, "cloth", "(I)I"⟩
abbrev cX2_thin : ByteArray := prog_4_method_4_code
def yX2_thin : MethodName := ⟨RX2, "thin", "(I)I"⟩
abbrev cX2_apart : ByteArray := prog_4_method_5_code
def yX2_apart : MethodName := ⟨RX2, "apart", "(I)I"⟩
abbrev cX2_isRight : ByteArray := prog_4_method_6_code
def yX2_isRight : MethodName := ⟨RX2, "isRight", "(II)Z"⟩
abbrev cX2_isRightAt : ByteArray := prog_4_method_7_code
def yX2_isRightAt : MethodName := ⟨RX2, "isRightAt", "(I)Z"⟩
abbrev cX2_leastRight : ByteArray := prog_4_method_8_code
def yX2_leastRight : MethodName := ⟨RX2, "leastRight", "()I"⟩
abbrev cX2_greatestRight : ByteArray := prog_4_method_9_code
def yX2_greatestRight : MethodName := ⟨RX2, "greatestRight", "()I"⟩
abbrev cX2_rightOnes : ByteArray := prog_4_method_10_code
def yX2_rightOnes : MethodName := ⟨RX2, "rightOnes", "()I"⟩
abbrev cX2_turnsIfRight : ByteArray := prog_4_method_11_code
def yX2_turnsIfRight : MethodName := ⟨RX2, "turnsIfRight", "()I"⟩
abbrev cX2_tries : ByteArray := prog_4_method_12_code
def yX2_tries : MethodName := ⟨RX2, "tries", "(II)I"⟩
abbrev cX2_drawnTries : ByteArray := prog_4_method_13_code
def yX2_drawnTries : MethodName := ⟨RX2, "drawnTries", "(II)I"⟩
abbrev cX2_firstWrong : ByteArray := prog_4_method_14_code
def yX2_firstWrong : MethodName := ⟨RX2, "firstWrong", "(LEndTooLong$Shelf;II)I"⟩
abbrev cX2_corrected : ByteArray := prog_4_method_15_code
def yX2_corrected : MethodName := ⟨RX2, "corrected", "(III)I"⟩
def RX3 : String := "EndTooLong$Law"
def TX3 : u_T := fun k => match k with
  | 0 => ("EndTooLong$Law", "codes", "[I", true)
  | 1 => ("EndTooLong$Law", "waiting", "[I", true)
  | 2 => ("EndTooLong$Law", "size", "I", false)
  | _ => ("EndTooLong$Law", "top", "I", false)
def tyX3 : Nat → FieldType := fun k => match k with
  | 0 => .array .int
  | 1 => .array .int
  | 2 => .int
  | _ => .int
theorem nmX3 : ∀ a, a < 4 → ∀ b, b < 4 → a ≠ b → (TX3 a).2.1 ≠ (TX3 b).2.1 := by decide +kernel
theorem tyX3_ok : ∀ k, k < 4 → parseFieldDescriptor (TX3 k).2.2.1 = some (tyX3 k) := by decide +kernel
abbrev cX3_init : ByteArray := prog_5_method_1_code
def yX3_init : MethodName := ⟨RX3, "<init>", "()V"⟩
abbrev cX3_isTold : ByteArray := prog_5_method_2_code
def yX3_isTold : MethodName := ⟨RX3, "isTold", "()Z"⟩
abbrev cX3_become : ByteArray := prog_5_method_3_code
def yX3_become : MethodName := ⟨RX3, "become", "(LEndTooLong$Reader;)V"⟩
abbrev cX3_valueFor : ByteArray := prog_5_method_4_code
def yX3_valueFor : MethodName := ⟨RX3, "valueFor", "(LEndTooLong$Hanging;I)I"⟩
abbrev cX3_turned : ByteArray := prog_5_method_5_code
def yX3_turned : MethodName := ⟨RX3, "turned", "(II)I"⟩
abbrev cX3_named : ByteArray := prog_5_method_6_code
def yX3_named : MethodName := ⟨RX3, "named", "(ILEndTooLong$Hanging;I)I"⟩
abbrev cX3_joined : ByteArray := prog_5_method_7_code
def yX3_joined : MethodName := ⟨RX3, "joined", "(III)I"⟩
abbrev cX3_push : ByteArray := prog_5_method_8_code
def yX3_push : MethodName := ⟨RX3, "push", "(I)V"⟩
abbrev cX3_pop : ByteArray := prog_5_method_9_code
def yX3_pop : MethodName := ⟨RX3, "pop", "()I"⟩
def RX4 : String := "EndTooLong$Ledger"
def TX4 : u_T := fun k => match k with
  | 0 => ("EndTooLong$Ledger", "worn", "[I", true)
  | 1 => ("EndTooLong$Ledger", "often", "[I", true)
  | 2 => ("EndTooLong$Ledger", "tied", "I", false)
  | 3 => ("EndTooLong$Ledger", "right", "I", false)
  | 4 => ("EndTooLong$Ledger", "undone", "I", false)
  | _ => ("EndTooLong$Ledger", "latest", "I", false)
def tyX4 : Nat → FieldType := fun k => match k with
  | 0 => .array .int
  | 1 => .array .int
  | 2 => .int
  | 3 => .int
  | 4 => .int
  | _ => .int
theorem nmX4 : ∀ a, a < 6 → ∀ b, b < 6 → a ≠ b → (TX4 a).2.1 ≠ (TX4 b).2.1 := by decide +kernel
theorem tyX4_ok : ∀ k, k < 6 → parseFieldDescriptor (TX4 k).2.2.1 = some (tyX4 k) := by decide +kernel
abbrev cX4_init : ByteArray := prog_6_method_1_code
def yX4_init : MethodName := ⟨RX4, "<init>", "()V"⟩
abbrev cX4_copyFrom : ByteArray := prog_6_method_2_code
def yX4_copyFrom : MethodName := ⟨RX4, "copyFrom", "(LEndTooLong$Ledger;)V"⟩
abbrev cX4_copyTies : ByteArray := prog_6_method_3_code
def yX4_copyTies : MethodName := ⟨RX4, "copyTies", "(LEndTooLong$Numbers;)V"⟩
abbrev cX4_layTiesBack : ByteArray := prog_6_method_4_code
def yX4_layTiesBack : MethodName := ⟨RX4, "layTiesBack", "(LEndTooLong$Numbers;)V"⟩
def RX5 : String := "EndTooLong$Numbers"
def TX5 : u_T := fun k => match k with
  | 0 => ("EndTooLong$Numbers", "held", "[I", true)
  | 1 => ("EndTooLong$Numbers", "ties", "I", false)
  | _ => ("EndTooLong$Numbers", "tiers", "I", false)
def tyX5 : Nat → FieldType := fun k => match k with
  | 0 => .array .int
  | 1 => .int
  | _ => .int
theorem nmX5 : ∀ a, a < 3 → ∀ b, b < 3 → a ≠ b → (TX5 a).2.1 ≠ (TX5 b).2.1 := by decide +kernel
theorem tyX5_ok : ∀ k, k < 3 → parseFieldDescriptor (TX5 k).2.2.1 = some (tyX5 k) := by decide +kernel
abbrev cX5_init : ByteArray := prog_7_method_1_code
def yX5_init : MethodName := ⟨RX5, "<init>", "()V"⟩
abbrev cX5_has : ByteArray := prog_7_method_2_code
def yX5_has : MethodName := ⟨RX5, "has", "(II)Z"⟩
abbrev cX5_read : ByteArray := prog_7_method_3_code
def yX5_read : MethodName := ⟨RX5, "read", "(II)I"⟩
abbrev cX5_write : ByteArray := prog_7_method_4_code
def yX5_write : MethodName := ⟨RX5, "write", "(III)V"⟩
abbrev cX5_addTie : ByteArray := prog_7_method_5_code
def yX5_addTie : MethodName := ⟨RX5, "addTie", "(III)I"⟩
abbrev cX5_addTier : ByteArray := prog_7_method_6_code
def yX5_addTier : MethodName := ⟨RX5, "addTier", "(III)I"⟩
abbrev cX5_howMany : ByteArray := prog_7_method_7_code
def yX5_howMany : MethodName := ⟨RX5, "howMany", "(I)I"⟩
def RX6 : String := "EndTooLong$Reader"
def TX6 : u_T := fun k => match k with
  | 0 => ("EndTooLong$Reader", "bytes", "[I", true)
  | 1 => ("EndTooLong$Reader", "codes", "[I", true)
  | 2 => ("EndTooLong$Reader", "size", "I", false)
  | 3 => ("EndTooLong$Reader", "place", "I", false)
  | _ => ("EndTooLong$Reader", "written", "I", false)
def tyX6 : Nat → FieldType := fun k => match k with
  | 0 => .array .int
  | 1 => .array .int
  | 2 => .int
  | 3 => .int
  | _ => .int
theorem nmX6 : ∀ a, a < 5 → ∀ b, b < 5 → a ≠ b → (TX6 a).2.1 ≠ (TX6 b).2.1 := by decide +kernel
theorem tyX6_ok : ∀ k, k < 5 → parseFieldDescriptor (TX6 k).2.2.1 = some (tyX6 k) := by decide +kernel
abbrev cX6_init : ByteArray := prog_8_method_1_code
def yX6_init : MethodName := ⟨RX6, "<init>", "()V"⟩
abbrev cX6_add : ByteArray := prog_8_method_2_code
def yX6_add : MethodName := ⟨RX6, "add", "(I)I"⟩
abbrev cX6_empty : ByteArray := prog_8_method_3_code
def yX6_empty : MethodName := ⟨RX6, "empty", "()V"⟩
abbrev cX6_readText : ByteArray := prog_8_method_4_code
def yX6_readText : MethodName := ⟨RX6, "readText", "()Z"⟩
abbrev cX6_readLine : ByteArray := prog_8_method_5_code
def yX6_readLine : MethodName := ⟨RX6, "readLine", "()Z"⟩
abbrev cX6_readLevel : ByteArray := prog_8_method_6_code
def yX6_readLevel : MethodName := ⟨RX6, "readLevel", "(II)Z"⟩
abbrev cX6_readOperand : ByteArray := prog_8_method_7_code
def yX6_readOperand : MethodName := ⟨RX6, "readOperand", "(I)Z"⟩
abbrev cX6_number : ByteArray := prog_8_method_8_code
def yX6_number : MethodName := ⟨RX6, "number", "()I"⟩
abbrev cX6_goesOnWith : ByteArray := prog_8_method_9_code
def yX6_goesOnWith : MethodName := ⟨RX6, "goesOnWith", "(I)Z"⟩
abbrev cX6_ahead : ByteArray := prog_8_method_10_code
def yX6_ahead : MethodName := ⟨RX6, "ahead", "()I"⟩
abbrev cX6_emit : ByteArray := prog_8_method_11_code
def yX6_emit : MethodName := ⟨RX6, "emit", "(I)Z"⟩
abbrev cX6_isDigit : ByteArray := prog_8_method_12_code
def yX6_isDigit : MethodName := ⟨RX6, "isDigit", "(I)Z"⟩
abbrev cX6_isName : ByteArray := prog_8_method_13_code
def yX6_isName : MethodName := ⟨RX6, "isName", "(I)Z"⟩
abbrev cX6_levelOf : ByteArray := prog_8_method_14_code
def yX6_levelOf : MethodName := ⟨RX6, "levelOf", "(I)I"⟩
def RX7 : String := "EndTooLong$Shelf"
def TX7 : u_T := fun k => match k with
  | 0 => ("EndTooLong$Shelf", "elements", "[J", true)
  | 1 => ("EndTooLong$Shelf", "turn", "I", false)
  | 2 => ("EndTooLong$Shelf", "sort", "I", false)
  | _ => ("EndTooLong$Shelf", "size", "I", false)
def tyX7 : Nat → FieldType := fun k => match k with
  | 0 => .array .long
  | 1 => .int
  | 2 => .int
  | _ => .int
theorem nmX7 : ∀ a, a < 4 → ∀ b, b < 4 → a ≠ b → (TX7 a).2.1 ≠ (TX7 b).2.1 := by decide +kernel
theorem tyX7_ok : ∀ k, k < 4 → parseFieldDescriptor (TX7 k).2.2.1 = some (tyX7 k) := by decide +kernel
abbrev cX7_init : ByteArray := prog_9_method_1_code
def yX7_init : MethodName := ⟨RX7, "<init>", "()V"⟩
abbrev cX7_isEmpty : ByteArray := prog_9_method_2_code
def yX7_isEmpty : MethodName := ⟨RX7, "isEmpty", "()Z"⟩
abbrev cX7_isRow : ByteArray := prog_9_method_3_code
def yX7_isRow : MethodName := ⟨RX7, "isRow", "()Z"⟩
abbrev cX7_isRowOf : ByteArray := prog_9_method_4_code
def yX7_isRowOf : MethodName := ⟨RX7, "isRowOf", "(I)Z"⟩
abbrev cX7_hasSpan : ByteArray := prog_9_method_5_code
def yX7_hasSpan : MethodName := ⟨RX7, "hasSpan", "(II)Z"⟩
abbrev cX7_hold : ByteArray := prog_9_method_6_code
def yX7_hold : MethodName := ⟨RX7, "hold", "(I)V"⟩
abbrev cX7_holdRow : ByteArray := prog_9_method_7_code
def yX7_holdRow : MethodName := ⟨RX7, "holdRow", "(II)V"⟩
abbrev cX7_read : ByteArray := prog_9_method_8_code
def yX7_read : MethodName := ⟨RX7, "read", "(I)J"⟩
abbrev cX7_write : ByteArray := prog_9_method_9_code
def yX7_write : MethodName := ⟨RX7, "write", "(IJ)V"⟩
abbrev cX7_fitted : ByteArray := prog_9_method_10_code
def yX7_fitted : MethodName := ⟨RX7, "fitted", "(J)J"⟩
def RX8 : String := "EndTooLong$Turns"
def TX8 : u_T := fun k => match k with
  | 0 => ("EndTooLong$Turns", "kinds", "[I", true)
  | 1 => ("EndTooLong$Turns", "traced", "[I", true)
  | 2 => ("EndTooLong$Turns", "many", "I", false)
  | 3 => ("EndTooLong$Turns", "ran", "I", false)
  | 4 => ("EndTooLong$Turns", "number", "I", false)
  | _ => ("EndTooLong$Turns", "kind", "I", false)
def tyX8 : Nat → FieldType := fun k => match k with
  | 0 => .array .int
  | 1 => .array .int
  | 2 => .int
  | 3 => .int
  | 4 => .int
  | _ => .int
theorem nmX8 : ∀ a, a < 6 → ∀ b, b < 6 → a ≠ b → (TX8 a).2.1 ≠ (TX8 b).2.1 := by decide +kernel
theorem tyX8_ok : ∀ k, k < 6 → parseFieldDescriptor (TX8 k).2.2.1 = some (tyX8 k) := by decide +kernel
abbrev cX8_init : ByteArray := prog_10_method_1_code
def yX8_init : MethodName := ⟨RX8, "<init>", "()V"⟩
abbrev cX8_add : ByteArray := prog_10_method_2_code
def yX8_add : MethodName := ⟨RX8, "add", "(I)I"⟩
abbrev cX8_has : ByteArray := prog_10_method_3_code
def yX8_has : MethodName := ⟨RX8, "has", "(I)Z"⟩
abbrev cX8_kindOf : ByteArray := prog_10_method_4_code
def yX8_kindOf : MethodName := ⟨RX8, "kindOf", "(I)I"⟩
abbrev cX8_isUnder : ByteArray := prog_10_method_5_code
def yX8_isUnder : MethodName := ⟨RX8, "isUnder", "(II)Z"⟩
abbrev cX8_start : ByteArray := prog_10_method_6_code
def yX8_start : MethodName := ⟨RX8, "start", "(III)I"⟩
abbrev cX8_ask : ByteArray := prog_10_method_7_code
def yX8_ask : MethodName := ⟨RX8, "ask", "(IIII)I"⟩
abbrev cX8_run : ByteArray := prog_10_method_8_code
def yX8_run : MethodName := ⟨RX8, "run", "(IIII)I"⟩
abbrev cX8_begin : ByteArray := prog_10_method_9_code
def yX8_begin : MethodName := ⟨RX8, "begin", "(I)V"⟩
abbrev cX8_homeOf : ByteArray := prog_10_method_10_code
def yX8_homeOf : MethodName := ⟨RX8, "homeOf", "(II)I"⟩
abbrev cX8_above : ByteArray := prog_10_method_11_code
def yX8_above : MethodName := ⟨RX8, "above", "(I)I"⟩
abbrev cX8_ownOf : ByteArray := prog_10_method_12_code
def yX8_ownOf : MethodName := ⟨RX8, "ownOf", "(II)I"⟩
def RX9 : String := "EndTooLong"
def TX9 : u_T := fun k => match k with
  | 0 => ("EndTooLong", "numbers", "LEndTooLong$Numbers;", true)
  | 1 => ("EndTooLong", "changes", "LEndTooLong$Changes;", true)
  | 2 => ("EndTooLong", "reader", "LEndTooLong$Reader;", true)
  | 3 => ("EndTooLong", "text", "LEndTooLong$Law;", true)
  | 4 => ("EndTooLong", "hanging", "LEndTooLong$Hanging;", true)
  | 5 => ("EndTooLong", "dressing", "LEndTooLong$Dressing;", true)
  | 6 => ("EndTooLong", "ledger", "LEndTooLong$Ledger;", true)
  | 7 => ("EndTooLong", "kept", "LEndTooLong$Ledger;", true)
  | 8 => ("EndTooLong", "bodies", "LEndTooLong$Turns;", true)
  | 9 => ("EndTooLong", "shelves", "[LEndTooLong$Shelf;", true)
  | _ => ("EndTooLong", "imageIsKept", "Z", false)
def tyX9 : Nat → FieldType := fun k => match k with
  | 0 => .object "EndTooLong$Numbers"
  | 1 => .object "EndTooLong$Changes"
  | 2 => .object "EndTooLong$Reader"
  | 3 => .object "EndTooLong$Law"
  | 4 => .object "EndTooLong$Hanging"
  | 5 => .object "EndTooLong$Dressing"
  | 6 => .object "EndTooLong$Ledger"
  | 7 => .object "EndTooLong$Ledger"
  | 8 => .object "EndTooLong$Turns"
  | 9 => .array (.object "EndTooLong$Shelf")
  | _ => .boolean
theorem nmX9 : ∀ a, a < 11 → ∀ b, b < 11 → a ≠ b → (TX9 a).2.1 ≠ (TX9 b).2.1 := by decide +kernel
theorem tyX9_ok : ∀ k, k < 11 → parseFieldDescriptor (TX9 k).2.2.1 = some (tyX9 k) := by decide +kernel
abbrev cX9_init : ByteArray := prog_1_method_1_code
def yX9_init : MethodName := ⟨RX9, "<init>", "()V"⟩
abbrev cX9_tie : ByteArray := prog_1_method_2_code
def yX9_tie : MethodName := ⟨RX9, "tie", "(II)I"⟩
abbrev cX9_ties : ByteArray := prog_1_method_3_code
def yX9_ties : MethodName := ⟨RX9, "ties", "(III)I"⟩
abbrev cX9_tier : ByteArray := prog_1_method_4_code
def yX9_tier : MethodName := ⟨RX9, "tier", "(II)I"⟩
abbrev cX9_mend : ByteArray := prog_1_method_5_code
def yX9_mend : MethodName := ⟨RX9, "mend", "(III)I"⟩
abbrev cX9_of : ByteArray := prog_1_method_6_code
def yX9_of : MethodName := ⟨RX9, "of", "(II)I"⟩
abbrev cX9_feed : ByteArray := prog_1_method_7_code
def yX9_feed : MethodName := ⟨RX9, "feed", "(I)I"⟩
abbrev cX9_law : ByteArray := prog_1_method_8_code
def yX9_law : MethodName := ⟨RX9, "law", "()I"⟩
abbrev cX9_hangs : ByteArray := prog_1_method_9_code
def yX9_hangs : MethodName := ⟨RX9, "hangs", "(III)I"⟩
abbrev cX9_where : ByteArray := prog_1_method_10_code
def yX9_where : MethodName := ⟨RX9, "where", "(II)I"⟩
abbrev cX9_knot : ByteArray := prog_1_method_11_code
def yX9_knot : MethodName := ⟨RX9, "knot", "(II)I"⟩
abbrev cX9_correct : ByteArray := prog_1_method_12_code
def yX9_correct : MethodName := ⟨RX9, "correct", "(III)I"⟩
abbrev cX9_share : ByteArray := prog_1_method_13_code
def yX9_share : MethodName := ⟨RX9, "share", "(II)I"⟩
abbrev cX9_bow : ByteArray := prog_1_method_14_code
def yX9_bow : MethodName := ⟨RX9, "bow", "(II)I"⟩
abbrev cX9_stain : ByteArray := prog_1_method_15_code
def yX9_stain : MethodName := ⟨RX9, "stain", "(II)I"⟩
abbrev cX9_hide : ByteArray := prog_1_method_16_code
def yX9_hide : MethodName := ⟨RX9, "hide", "(I)I"⟩
abbrev cX9_fit : ByteArray := prog_1_method_17_code
def yX9_fit : MethodName := ⟨RX9, "fit", "(II)I"⟩
abbrev cX9_wear : ByteArray := prog_1_method_18_code
def yX9_wear : MethodName := ⟨RX9, "wear", "(II)I"⟩
abbrev cX9_takes : ByteArray := prog_1_method_19_code
def yX9_takes : MethodName := ⟨RX9, "takes", "(II)I"⟩
abbrev cX9_six : ByteArray := prog_1_method_20_code
def yX9_six : MethodName := ⟨RX9, "six", "(III)I"⟩
abbrev cX9_order : ByteArray := prog_1_method_21_code
def yX9_order : MethodName := ⟨RX9, "order", "(III)I"⟩
abbrev cX9_taxi : ByteArray := prog_1_method_22_code
def yX9_taxi : MethodName := ⟨RX9, "taxi", "(III)I"⟩
abbrev cX9_oneMore : ByteArray := prog_1_method_23_code
def yX9_oneMore : MethodName := ⟨RX9, "oneMore", "(III)I"⟩
abbrev cX9_judge : ByteArray := prog_1_method_24_code
def yX9_judge : MethodName := ⟨RX9, "judge", "(III)I"⟩
abbrev cX9_which : ByteArray := prog_1_method_25_code
def yX9_which : MethodName := ⟨RX9, "which", "(III)I"⟩
abbrev cX9_began : ByteArray := prog_1_method_26_code
def yX9_began : MethodName := ⟨RX9, "began", "(III)I"⟩
abbrev cX9_thickness : ByteArray := prog_1_method_27_code
def yX9_thickness : MethodName := ⟨RX9, "thickness", "(III)I"⟩
abbrev cX9_drawn : ByteArray := prog_1_method_28_code
def yX9_drawn : MethodName := ⟨RX9, "drawn", "(IIII)I"⟩
abbrev cX9_tieOn : ByteArray := prog_1_method_29_code
def yX9_tieOn : MethodName := ⟨RX9, "tieOn", "(II)I"⟩
abbrev cX9_untie : ByteArray := prog_1_method_30_code
def yX9_untie : MethodName := ⟨RX9, "untie", "(I)I"⟩
abbrev cX9_led : ByteArray := prog_1_method_31_code
def yX9_led : MethodName := ⟨RX9, "led", "(I)I"⟩
abbrev cX9_image : ByteArray := prog_1_method_32_code
def yX9_image : MethodName := ⟨RX9, "image", "()I"⟩
abbrev cX9_back : ByteArray := prog_1_method_33_code
def yX9_back : MethodName := ⟨RX9, "back", "()I"⟩
abbrev cX9_undo : ByteArray := prog_1_method_34_code
def yX9_undo : MethodName := ⟨RX9, "undo", "()I"⟩
abbrev cX9_redo : ByteArray := prog_1_method_35_code
def yX9_redo : MethodName := ⟨RX9, "redo", "()I"⟩
abbrev cX9_body : ByteArray := prog_1_method_36_code
def yX9_body : MethodName := ⟨RX9, "body", "(I)I"⟩
abbrev cX9_act : ByteArray := prog_1_method_37_code
def yX9_act : MethodName := ⟨RX9, "act", "(III)I"⟩
abbrev cX9_trace : ByteArray := prog_1_method_38_code
def yX9_trace : MethodName := ⟨RX9, "trace", "(I)I"⟩
abbrev cX9_keep : ByteArray := prog_1_method_39_code
def yX9_keep : MethodName := ⟨RX9, "keep", "(II)I"⟩
abbrev cX9_row : ByteArray := prog_1_method_40_code
def yX9_row : MethodName := ⟨RX9, "row", "(III)I"⟩
abbrev cX9_put : ByteArray := prog_1_method_41_code
def yX9_put : MethodName := ⟨RX9, "put", "(IIJ)I"⟩
abbrev cX9_element : ByteArray := prog_1_method_42_code
def yX9_element : MethodName := ⟨RX9, "element", "(II)J"⟩
abbrev cX9_shift : ByteArray := prog_1_method_43_code
def yX9_shift : MethodName := ⟨RX9, "shift", "(IIIII)I"⟩
abbrev cX9_taken : ByteArray := prog_1_method_44_code
def yX9_taken : MethodName := ⟨RX9, "taken", "(II)I"⟩
abbrev cX9_count : ByteArray := prog_1_method_45_code
def yX9_count : MethodName := ⟨RX9, "count", "(I)I"⟩
abbrev cX9_isAllowed : ByteArray := prog_1_method_46_code
def yX9_isAllowed : MethodName := ⟨RX9, "isAllowed", "(II)Z"⟩
abbrev cX9_isBeginning : ByteArray := prog_1_method_47_code
def yX9_isBeginning : MethodName := ⟨RX9, "isBeginning", "(I)Z"⟩
abbrev cX9_isStart : ByteArray := prog_1_method_48_code
def yX9_isStart : MethodName := ⟨RX9, "isStart", "(I)Z"⟩
abbrev cX9_isShelf : ByteArray := prog_1_method_49_code
def yX9_isShelf : MethodName := ⟨RX9, "isShelf", "(I)Z"⟩
abbrev cX9_isKnot : ByteArray := prog_1_method_50_code
def yX9_isKnot : MethodName := ⟨RX9, "isKnot", "(I)Z"⟩
abbrev cX9_isKind : ByteArray := prog_1_method_51_code
def yX9_isKind : MethodName := ⟨RX9, "isKind", "(I)Z"⟩
abbrev cX9_isTieInKnot : ByteArray := prog_1_method_52_code
def yX9_isTieInKnot : MethodName := ⟨RX9, "isTieInKnot", "(I)Z"⟩
abbrev cX9_hung : ByteArray := prog_1_method_53_code
def yX9_hung : MethodName := ⟨RX9, "hung", "(I)LEndTooLong$Hanging;"⟩
abbrev cX9_tieCame : ByteArray := prog_1_method_54_code
def yX9_tieCame : MethodName := ⟨RX9, "tieCame", "(LEndTooLong$Shelf;I)Z"⟩
abbrev cX9_minutesOf : ByteArray := prog_1_method_55_code
def yX9_minutesOf : MethodName := ⟨RX9, "minutesOf", "(ILEndTooLong$Hanging;)I"⟩
abbrev cX9_gather : ByteArray := prog_1_method_56_code
def yX9_gather : MethodName := ⟨RX9, "gather", "(II)V"⟩
abbrev cX9_refusalOfRow : ByteArray := prog_1_method_57_code
def yX9_refusalOfRow : MethodName := ⟨RX9, "refusalOfRow", "(II)I"⟩
abbrev cX9_refusalOfDressing : ByteArray := prog_1_method_58_code
def yX9_refusalOfDressing : MethodName := ⟨RX9, "refusalOfDressing", "(IIZ)I"⟩
abbrev cX9_refusalOfTries : ByteArray := prog_1_method_59_code
def yX9_refusalOfTries : MethodName := ⟨RX9, "refusalOfTries", "(IZ)I"⟩
abbrev cX9_refusalOfPlace : ByteArray := prog_1_method_60_code
def yX9_refusalOfPlace : MethodName := ⟨RX9, "refusalOfPlace", "(II)I"⟩
def RX10 : String := "EndTooLongModel"
def TX10 : u_T := fun k => match k with
  | 0 => ("EndTooLongModel", "ties", "I", false)
  | 1 => ("EndTooLongModel", "length", "[I", true)
  | 2 => ("EndTooLongModel", "thick", "[I", true)
  | 3 => ("EndTooLongModel", "slips", "[I", true)
  | 4 => ("EndTooLongModel", "stain", "[I", true)
  | 5 => ("EndTooLongModel", "worn", "[I", true)
  | 6 => ("EndTooLongModel", "tied", "[I", true)
  | 7 => ("EndTooLongModel", "turns", "[I", true)
  | 8 => ("EndTooLongModel", "neck", "I", false)
  | 9 => ("EndTooLongModel", "belt", "I", false)
  | 10 => ("EndTooLongModel", "near", "I", false)
  | 11 => ("EndTooLongModel", "tiers", "I", false)
  | 12 => ("EndTooLongModel", "pace", "[I", true)
  | 13 => ("EndTooLongModel", "share", "[I", true)
  | 14 => ("EndTooLongModel", "begins", "[I", true)
  | 15 => ("EndTooLongModel", "taped", "I", false)
  | 16 => ("EndTooLongModel", "tape", "[I", true)
  | 17 => ("EndTooLongModel", "isTold", "Z", false)
  | 18 => ("EndTooLongModel", "lines", "I", false)
  | 19 => ("EndTooLongModel", "asks", "[I", true)
  | 20 => ("EndTooLongModel", "says", "[I", true)
  | 21 => ("EndTooLongModel", "ends", "[I", true)
  | 22 => ("EndTooLongModel", "code", "[I", true)
  | 23 => ("EndTooLongModel", "at", "I", false)
  | 24 => ("EndTooLongModel", "open", "I", false)
  | 25 => ("EndTooLongModel", "coded", "I", false)
  | 26 => ("EndTooLongModel", "newLines", "I", false)
  | 27 => ("EndTooLongModel", "newAsks", "[I", true)
  | 28 => ("EndTooLongModel", "newSays", "[I", true)
  | 29 => ("EndTooLongModel", "newEnds", "[I", true)
  | 30 => ("EndTooLongModel", "newCode", "[I", true)
  | 31 => ("EndTooLongModel", "stack", "[I", true)
  | 32 => ("EndTooLongModel", "led", "[I", true)
  | 33 => ("EndTooLongModel", "imaged", "Z", false)
  | 34 => ("EndTooLongModel", "oldTies", "I", false)
  | 35 => ("EndTooLongModel", "oldWorn", "[I", true)
  | 36 => ("EndTooLongModel", "oldTied", "[I", true)
  | 37 => ("EndTooLongModel", "oldLed", "[I", true)
  | 38 => ("EndTooLongModel", "changes", "I", false)
  | 39 => ("EndTooLongModel", "done", "I", false)
  | 40 => ("EndTooLongModel", "changed", "[I", true)
  | 41 => ("EndTooLongModel", "bodies", "I", false)
  | 42 => ("EndTooLongModel", "kind", "[I", true)
  | 43 => ("EndTooLongModel", "traced", "I", false)
  | 44 => ("EndTooLongModel", "traces", "[I", true)
  | 45 => ("EndTooLongModel", "holding", "[I", true)
  | 46 => ("EndTooLongModel", "rowLength", "[I", true)
  | 47 => ("EndTooLongModel", "rowOf", "[J", true)
  | 48 => ("EndTooLongModel", "here", "I", false)
  | 49 => ("EndTooLongModel", "inRow", "I", false)
  | 50 => ("EndTooLongModel", "dressed", "[I", true)
  | 51 => ("EndTooLongModel", "by", "[I", true)
  | 52 => ("EndTooLongModel", "doneAt", "[I", true)
  | 53 => ("EndTooLongModel", "free", "[I", true)
  | 54 => ("EndTooLongModel", "best", "[I", true)
  | 55 => ("EndTooLongModel", "orders", "[I", true)
  | _ => ("EndTooLongModel", "row", "[I", true)
def tyX10 : Nat → FieldType := fun k => match k with
  | 0 => .int
  | 1 => .array .int
  | 2 => .array .int
  | 3 => .array .int
  | 4 => .array .int
  | 5 => .array .int
  | 6 => .array .int
  | 7 => .array .int
  | 8 => .int
  | 9 => .int
  | 10 => .int
  | 11 => .int
  | 12 => .array .int
  | 13 => .array .int
  | 14 => .array .int
  | 15 => .int
  | 16 => .array .int
  | 17 => .boolean
  | 18 => .int
  | 19 => .array .int
  | 20 => .array .int
  | 21 => .array .int
  | 22 => .array .int
  | 23 => .int
  | 24 => .int
  | 25 => .int
  | 26 => .int
  | 27 => .array .int
  | 28 => .array .int
  | 29 => .array .int
  | 30 => .array .int
  | 31 => .array .int
  | 32 => .array .int
  | 33 => .boolean
  | 34 => .int
  | 35 => .array .int
  | 36 => .array .int
  | 37 => .array .int
  | 38 => .int
  | 39 => .int
  | 40 => .array .int
  | 41 => .int
  | 42 => .array .int
  | 43 => .int
  | 44 => .array .int
  | 45 => .array .int
  | 46 => .array .int
  | 47 => .array .long
  | 48 => .int
  | 49 => .int
  | 50 => .array .int
  | 51 => .array .int
  | 52 => .array .int
  | 53 => .array .int
  | 54 => .array .int
  | 55 => .array .int
  | _ => .array .int
theorem nmX10 : ∀ a, a < 57 → ∀ b, b < 57 → a ≠ b → (TX10 a).2.1 ≠ (TX10 b).2.1 := by decide +kernel
theorem tyX10_ok : ∀ k, k < 57 → parseFieldDescriptor (TX10 k).2.2.1 = some (tyX10 k) := by decide +kernel
abbrev cX10_init : ByteArray := prog_12_method_1_code
def yX10_init : MethodName := ⟨RX10, "<init>", "()V"⟩
abbrev cX10_within : ByteArray := prog_12_method_2_code
def yX10_within : MethodName := ⟨RX10, "within", "(III)Z"⟩
abbrev cX10_isTie : ByteArray := prog_12_method_3_code
def yX10_isTie : MethodName := ⟨RX10, "isTie", "(I)Z"⟩
abbrev cX10_isKnot : ByteArray := prog_12_method_4_code
def yX10_isKnot : MethodName := ⟨RX10, "isKnot", "(I)Z"⟩
abbrev cX10_isTier : ByteArray := prog_12_method_5_code
def yX10_isTier : MethodName := ⟨RX10, "isTier", "(I)Z"⟩
abbrev cX10_isTied : ByteArray := prog_12_method_6_code
def yX10_isTied : MethodName := ⟨RX10, "isTied", "(I)Z"⟩
abbrev cX10_isPlace : ByteArray := prog_12_method_7_code
def yX10_isPlace : MethodName := ⟨RX10, "isPlace", "(I)Z"⟩
abbrev cX10_isShare : ByteArray := prog_12_method_8_code
def yX10_isShare : MethodName := ⟨RX10, "isShare", "(I)Z"⟩
abbrev cX10_isTry : ByteArray := prog_12_method_9_code
def yX10_isTry : MethodName := ⟨RX10, "isTry", "(I)Z"⟩
abbrev cX10_isShelf : ByteArray := prog_12_method_10_code
def yX10_isShelf : MethodName := ⟨RX10, "isShelf", "(I)Z"⟩
abbrev cX10_newTie : ByteArray := prog_12_method_11_code
def yX10_newTie : MethodName := ⟨RX10, "newTie", "(III)I"⟩
abbrev cX10_tie : ByteArray := prog_12_method_12_code
def yX10_tie : MethodName := ⟨RX10, "tie", "(II)I"⟩
abbrev cX10_ties : ByteArray := prog_12_method_13_code
def yX10_ties : MethodName := ⟨RX10, "ties", "(III)I"⟩
abbrev cX10_tier : ByteArray := prog_12_method_14_code
def yX10_tier : MethodName := ⟨RX10, "tier", "(II)I"⟩
abbrev cX10_isOf : ByteArray := prog_12_method_15_code
def yX10_isOf : MethodName := ⟨RX10, "isOf", "(II)Z"⟩
abbrev cX10_isFit : ByteArray := prog_12_method_16_code
def yX10_isFit : MethodName := ⟨RX10, "isFit", "(II)Z"⟩
abbrev cX10_get : ByteArray := prog_12_method_17_code
def yX10_get : MethodName := ⟨RX10, "get", "(II)I"⟩
abbrev cX10_becomes : ByteArray := prog_12_method_18_code
def yX10_becomes : MethodName := ⟨RX10, "becomes", "(III)V"⟩
abbrev cX10_mend : ByteArray := prog_12_method_19_code
def yX10_mend : MethodName := ⟨RX10, "mend", "(III)I"⟩
abbrev cX10_of : ByteArray := prog_12_method_20_code
def yX10_of : MethodName := ⟨RX10, "of", "(II)I"⟩
abbrev cX10_undo : ByteArray := prog_12_method_21_code
def yX10_undo : MethodName := ⟨RX10, "undo", "()I"⟩
abbrev cX10_redo : ByteArray := prog_12_method_22_code
def yX10_redo : MethodName := ⟨RX10, "redo", "()I"⟩
abbrev cX10_feed : ByteArray := prog_12_method_23_code
def yX10_feed : MethodName := ⟨RX10, "feed", "(I)I"⟩
abbrev cX10_sign : ByteArray := prog_12_method_24_code
def yX10_sign : MethodName := ⟨RX10, "sign", "()I"⟩
abbrev cX10_is : ByteArray := prog_12_method_25_code
def yX10_is : MethodName := ⟨RX10, "is", "(I)Z"⟩
abbrev cX10_codes : ByteArray := prog_12_method_26_code
def yX10_codes : MethodName := ⟨RX10, "codes", "(I)Z"⟩
abbrev cX10_isDigit : ByteArray := prog_12_method_27_code
def yX10_isDigit : MethodName := ⟨RX10, "isDigit", "()Z"⟩
abbrev cX10_nameOf : ByteArray := prog_12_method_28_code
def yX10_nameOf : MethodName := ⟨RX10, "nameOf", "(I)I"⟩
abbrev cX10_isO : ByteArray := prog_12_method_29_code
def yX10_isO : MethodName := ⟨RX10, "isO", "()Z"⟩
abbrev cX10_isP : ByteArray := prog_12_method_30_code
def yX10_isP : MethodName := ⟨RX10, "isP", "()Z"⟩
abbrev cX10_isS : ByteArray := prog_12_method_31_code
def yX10_isS : MethodName := ⟨RX10, "isS", "()Z"⟩
abbrev cX10_isB : ByteArray := prog_12_method_32_code
def yX10_isB : MethodName := ⟨RX10, "isB", "()Z"⟩
abbrev cX10_isA : ByteArray := prog_12_method_33_code
def yX10_isA : MethodName := ⟨RX10, "isA", "()Z"⟩
abbrev cX10_isE : ByteArray := prog_12_method_34_code
def yX10_isE : MethodName := ⟨RX10, "isE", "()Z"⟩
abbrev cX10_isLine : ByteArray := prog_12_method_35_code
def yX10_isLine : MethodName := ⟨RX10, "isLine", "()Z"⟩
abbrev cX10_law : ByteArray := prog_12_method_36_code
def yX10_law : MethodName := ⟨RX10, "law", "()I"⟩
abbrev cX10_both : ByteArray := prog_12_method_37_code
def yX10_both : MethodName := ⟨RX10, "both", "(III)I"⟩
abbrev cX10_worked : ByteArray := prog_12_method_38_code
def yX10_worked : MethodName := ⟨RX10, "worked", "(IIIII)I"⟩
abbrev cX10_cloth : ByteArray := prog_12_method_39_code
def yX10_cloth : MethodName := ⟨RX10, "cloth", "(III)I"⟩
abbrev cX10_thin : ByteArray := prog_12_method_40_code
def yX10_thin : MethodName := ⟨RX10, "thin", "(II)I"⟩
abbrev cX10_isRight : ByteArray := prog_12_method_41_code
def yX10_isRight : MethodName := ⟨RX10, "isRight", "(III)Z"⟩
abbrev cX10_hangsRight : ByteArray := prog_12_method_42_code
def yX10_hangsRight : MethodName := ⟨RX10, "hangsRight", "(III)Z"⟩
abbrev cX10_hangs : ByteArray := prog_12_method_43_code
def yX10_hangs : MethodName := ⟨RX10, "hangs", "(III)I"⟩
abbrev cX10_rights : ByteArray := prog_12_method_44_code
def yX10_rights : MethodName := ⟨RX10, "rights", "(III)I"⟩
abbrev cX10_where : ByteArray := prog_12_method_45_code
def yX10_where : MethodName := ⟨RX10, "where", "(II)I"⟩
abbrev cX10_knot : ByteArray := prog_12_method_46_code
def yX10_knot : MethodName := ⟨RX10, "knot", "(II)I"⟩
abbrev cX10_next : ByteArray := prog_12_method_47_code
def yX10_next : MethodName := ⟨RX10, "next", "(III)I"⟩
abbrev cX10_tries : ByteArray := prog_12_method_48_code
def yX10_tries : MethodName := ⟨RX10, "tries", "(IIII)I"⟩
abbrev cX10_correct : ByteArray := prog_12_method_49_code
def yX10_correct : MethodName := ⟨RX10, "correct", "(III)I"⟩
abbrev cX10_share : ByteArray := prog_12_method_50_code
def yX10_share : MethodName := ⟨RX10, "share", "(II)I"⟩
abbrev cX10_bow : ByteArray := prog_12_method_51_code
def yX10_bow : MethodName := ⟨RX10, "bow", "(II)I"⟩
abbrev cX10_stained : ByteArray := prog_12_method_52_code
def yX10_stained : MethodName := ⟨RX10, "stained", "(III)I"⟩
abbrev cX10_stain : ByteArray := prog_12_method_53_code
def yX10_stain : MethodName := ⟨RX10, "stain", "(II)I"⟩
abbrev cX10_hide : ByteArray := prog_12_method_54_code
def yX10_hide : MethodName := ⟨RX10, "hide", "(I)I"⟩
abbrev cX10_fit : ByteArray := prog_12_method_55_code
def yX10_fit : MethodName := ⟨RX10, "fit", "(II)I"⟩
abbrev cX10_wear : ByteArray := prog_12_method_56_code
def yX10_wear : MethodName := ⟨RX10, "wear", "(II)I"⟩
abbrev cX10_takesFor : ByteArray := prog_12_method_57_code
def yX10_takesFor : MethodName := ⟨RX10, "takesFor", "(III)I"⟩
abbrev cX10_takes : ByteArray := prog_12_method_58_code
def yX10_takes : MethodName := ⟨RX10, "takes", "(II)I"⟩
abbrev cX10_noRow : ByteArray := prog_12_method_59_code
def yX10_noRow : MethodName := ⟨RX10, "noRow", "(II)I"⟩
abbrev cX10_told : ByteArray := prog_12_method_60_code
def yX10_told : MethodName := ⟨RX10, "told", "(II)I"⟩
abbrev cX10_reads : ByteArray := prog_12_method_61_code
def yX10_reads : MethodName := ⟨RX10, "reads", "(I)V"⟩
abbrev cX10_dresses : ByteArray := prog_12_method_62_code
def yX10_dresses : MethodName := ⟨RX10, "dresses", "(II)I"⟩
abbrev cX10_six : ByteArray := prog_12_method_63_code
def yX10_six : MethodName := ⟨RX10, "six", "(III)I"⟩
abbrev cX10_order : ByteArray := prog_12_method_64_code
def yX10_order : MethodName := ⟨RX10, "order", "(III)I"⟩
abbrev cX10_nextOrder : ByteArray := prog_12_method_65_code
def yX10_nextOrder : MethodName := ⟨RX10, "nextOrder", "()Z"⟩
abbrev cX10_exchange : ByteArray := prog_12_method_66_code
def yX10_exchange : MethodName := ⟨RX10, "exchange", "(II)V"⟩
abbrev cX10_taxi : ByteArray := prog_12_method_67_code
def yX10_taxi : MethodName := ⟨RX10, "taxi", "(III)I"⟩
abbrev cX10_oneMore : ByteArray := prog_12_method_68_code
def yX10_oneMore : MethodName := ⟨RX10, "oneMore", "(III)I"⟩
abbrev cX10_wrong : ByteArray := prog_12_method_69_code
def yX10_wrong : MethodName := ⟨RX10, "wrong", "(IIIII)I"⟩
abbrev cX10_judge : ByteArray := prog_12_method_70_code
def yX10_judge : MethodName := ⟨RX10, "judge", "(III)I"⟩
abbrev cX10_which : ByteArray := prog_12_method_71_code
def yX10_which : MethodName := ⟨RX10, "which", "(III)I"⟩
abbrev cX10_began : ByteArray := prog_12_method_72_code
def yX10_began : MethodName := ⟨RX10, "began", "(III)I"⟩
abbrev cX10_thickness : ByteArray := prog_12_method_73_code
def yX10_thickness : MethodName := ⟨RX10, "thickness", "(III)I"⟩
abbrev cX10_drawn : ByteArray := prog_12_method_74_code
def yX10_drawn : MethodName := ⟨RX10, "drawn", "(IIII)I"⟩
abbrev cX10_tieOn : ByteArray := prog_12_method_75_code
def yX10_tieOn : MethodName := ⟨RX10, "tieOn", "(II)I"⟩
abbrev cX10_untie : ByteArray := prog_12_method_76_code
def yX10_untie : MethodName := ⟨RX10, "untie", "(I)I"⟩
abbrev cX10_led : ByteArray := prog_12_method_77_code
def yX10_led : MethodName := ⟨RX10, "led", "(I)I"⟩
abbrev cX10_image : ByteArray := prog_12_method_78_code
def yX10_image : MethodName := ⟨RX10, "image", "()I"⟩
abbrev cX10_back : ByteArray := prog_12_method_79_code
def yX10_back : MethodName := ⟨RX10, "back", "()I"⟩
abbrev cX10_above : ByteArray := prog_12_method_80_code
def yX10_above : MethodName := ⟨RX10, "above", "(I)I"⟩
abbrev cX10_ran : ByteArray := prog_12_method_81_code
def yX10_ran : MethodName := ⟨RX10, "ran", "(I)V"⟩
abbrev cX10_lies : ByteArray := prog_12_method_82_code
def yX10_lies : MethodName := ⟨RX10, "lies", "(III)I"⟩
abbrev cX10_tookBy : ByteArray := prog_12_method_83_code
def yX10_tookBy : MethodName := ⟨RX10, "tookBy", "(III)I"⟩
abbrev cX10_slipped : ByteArray := prog_12_method_84_code
def yX10_slipped : MethodName := ⟨RX10, "slipped", "(III)I"⟩
abbrev cX10_tells : ByteArray := prog_12_method_85_code
def yX10_tells : MethodName := ⟨RX10, "tells", "(III)I"⟩
abbrev cX10_body : ByteArray := prog_12_method_86_code
def yX10_body : MethodName := ⟨RX10, "body", "(I)I"⟩
abbrev cX10_act : ByteArray := prog_12_method_87_code
def yX10_act : MethodName := ⟨RX10, "act", "(III)I"⟩
abbrev cX10_trace : ByteArray := prog_12_method_88_code
def yX10_trace : MethodName := ⟨RX10, "trace", "(I)I"⟩
abbrev cX10_keep : ByteArray := prog_12_method_89_code
def yX10_keep : MethodName := ⟨RX10, "keep", "(II)I"⟩
abbrev cX10_row : ByteArray := prog_12_method_90_code
def yX10_row : MethodName := ⟨RX10, "row", "(III)I"⟩
abbrev cX10_isRow : ByteArray := prog_12_method_91_code
def yX10_isRow : MethodName := ⟨RX10, "isRow", "(I)Z"⟩
abbrev cX10_kept : ByteArray := prog_12_method_92_code
def yX10_kept : MethodName := ⟨RX10, "kept", "(IJ)J"⟩
abbrev cX10_put : ByteArray := prog_12_method_93_code
def yX10_put : MethodName := ⟨RX10, "put", "(IIJ)I"⟩
abbrev cX10_element : ByteArray := prog_12_method_94_code
def yX10_element : MethodName := ⟨RX10, "element", "(II)J"⟩
abbrev cX10_shift : ByteArray := prog_12_method_95_code
def yX10_shift : MethodName := ⟨RX10, "shift", "(IIIII)I"⟩
abbrev cX10_taken : ByteArray := prog_12_method_96_code
def yX10_taken : MethodName := ⟨RX10, "taken", "(II)I"⟩
abbrev cX10_count : ByteArray := prog_12_method_97_code
def yX10_count : MethodName := ⟨RX10, "count", "(I)I"⟩
def RJ9 : String := "java/lang/Math"
def TJ9 : u_T := fun k => match k with
  | _ => ("", "", "", false)
def tyJ9 : Nat → FieldType := fun k => match k with
  | _ => .int
theorem nmJ9 : ∀ a, a < 0 → ∀ b, b < 0 → a ≠ b → (TJ9 a).2.1 ≠ (TJ9 b).2.1 := by decide +kernel
theorem tyJ9_ok : ∀ k, k < 0 → parseFieldDescriptor (TJ9 k).2.2.1 = some (tyJ9 k) := by decide +kernel
abbrev cJ9_abs_0f7a4 : ByteArray := prog_13_method_59_code
def yJ9_abs_0f7a4 : MethodName := ⟨RJ9, "abs", "(I)I"⟩
abbrev cJ9_max_7cf53 : ByteArray := prog_13_method_65_code
def yJ9_max_7cf53 : MethodName := ⟨RJ9, "max", "(II)I"⟩
abbrev cJ9_min_7cf53 : ByteArray := prog_13_method_69_code
def yJ9_min_7cf53 : MethodName := ⟨RJ9, "min", "(II)I"⟩
def RJ10 : String := "java/lang/System"
def TJ10 : u_T := fun k => match k with
  | _ => ("", "", "", false)
def tyJ10 : Nat → FieldType := fun k => match k with
  | _ => .int
theorem nmJ10 : ∀ a, a < 0 → ∀ b, b < 0 → a ≠ b → (TJ10 a).2.1 ≠ (TJ10 b).2.1 := by decide +kernel
theorem tyJ10_ok : ∀ k, k < 0 → parseFieldDescriptor (TJ10 k).2.2.1 = some (tyJ10 k) := by decide +kernel
def RJ7 : String := "java/util/Arrays"
def TJ7 : u_T := fun k => match k with
  | _ => ("", "", "", false)
def tyJ7 : Nat → FieldType := fun k => match k with
  | _ => .int
theorem nmJ7 : ∀ a, a < 0 → ∀ b, b < 0 → a ≠ b → (TJ7 a).2.1 ≠ (TJ7 b).2.1 := by decide +kernel
theorem tyJ7_ok : ∀ k, k < 0 → parseFieldDescriptor (TJ7 k).2.2.1 = some (tyJ7 k) := by decide +kernel
abbrev cJ7_fill_d0a16 : ByteArray := prog_15_method_101_code
def yJ7_fill_d0a16 : MethodName := ⟨RJ7, "fill", "([JJ)V"⟩
abbrev cJ7_fill_53178 : ByteArray := prog_15_method_103_code
def yJ7_fill_53178 : MethodName := ⟨RJ7, "fill", "([II)V"⟩
def RL : String := "EndTooLongLaw"
abbrev cL_law : ByteArray := code
def yL_law : MethodName := ⟨RL, "law", "([I)Z"⟩
abbrev vwCl : List vw_C := [(RX0, TX0, 6), (RX1, TX1, 8), (RX2, TX2, 12), (RX3, TX3, 4), (RX4, TX4, 6), (RX5, TX5, 3), (RX6, TX6, 5), (RX7, TX7, 4), (RX8, TX8, 6), (RX9, TX9, 11), (RX10, TX10, 57)]
