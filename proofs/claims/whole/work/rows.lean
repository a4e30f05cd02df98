section
-- ===== PART A: goes FIRST, ahead of the names: the tables' words, and 'selects' of the private methods out of them =====
/-- a private method of a class that the tables say can be made, by its rows of tables_1 -/
def lw_okq (q : MethodName × Nat) : Prop := (q.1.cls ≠ "java/lang/invoke/MethodHandle" ∧ q.1.cls ≠ "java/lang/invoke/VarHandle") ∧ Cond.instantiable q.1.cls q.2 ∈ tables_1 ∧ Cond.privateMethod q.1 ∈ tables_1 ∧ Cond.instanceMethod q.1 ∈ tables_1
theorem lw_p0 : lw_okq (⟨"CursorBase$Parser", "takeWordBetween", "(II)I"⟩, 3) := ⟨⟨by decide +kernel, by decide +kernel⟩, List.mem_of_getElem? (i := 111) (by decide +kernel), List.mem_of_getElem? (i := 188) (by decide +kernel), List.mem_of_getElem? (i := 189) (by decide +kernel)⟩
theorem lw_p1 : lw_okq (⟨"CursorBase$Parser", "takeFirstTable", "()Z"⟩, 3) := ⟨⟨by decide +kernel, by decide +kernel⟩, List.mem_of_getElem? (i := 111) (by decide +kernel), List.mem_of_getElem? (i := 196) (by decide +kernel), List.mem_of_getElem? (i := 197) (by decide +kernel)⟩
theorem lw_p2 : lw_okq (⟨"CursorBase$Parser", "takeTable", "()I"⟩, 3) := ⟨⟨by decide +kernel, by decide +kernel⟩, List.mem_of_getElem? (i := 111) (by decide +kernel), List.mem_of_getElem? (i := 200) (by decide +kernel), List.mem_of_getElem? (i := 201) (by decide +kernel)⟩
theorem lw_p3 : lw_okq (⟨"CursorBase$Parser", "takeNumber", "()Z"⟩, 3) := ⟨⟨by decide +kernel, by decide +kernel⟩, List.mem_of_getElem? (i := 111) (by decide +kernel), List.mem_of_getElem? (i := 204) (by decide +kernel), List.mem_of_getElem? (i := 205) (by decide +kernel)⟩
theorem lw_p4 : lw_okq (⟨"CursorBase$Parser", "takeNumbers", "()Z"⟩, 3) := ⟨⟨by decide +kernel, by decide +kernel⟩, List.mem_of_getElem? (i := 111) (by decide +kernel), List.mem_of_getElem? (i := 212) (by decide +kernel), List.mem_of_getElem? (i := 213) (by decide +kernel)⟩
theorem lw_p5 : lw_okq (⟨"CursorBase$Parser", "takeConditions", "()Z"⟩, 3) := ⟨⟨by decide +kernel, by decide +kernel⟩, List.mem_of_getElem? (i := 111) (by decide +kernel), List.mem_of_getElem? (i := 216) (by decide +kernel), List.mem_of_getElem? (i := 217) (by decide +kernel)⟩
theorem lw_p6 : lw_okq (⟨"CursorBase$Parser", "takeWord", "(I)Z"⟩, 3) := ⟨⟨by decide +kernel, by decide +kernel⟩, List.mem_of_getElem? (i := 111) (by decide +kernel), List.mem_of_getElem? (i := 220) (by decide +kernel), List.mem_of_getElem? (i := 221) (by decide +kernel)⟩
theorem lw_p7 : lw_okq (⟨"CursorBase$Parser", "takeCondition", "()LCursorBase$Condition;"⟩, 3) := ⟨⟨by decide +kernel, by decide +kernel⟩, List.mem_of_getElem? (i := 111) (by decide +kernel), List.mem_of_getElem? (i := 224) (by decide +kernel), List.mem_of_getElem? (i := 225) (by decide +kernel)⟩
theorem lw_p8 : lw_okq (⟨"CursorBase$Parser", "takeOperand", "()LCursorBase$Operand;"⟩, 3) := ⟨⟨by decide +kernel, by decide +kernel⟩, List.mem_of_getElem? (i := 111) (by decide +kernel), List.mem_of_getElem? (i := 228) (by decide +kernel), List.mem_of_getElem? (i := 229) (by decide +kernel)⟩
theorem lw_p9 : lw_okq (⟨"CursorBase$Parser", "takeList", "()Z"⟩, 3) := ⟨⟨by decide +kernel, by decide +kernel⟩, List.mem_of_getElem? (i := 111) (by decide +kernel), List.mem_of_getElem? (i := 265) (by decide +kernel), List.mem_of_getElem? (i := 266) (by decide +kernel)⟩
theorem lw_p10 : lw_okq (⟨"CursorBase$Parser", "takeColumns", "(I)Z"⟩, 3) := ⟨⟨by decide +kernel, by decide +kernel⟩, List.mem_of_getElem? (i := 111) (by decide +kernel), List.mem_of_getElem? (i := 269) (by decide +kernel), List.mem_of_getElem? (i := 270) (by decide +kernel)⟩
theorem lw_p11 : lw_okq (⟨"CursorBase$Parser", "takeFrom", "()Z"⟩, 3) := ⟨⟨by decide +kernel, by decide +kernel⟩, List.mem_of_getElem? (i := 111) (by decide +kernel), List.mem_of_getElem? (i := 278) (by decide +kernel), List.mem_of_getElem? (i := 279) (by decide +kernel)⟩
theorem lw_p12 : lw_okq (⟨"CursorBase$Parser", "takeOrder", "()Z"⟩, 3) := ⟨⟨by decide +kernel, by decide +kernel⟩, List.mem_of_getElem? (i := 111) (by decide +kernel), List.mem_of_getElem? (i := 282) (by decide +kernel), List.mem_of_getElem? (i := 283) (by decide +kernel)⟩
theorem lw_p13 : lw_okq (⟨"CursorBase$Statement", "faultOfCreate", "(LCursorBase$Tables;)I"⟩, 11) := ⟨⟨by decide +kernel, by decide +kernel⟩, List.mem_of_getElem? (i := 117) (by decide +kernel), List.mem_of_getElem? (i := 294) (by decide +kernel), List.mem_of_getElem? (i := 295) (by decide +kernel)⟩
theorem lw_p14 : lw_okq (⟨"CursorBase$Statement", "columnsAreThere", "(II)Z"⟩, 11) := ⟨⟨by decide +kernel, by decide +kernel⟩, List.mem_of_getElem? (i := 117) (by decide +kernel), List.mem_of_getElem? (i := 307) (by decide +kernel), List.mem_of_getElem? (i := 308) (by decide +kernel)⟩
theorem lw_p15 : lw_okq (⟨"CursorBase$Statement", "addPicks", "(II)V"⟩, 11) := ⟨⟨by decide +kernel, by decide +kernel⟩, List.mem_of_getElem? (i := 117) (by decide +kernel), List.mem_of_getElem? (i := 324) (by decide +kernel), List.mem_of_getElem? (i := 325) (by decide +kernel)⟩
def lw_privs_1 : List (MethodName × Nat) := [(⟨"CursorBase$Parser", "takeWordBetween", "(II)I"⟩, 3), (⟨"CursorBase$Parser", "takeFirstTable", "()Z"⟩, 3), (⟨"CursorBase$Parser", "takeTable", "()I"⟩, 3), (⟨"CursorBase$Parser", "takeNumber", "()Z"⟩, 3), (⟨"CursorBase$Parser", "takeNumbers", "()Z"⟩, 3), (⟨"CursorBase$Parser", "takeConditions", "()Z"⟩, 3), (⟨"CursorBase$Parser", "takeWord", "(I)Z"⟩, 3), (⟨"CursorBase$Parser", "takeCondition", "()LCursorBase$Condition;"⟩, 3), (⟨"CursorBase$Parser", "takeOperand", "()LCursorBase$Operand;"⟩, 3), (⟨"CursorBase$Parser", "takeList", "()Z"⟩, 3), (⟨"CursorBase$Parser", "takeColumns", "(I)Z"⟩, 3), (⟨"CursorBase$Parser", "takeFrom", "()Z"⟩, 3), (⟨"CursorBase$Parser", "takeOrder", "()Z"⟩, 3), (⟨"CursorBase$Statement", "faultOfCreate", "(LCursorBase$Tables;)I"⟩, 11), (⟨"CursorBase$Statement", "columnsAreThere", "(II)Z"⟩, 11), (⟨"CursorBase$Statement", "addPicks", "(II)V"⟩, 11)]
theorem lw_r1 : ∀ q ∈ lw_privs_1, lw_okq q := List.forall_mem_cons.mpr ⟨lw_p0, List.forall_mem_cons.mpr ⟨lw_p1, List.forall_mem_cons.mpr ⟨lw_p2, List.forall_mem_cons.mpr ⟨lw_p3, List.forall_mem_cons.mpr ⟨lw_p4, List.forall_mem_cons.mpr ⟨lw_p5, List.forall_mem_cons.mpr ⟨lw_p6, List.forall_mem_cons.mpr ⟨lw_p7, List.forall_mem_cons.mpr ⟨lw_p8, List.forall_mem_cons.mpr ⟨lw_p9, List.forall_mem_cons.mpr ⟨lw_p10, List.forall_mem_cons.mpr ⟨lw_p11, List.forall_mem_cons.mpr ⟨lw_p12, List.forall_mem_cons.mpr ⟨lw_p13, List.forall_mem_cons.mpr ⟨lw_p14, List.forall_mem_cons.mpr ⟨lw_p15, fun _ h => absurd h List.not_mem_nil⟩⟩⟩⟩⟩⟩⟩⟩⟩⟩⟩⟩⟩⟩⟩⟩
theorem lw_p16 : lw_okq (⟨"java/lang/Throwable", "fillInStackTrace", "(I)Ljava/lang/Throwable;"⟩, 6) := ⟨⟨by decide +kernel, by decide +kernel⟩, List.mem_of_getElem? (i := 402) (by decide +kernel), List.mem_of_getElem? (i := 400) (by decide +kernel), List.mem_of_getElem? (i := 401) (by decide +kernel)⟩
theorem lw_p17 : lw_okq (⟨"CursorBase$Tables", "placeNotBelow", "(II)I"⟩, 3) := ⟨⟨by decide +kernel, by decide +kernel⟩, List.mem_of_getElem? (i := 47) (by decide +kernel), List.mem_of_getElem? (i := 478) (by decide +kernel), List.mem_of_getElem? (i := 479) (by decide +kernel)⟩
theorem lw_p18 : lw_okq (⟨"CursorBase$Tables", "cellOf", "(II)I"⟩, 3) := ⟨⟨by decide +kernel, by decide +kernel⟩, List.mem_of_getElem? (i := 47) (by decide +kernel), List.mem_of_getElem? (i := 490) (by decide +kernel), List.mem_of_getElem? (i := 491) (by decide +kernel)⟩
theorem lw_p19 : lw_okq (⟨"CursorBase$Tables", "hasKeyAt", "(III)Z"⟩, 3) := ⟨⟨by decide +kernel, by decide +kernel⟩, List.mem_of_getElem? (i := 47) (by decide +kernel), List.mem_of_getElem? (i := 494) (by decide +kernel), List.mem_of_getElem? (i := 495) (by decide +kernel)⟩
theorem lw_p20 : lw_okq (⟨"CursorBase$Tables", "moveStartsBehind", "(II)V"⟩, 3) := ⟨⟨by decide +kernel, by decide +kernel⟩, List.mem_of_getElem? (i := 47) (by decide +kernel), List.mem_of_getElem? (i := 502) (by decide +kernel), List.mem_of_getElem? (i := 503) (by decide +kernel)⟩
theorem lw_p21 : lw_okq (⟨"CursorBase$Run", "deleteRows", "(LCursorBase$Tables;)V"⟩, 8) := ⟨⟨by decide +kernel, by decide +kernel⟩, List.mem_of_getElem? (i := 63) (by decide +kernel), List.mem_of_getElem? (i := 506) (by decide +kernel), List.mem_of_getElem? (i := 507) (by decide +kernel)⟩
theorem lw_p22 : lw_okq (⟨"CursorBase$Run", "giveTotal", "(LCursorBase$Tables;)I"⟩, 8) := ⟨⟨by decide +kernel, by decide +kernel⟩, List.mem_of_getElem? (i := 63) (by decide +kernel), List.mem_of_getElem? (i := 535) (by decide +kernel), List.mem_of_getElem? (i := 536) (by decide +kernel)⟩
theorem lw_p23 : lw_okq (⟨"CursorBase$Run", "findRow", "(LCursorBase$Tables;)Z"⟩, 8) := ⟨⟨by decide +kernel, by decide +kernel⟩, List.mem_of_getElem? (i := 63) (by decide +kernel), List.mem_of_getElem? (i := 540) (by decide +kernel), List.mem_of_getElem? (i := 541) (by decide +kernel)⟩
theorem lw_p24 : lw_okq (⟨"CursorBase$Run", "place", "(II)I"⟩, 8) := ⟨⟨by decide +kernel, by decide +kernel⟩, List.mem_of_getElem? (i := 63) (by decide +kernel), List.mem_of_getElem? (i := 544) (by decide +kernel), List.mem_of_getElem? (i := 545) (by decide +kernel)⟩
theorem lw_p25 : lw_okq (⟨"CursorBase$Run", "giveRow", "(LCursorBase$Tables;)I"⟩, 8) := ⟨⟨by decide +kernel, by decide +kernel⟩, List.mem_of_getElem? (i := 63) (by decide +kernel), List.mem_of_getElem? (i := 549) (by decide +kernel), List.mem_of_getElem? (i := 550) (by decide +kernel)⟩
theorem lw_p26 : lw_okq (⟨"CursorBase$Run", "note", "(I)V"⟩, 8) := ⟨⟨by decide +kernel, by decide +kernel⟩, List.mem_of_getElem? (i := 63) (by decide +kernel), List.mem_of_getElem? (i := 553) (by decide +kernel), List.mem_of_getElem? (i := 554) (by decide +kernel)⟩
theorem lw_p27 : lw_okq (⟨"CursorBaseModel", "wrong", "()I"⟩, 29) := ⟨⟨by decide +kernel, by decide +kernel⟩, List.mem_of_getElem? (i := 629) (by decide +kernel), List.mem_of_getElem? (i := 743) (by decide +kernel), List.mem_of_getElem? (i := 744) (by decide +kernel)⟩
theorem lw_p28 : lw_okq (⟨"CursorBaseModel", "reads", "()Z"⟩, 29) := ⟨⟨by decide +kernel, by decide +kernel⟩, List.mem_of_getElem? (i := 629) (by decide +kernel), List.mem_of_getElem? (i := 747) (by decide +kernel), List.mem_of_getElem? (i := 748) (by decide +kernel)⟩
theorem lw_p29 : lw_okq (⟨"CursorBaseModel", "readsSelect", "()Z"⟩, 29) := ⟨⟨by decide +kernel, by decide +kernel⟩, List.mem_of_getElem? (i := 629) (by decide +kernel), List.mem_of_getElem? (i := 751) (by decide +kernel), List.mem_of_getElem? (i := 752) (by decide +kernel)⟩
theorem lw_p30 : lw_okq (⟨"CursorBaseModel", "readsList", "()Z"⟩, 29) := ⟨⟨by decide +kernel, by decide +kernel⟩, List.mem_of_getElem? (i := 629) (by decide +kernel), List.mem_of_getElem? (i := 755) (by decide +kernel), List.mem_of_getElem? (i := 756) (by decide +kernel)⟩
theorem lw_p31 : lw_okq (⟨"CursorBaseModel", "skips", "(I)Z"⟩, 29) := ⟨⟨by decide +kernel, by decide +kernel⟩, List.mem_of_getElem? (i := 629) (by decide +kernel), List.mem_of_getElem? (i := 759) (by decide +kernel), List.mem_of_getElem? (i := 760) (by decide +kernel)⟩
def lw_privs_2 : List (MethodName × Nat) := [(⟨"java/lang/Throwable", "fillInStackTrace", "(I)Ljava/lang/Throwable;"⟩, 6), (⟨"CursorBase$Tables", "placeNotBelow", "(II)I"⟩, 3), (⟨"CursorBase$Tables", "cellOf", "(II)I"⟩, 3), (⟨"CursorBase$Tables", "hasKeyAt", "(III)Z"⟩, 3), (⟨"CursorBase$Tables", "moveStartsBehind", "(II)V"⟩, 3), (⟨"CursorBase$Run", "deleteRows", "(LCursorBase$Tables;)V"⟩, 8), (⟨"CursorBase$Run", "giveTotal", "(LCursorBase$Tables;)I"⟩, 8), (⟨"CursorBase$Run", "findRow", "(LCursorBase$Tables;)Z"⟩, 8), (⟨"CursorBase$Run", "place", "(II)I"⟩, 8), (⟨"CursorBase$Run", "giveRow", "(LCursorBase$Tables;)I"⟩, 8), (⟨"CursorBase$Run", "note", "(I)V"⟩, 8), (⟨"CursorBaseModel", "wrong", "()I"⟩, 29), (⟨"CursorBaseModel", "reads", "()Z"⟩, 29), (⟨"CursorBaseModel", "readsSelect", "()Z"⟩, 29), (⟨"CursorBaseModel", "readsList", "()Z"⟩, 29), (⟨"CursorBaseModel", "skips", "(I)Z"⟩, 29)]
theorem lw_r2 : ∀ q ∈ lw_privs_2, lw_okq q := List.forall_mem_cons.mpr ⟨lw_p16, List.forall_mem_cons.mpr ⟨lw_p17, List.forall_mem_cons.mpr ⟨lw_p18, List.forall_mem_cons.mpr ⟨lw_p19, List.forall_mem_cons.mpr ⟨lw_p20, List.forall_mem_cons.mpr ⟨lw_p21, List.forall_mem_cons.mpr ⟨lw_p22, List.forall_mem_cons.mpr ⟨lw_p23, List.forall_mem_cons.mpr ⟨lw_p24, List.forall_mem_cons.mpr ⟨lw_p25, List.forall_mem_cons.mpr ⟨lw_p26, List.forall_mem_cons.mpr ⟨lw_p27, List.forall_mem_cons.mpr ⟨lw_p28, List.forall_mem_cons.mpr ⟨lw_p29, List.forall_mem_cons.mpr ⟨lw_p30, List.forall_mem_cons.mpr ⟨lw_p31, fun _ h => absurd h List.not_mem_nil⟩⟩⟩⟩⟩⟩⟩⟩⟩⟩⟩⟩⟩⟩⟩⟩
theorem lw_p32 : lw_okq (⟨"CursorBaseModel", "isWord", "(I)Z"⟩, 29) := ⟨⟨by decide +kernel, by decide +kernel⟩, List.mem_of_getElem? (i := 629) (by decide +kernel), List.mem_of_getElem? (i := 763) (by decide +kernel), List.mem_of_getElem? (i := 764) (by decide +kernel)⟩
theorem lw_p33 : lw_okq (⟨"CursorBaseModel", "isKind", "(I)Z"⟩, 29) := ⟨⟨by decide +kernel, by decide +kernel⟩, List.mem_of_getElem? (i := 629) (by decide +kernel), List.mem_of_getElem? (i := 767) (by decide +kernel), List.mem_of_getElem? (i := 768) (by decide +kernel)⟩
theorem lw_p34 : lw_okq (⟨"CursorBaseModel", "readsTable", "()I"⟩, 29) := ⟨⟨by decide +kernel, by decide +kernel⟩, List.mem_of_getElem? (i := 629) (by decide +kernel), List.mem_of_getElem? (i := 771) (by decide +kernel), List.mem_of_getElem? (i := 772) (by decide +kernel)⟩
theorem lw_p35 : lw_okq (⟨"CursorBaseModel", "readsConditions", "()Z"⟩, 29) := ⟨⟨by decide +kernel, by decide +kernel⟩, List.mem_of_getElem? (i := 629) (by decide +kernel), List.mem_of_getElem? (i := 775) (by decide +kernel), List.mem_of_getElem? (i := 776) (by decide +kernel)⟩
theorem lw_p36 : lw_okq (⟨"CursorBaseModel", "readsOperand", "()Z"⟩, 29) := ⟨⟨by decide +kernel, by decide +kernel⟩, List.mem_of_getElem? (i := 629) (by decide +kernel), List.mem_of_getElem? (i := 779) (by decide +kernel), List.mem_of_getElem? (i := 780) (by decide +kernel)⟩
theorem lw_p37 : lw_okq (⟨"CursorBaseModel", "isThere", "(I)Z"⟩, 29) := ⟨⟨by decide +kernel, by decide +kernel⟩, List.mem_of_getElem? (i := 629) (by decide +kernel), List.mem_of_getElem? (i := 783) (by decide +kernel), List.mem_of_getElem? (i := 784) (by decide +kernel)⟩
theorem lw_p38 : lw_okq (⟨"CursorBaseModel", "haveColumns", "()Z"⟩, 29) := ⟨⟨by decide +kernel, by decide +kernel⟩, List.mem_of_getElem? (i := 629) (by decide +kernel), List.mem_of_getElem? (i := 788) (by decide +kernel), List.mem_of_getElem? (i := 789) (by decide +kernel)⟩
theorem lw_p39 : lw_okq (⟨"CursorBaseModel", "begins", "()V"⟩, 29) := ⟨⟨by decide +kernel, by decide +kernel⟩, List.mem_of_getElem? (i := 629) (by decide +kernel), List.mem_of_getElem? (i := 792) (by decide +kernel), List.mem_of_getElem? (i := 793) (by decide +kernel)⟩
theorem lw_p40 : lw_okq (⟨"CursorBaseModel", "selects", "()I"⟩, 29) := ⟨⟨by decide +kernel, by decide +kernel⟩, List.mem_of_getElem? (i := 629) (by decide +kernel), List.mem_of_getElem? (i := 800) (by decide +kernel), List.mem_of_getElem? (i := 801) (by decide +kernel)⟩
theorem lw_p41 : lw_okq (⟨"CursorBaseModel", "isFold", "()Z"⟩, 29) := ⟨⟨by decide +kernel, by decide +kernel⟩, List.mem_of_getElem? (i := 629) (by decide +kernel), List.mem_of_getElem? (i := 804) (by decide +kernel), List.mem_of_getElem? (i := 805) (by decide +kernel)⟩
theorem lw_p42 : lw_okq (⟨"CursorBaseModel", "folds", "()V"⟩, 29) := ⟨⟨by decide +kernel, by decide +kernel⟩, List.mem_of_getElem? (i := 629) (by decide +kernel), List.mem_of_getElem? (i := 808) (by decide +kernel), List.mem_of_getElem? (i := 809) (by decide +kernel)⟩
theorem lw_p43 : lw_okq (⟨"CursorBaseModel", "holds", "(II)Z"⟩, 29) := ⟨⟨by decide +kernel, by decide +kernel⟩, List.mem_of_getElem? (i := 629) (by decide +kernel), List.mem_of_getElem? (i := 812) (by decide +kernel), List.mem_of_getElem? (i := 813) (by decide +kernel)⟩
theorem lw_p44 : lw_okq (⟨"CursorBaseModel", "value", "(III)I"⟩, 29) := ⟨⟨by decide +kernel, by decide +kernel⟩, List.mem_of_getElem? (i := 629) (by decide +kernel), List.mem_of_getElem? (i := 816) (by decide +kernel), List.mem_of_getElem? (i := 817) (by decide +kernel)⟩
theorem lw_p45 : lw_okq (⟨"CursorBaseModel", "cell", "(II)I"⟩, 29) := ⟨⟨by decide +kernel, by decide +kernel⟩, List.mem_of_getElem? (i := 629) (by decide +kernel), List.mem_of_getElem? (i := 820) (by decide +kernel), List.mem_of_getElem? (i := 821) (by decide +kernel)⟩
theorem lw_p46 : lw_okq (⟨"CursorBaseModel", "moves", "()Z"⟩, 29) := ⟨⟨by decide +kernel, by decide +kernel⟩, List.mem_of_getElem? (i := 629) (by decide +kernel), List.mem_of_getElem? (i := 824) (by decide +kernel), List.mem_of_getElem? (i := 825) (by decide +kernel)⟩
theorem lw_p47 : lw_okq (⟨"CursorBaseModel", "behind", "(II)I"⟩, 29) := ⟨⟨by decide +kernel, by decide +kernel⟩, List.mem_of_getElem? (i := 629) (by decide +kernel), List.mem_of_getElem? (i := 828) (by decide +kernel), List.mem_of_getElem? (i := 829) (by decide +kernel)⟩
def lw_privs_3 : List (MethodName × Nat) := [(⟨"CursorBaseModel", "isWord", "(I)Z"⟩, 29), (⟨"CursorBaseModel", "isKind", "(I)Z"⟩, 29), (⟨"CursorBaseModel", "readsTable", "()I"⟩, 29), (⟨"CursorBaseModel", "readsConditions", "()Z"⟩, 29), (⟨"CursorBaseModel", "readsOperand", "()Z"⟩, 29), (⟨"CursorBaseModel", "isThere", "(I)Z"⟩, 29), (⟨"CursorBaseModel", "haveColumns", "()Z"⟩, 29), (⟨"CursorBaseModel", "begins", "()V"⟩, 29), (⟨"CursorBaseModel", "selects", "()I"⟩, 29), (⟨"CursorBaseModel", "isFold", "()Z"⟩, 29), (⟨"CursorBaseModel", "folds", "()V"⟩, 29), (⟨"CursorBaseModel", "holds", "(II)Z"⟩, 29), (⟨"CursorBaseModel", "value", "(III)I"⟩, 29), (⟨"CursorBaseModel", "cell", "(II)I"⟩, 29), (⟨"CursorBaseModel", "moves", "()Z"⟩, 29), (⟨"CursorBaseModel", "behind", "(II)I"⟩, 29)]
theorem lw_r3 : ∀ q ∈ lw_privs_3, lw_okq q := List.forall_mem_cons.mpr ⟨lw_p32, List.forall_mem_cons.mpr ⟨lw_p33, List.forall_mem_cons.mpr ⟨lw_p34, List.forall_mem_cons.mpr ⟨lw_p35, List.forall_mem_cons.mpr ⟨lw_p36, List.forall_mem_cons.mpr ⟨lw_p37, List.forall_mem_cons.mpr ⟨lw_p38, List.forall_mem_cons.mpr ⟨lw_p39, List.forall_mem_cons.mpr ⟨lw_p40, List.forall_mem_cons.mpr ⟨lw_p41, List.forall_mem_cons.mpr ⟨lw_p42, List.forall_mem_cons.mpr ⟨lw_p43, List.forall_mem_cons.mpr ⟨lw_p44, List.forall_mem_cons.mpr ⟨lw_p45, List.forall_mem_cons.mpr ⟨lw_p46, List.forall_mem_cons.mpr ⟨lw_p47, fun _ h => absurd h List.not_mem_nil⟩⟩⟩⟩⟩⟩⟩⟩⟩⟩⟩⟩⟩⟩⟩⟩
theorem lw_p48 : lw_okq (⟨"CursorBaseModel", "creates", "()I"⟩, 29) := ⟨⟨by decide +kernel, by decide +kernel⟩, List.mem_of_getElem? (i := 629) (by decide +kernel), List.mem_of_getElem? (i := 832) (by decide +kernel), List.mem_of_getElem? (i := 833) (by decide +kernel)⟩
theorem lw_p49 : lw_okq (⟨"CursorBaseModel", "inserts", "()I"⟩, 29) := ⟨⟨by decide +kernel, by decide +kernel⟩, List.mem_of_getElem? (i := 629) (by decide +kernel), List.mem_of_getElem? (i := 836) (by decide +kernel), List.mem_of_getElem? (i := 837) (by decide +kernel)⟩
theorem lw_p50 : lw_okq (⟨"CursorBaseModel", "findKey", "(II)I"⟩, 29) := ⟨⟨by decide +kernel, by decide +kernel⟩, List.mem_of_getElem? (i := 629) (by decide +kernel), List.mem_of_getElem? (i := 840) (by decide +kernel), List.mem_of_getElem? (i := 841) (by decide +kernel)⟩
theorem lw_p51 : lw_okq (⟨"CursorBaseModel", "deletes", "()I"⟩, 29) := ⟨⟨by decide +kernel, by decide +kernel⟩, List.mem_of_getElem? (i := 629) (by decide +kernel), List.mem_of_getElem? (i := 844) (by decide +kernel), List.mem_of_getElem? (i := 845) (by decide +kernel)⟩
theorem lw_p52 : lw_okq (⟨"CursorBaseModel", "wide", "()I"⟩, 29) := ⟨⟨by decide +kernel, by decide +kernel⟩, List.mem_of_getElem? (i := 629) (by decide +kernel), List.mem_of_getElem? (i := 856) (by decide +kernel), List.mem_of_getElem? (i := 857) (by decide +kernel)⟩
theorem lw_p53 : lw_okq (⟨"CursorBaseModel", "listed", "()I"⟩, 29) := ⟨⟨by decide +kernel, by decide +kernel⟩, List.mem_of_getElem? (i := 629) (by decide +kernel), List.mem_of_getElem? (i := 860) (by decide +kernel), List.mem_of_getElem? (i := 861) (by decide +kernel)⟩
def lw_privs_4 : List (MethodName × Nat) := [(⟨"CursorBaseModel", "creates", "()I"⟩, 29), (⟨"CursorBaseModel", "inserts", "()I"⟩, 29), (⟨"CursorBaseModel", "findKey", "(II)I"⟩, 29), (⟨"CursorBaseModel", "deletes", "()I"⟩, 29), (⟨"CursorBaseModel", "wide", "()I"⟩, 29), (⟨"CursorBaseModel", "listed", "()I"⟩, 29)]
theorem lw_r4 : ∀ q ∈ lw_privs_4, lw_okq q := List.forall_mem_cons.mpr ⟨lw_p48, List.forall_mem_cons.mpr ⟨lw_p49, List.forall_mem_cons.mpr ⟨lw_p50, List.forall_mem_cons.mpr ⟨lw_p51, List.forall_mem_cons.mpr ⟨lw_p52, List.forall_mem_cons.mpr ⟨lw_p53, fun _ h => absurd h List.not_mem_nil⟩⟩⟩⟩⟩⟩
def lw_privs : List (MethodName × Nat) := lw_privs_1 ++ (lw_privs_2 ++ (lw_privs_3 ++ (lw_privs_4)))
def lw_tbl : List Cond := k2_sels lw_privs ++ tables_1
theorem lw_privs_ok : ∀ q ∈ lw_privs, lw_okq q := by
  show ∀ q ∈ lw_privs_1 ++ (lw_privs_2 ++ (lw_privs_3 ++ (lw_privs_4))), lw_okq q
  exact List.forall_mem_append.mpr ⟨lw_r1, List.forall_mem_append.mpr ⟨lw_r2, List.forall_mem_append.mpr ⟨lw_r3, lw_r4⟩⟩⟩
end
section
/-! NAMES, by my program (wip/whole/gen_names.py) out of the Statement's words and javap's listing -/
theorem xin {i : Nat} {w : Cond} (h : tables_1[i]? = some w) (hg : goodWord w = true) : w ∈ lw_tbl.filter goodWord := List.mem_filter.mpr ⟨List.mem_append_right _ (List.mem_of_getElem? h), hg⟩
def R_Op : String := "CursorBase$Operand"
def F_Op : u_T := fun k => match k with
  | 0 => ("CursorBase$Operand", "kind", "I", true)
  | _ => ("CursorBase$Operand", "number", "I", true)
def t_Op : Nat → FieldType := fun k => match k with
  | 0 => .int
  | _ => .int
def R_Cn : String := "CursorBase$Condition"
def F_Cn : u_T := fun k => match k with
  | 0 => ("CursorBase$Condition", "left", "LCursorBase$Operand;", true)
  | 1 => ("CursorBase$Condition", "comparison", "I", true)
  | _ => ("CursorBase$Condition", "right", "LCursorBase$Operand;", true)
def t_Cn : Nat → FieldType := fun k => match k with
  | 0 => .object "CursorBase$Operand"
  | 1 => .int
  | _ => .object "CursorBase$Operand"
def R_Pa : String := "CursorBase$Parser"
def F_Pa : u_T := fun k => match k with
  | 0 => ("CursorBase$Parser", "tokens", "LCursorBase$Tokens;", true)
  | 1 => ("CursorBase$Parser", "statement", "LCursorBase$Statement;", true)
  | _ => ("CursorBase$Parser", "at", "I", false)
def t_Pa : Nat → FieldType := fun k => match k with
  | 0 => .object "CursorBase$Tokens"
  | 1 => .object "CursorBase$Statement"
  | _ => .int
def R_Ru : String := "CursorBase$Run"
def F_Ru : u_T := fun k => match k with
  | 0 => ("CursorBase$Run", "statement", "LCursorBase$Statement;", false)
  | 1 => ("CursorBase$Run", "given", "I", false)
  | 2 => ("CursorBase$Run", "onRow", "Z", false)
  | 3 => ("CursorBase$Run", "ended", "Z", false)
  | 4 => ("CursorBase$Run", "firstPassed", "I", false)
  | 5 => ("CursorBase$Run", "secondPassed", "I", false)
  | 6 => ("CursorBase$Run", "total", "J", false)
  | _ => ("CursorBase$Run", "read", "[I", true)
def t_Ru : Nat → FieldType := fun k => match k with
  | 0 => .object "CursorBase$Statement"
  | 1 => .int
  | 2 => .boolean
  | 3 => .boolean
  | 4 => .int
  | 5 => .int
  | 6 => .long
  | _ => .array .int
def R_St : String := "CursorBase$Statement"
def F_St : u_T := fun k => match k with
  | 0 => ("CursorBase$Statement", "verb", "I", false)
  | 1 => ("CursorBase$Statement", "list", "I", false)
  | 2 => ("CursorBase$Statement", "first", "I", false)
  | 3 => ("CursorBase$Statement", "second", "I", false)
  | 4 => ("CursorBase$Statement", "falling", "Z", false)
  | 5 => ("CursorBase$Statement", "numberCount", "I", false)
  | 6 => ("CursorBase$Statement", "numbers", "[I", true)
  | 7 => ("CursorBase$Statement", "pickCount", "I", false)
  | 8 => ("CursorBase$Statement", "picks", "[LCursorBase$Operand;", true)
  | 9 => ("CursorBase$Statement", "conditionCount", "I", false)
  | _ => ("CursorBase$Statement", "conditions", "[LCursorBase$Condition;", true)
def t_St : Nat → FieldType := fun k => match k with
  | 0 => .int
  | 1 => .int
  | 2 => .int
  | 3 => .int
  | 4 => .boolean
  | 5 => .int
  | 6 => .array .int
  | 7 => .int
  | 8 => .array (.object "CursorBase$Operand")
  | 9 => .int
  | _ => .array (.object "CursorBase$Condition")
def R_Ta : String := "CursorBase$Tables"
def F_Ta : u_T := fun k => match k with
  | 0 => ("CursorBase$Tables", "cells", "[I", true)
  | 1 => ("CursorBase$Tables", "columns", "[I", true)
  | _ => ("CursorBase$Tables", "starts", "[I", true)
def t_Ta : Nat → FieldType := fun k => match k with
  | 0 => .array .int
  | 1 => .array .int
  | _ => .array .int
def R_To : String := "CursorBase$Tokens"
def F_To : u_T := fun k => match k with
  | 0 => ("CursorBase$Tokens", "kinds", "[I", true)
  | 1 => ("CursorBase$Tokens", "numbers", "[I", true)
  | _ => ("CursorBase$Tokens", "size", "I", false)
def t_To : Nat → FieldType := fun k => match k with
  | 0 => .array .int
  | 1 => .array .int
  | _ => .int
def R_CB : String := "CursorBase"
def F_CB : u_T := fun k => match k with
  | 0 => ("CursorBase", "pending", "LCursorBase$Tokens;", true)
  | 1 => ("CursorBase", "tables", "LCursorBase$Tables;", true)
  | _ => ("CursorBase", "run", "LCursorBase$Run;", true)
def t_CB : Nat → FieldType := fun k => match k with
  | 0 => .object "CursorBase$Tokens"
  | 1 => .object "CursorBase$Tables"
  | _ => .object "CursorBase$Run"
def R_Mo : String := "CursorBaseModel"
def F_Mo : u_T := fun k => match k with
  | 0 => ("CursorBaseModel", "thrown", "I", false)
  | 1 => ("CursorBaseModel", "columns", "[I", true)
  | 2 => ("CursorBaseModel", "of", "[I", true)
  | 3 => ("CursorBaseModel", "cells", "[I", true)
  | 4 => ("CursorBaseModel", "rows", "I", false)
  | 5 => ("CursorBaseModel", "kinds", "[I", true)
  | 6 => ("CursorBaseModel", "numbers", "[I", true)
  | 7 => ("CursorBaseModel", "pending", "I", false)
  | 8 => ("CursorBaseModel", "hadKinds", "[I", true)
  | 9 => ("CursorBaseModel", "hadNumbers", "[I", true)
  | 10 => ("CursorBaseModel", "had", "I", false)
  | 11 => ("CursorBaseModel", "there", "Z", false)
  | 12 => ("CursorBaseModel", "first", "I", false)
  | 13 => ("CursorBaseModel", "second", "I", false)
  | 14 => ("CursorBaseModel", "from", "I", false)
  | 15 => ("CursorBaseModel", "to", "I", false)
  | 16 => ("CursorBaseModel", "falls", "Z", false)
  | 17 => ("CursorBaseModel", "state", "I", false)
  | 18 => ("CursorBaseModel", "given", "I", false)
  | 19 => ("CursorBaseModel", "at", "I", false)
  | 20 => ("CursorBaseModel", "beside", "I", false)
  | 21 => ("CursorBaseModel", "row", "Z", false)
  | 22 => ("CursorBaseModel", "told", "J", false)
  | 23 => ("CursorBaseModel", "read", "I", false)
  | 24 => ("CursorBaseModel", "newFirst", "I", false)
  | 25 => ("CursorBaseModel", "newSecond", "I", false)
  | 26 => ("CursorBaseModel", "newFrom", "I", false)
  | 27 => ("CursorBaseModel", "newTo", "I", false)
  | _ => ("CursorBaseModel", "newFalls", "Z", false)
def t_Mo : Nat → FieldType := fun k => match k with
  | 0 => .int
  | 1 => .array .int
  | 2 => .array .int
  | 3 => .array .int
  | 4 => .int
  | 5 => .array .int
  | 6 => .array .int
  | 7 => .int
  | 8 => .array .int
  | 9 => .array .int
  | 10 => .int
  | 11 => .boolean
  | 12 => .int
  | 13 => .int
  | 14 => .int
  | 15 => .int
  | 16 => .boolean
  | 17 => .int
  | 18 => .int
  | 19 => .int
  | 20 => .int
  | 21 => .boolean
  | 22 => .long
  | 23 => .int
  | 24 => .int
  | 25 => .int
  | 26 => .int
  | 27 => .int
  | _ => .boolean
def R_La : String := "CursorBaseLaw"
abbrev vwCl : List vw_C := [(R_Op, F_Op, 2), (R_Cn, F_Cn, 3), (R_Pa, F_Pa, 3), (R_Ru, F_Ru, 8), (R_St, F_St, 11), (R_Ta, F_Ta, 3), (R_To, F_To, 3), (R_CB, F_CB, 3), (R_Mo, F_Mo, 29)]
abbrev b_CB_init : ByteArray := prog_1_method_1_code
def y_CB_init : MethodName := ⟨R_CB, "<init>", "()V"⟩
abbrev b_To_init : ByteArray := prog_8_method_1_code
def y_To_init : MethodName := ⟨R_To, "<init>", "()V"⟩
abbrev b_Ta_init : ByteArray := prog_7_method_1_code
def y_Ta_init : MethodName := ⟨R_Ta, "<init>", "()V"⟩
abbrev b_Ru_init : ByteArray := prog_5_method_1_code
def y_Ru_init : MethodName := ⟨R_Ru, "<init>", "()V"⟩
abbrev b_CB_prepare : ByteArray := prog_1_method_3_code
def y_CB_prepare : MethodName := ⟨R_CB, "prepare", "()I"⟩
abbrev b_Pa_init : ByteArray := prog_4_method_1_code
def y_Pa_init : MethodName := ⟨R_Pa, "<init>", "(LCursorBase$Tokens;)V"⟩
abbrev b_St_init : ByteArray := prog_6_method_1_code
def y_St_init : MethodName := ⟨R_St, "<init>", "()V"⟩
abbrev b_Pa_parse : ByteArray := prog_4_method_2_code
def y_Pa_parse : MethodName := ⟨R_Pa, "parse", "()LCursorBase$Statement;"⟩
abbrev b_Pa_takeWordBetween : ByteArray := prog_4_method_6_code
def y_Pa_takeWordBetween : MethodName := ⟨R_Pa, "takeWordBetween", "(II)I"⟩
abbrev b_To_isKind : ByteArray := prog_8_method_7_code
def y_To_isKind : MethodName := ⟨R_To, "isKind", "(II)Z"⟩
abbrev b_Pa_takeFirstTable : ByteArray := prog_4_method_8_code
def y_Pa_takeFirstTable : MethodName := ⟨R_Pa, "takeFirstTable", "()Z"⟩
abbrev b_Pa_takeTable : ByteArray := prog_4_method_7_code
def y_Pa_takeTable : MethodName := ⟨R_Pa, "takeTable", "()I"⟩
abbrev b_Pa_takeNumber : ByteArray := prog_4_method_9_code
def y_Pa_takeNumber : MethodName := ⟨R_Pa, "takeNumber", "()Z"⟩
abbrev b_St_addNumber : ByteArray := prog_6_method_2_code
def y_St_addNumber : MethodName := ⟨R_St, "addNumber", "(I)V"⟩
abbrev b_Pa_takeNumbers : ByteArray := prog_4_method_10_code
def y_Pa_takeNumbers : MethodName := ⟨R_Pa, "takeNumbers", "()Z"⟩
abbrev b_Pa_takeConditions : ByteArray := prog_4_method_13_code
def y_Pa_takeConditions : MethodName := ⟨R_Pa, "takeConditions", "()Z"⟩
abbrev b_Pa_takeWord : ByteArray := prog_4_method_5_code
def y_Pa_takeWord : MethodName := ⟨R_Pa, "takeWord", "(I)Z"⟩
abbrev b_Pa_takeCondition : ByteArray := prog_4_method_14_code
def y_Pa_takeCondition : MethodName := ⟨R_Pa, "takeCondition", "()LCursorBase$Condition;"⟩
abbrev b_Pa_takeOperand : ByteArray := prog_4_method_15_code
def y_Pa_takeOperand : MethodName := ⟨R_Pa, "takeOperand", "()LCursorBase$Operand;"⟩
abbrev b_Op_init : ByteArray := prog_3_method_1_code
def y_Op_init : MethodName := ⟨R_Op, "<init>", "(II)V"⟩
abbrev b_Cn_init : ByteArray := prog_2_method_1_code
def y_Cn_init : MethodName := ⟨R_Cn, "<init>", "(LCursorBase$Operand;ILCursorBase$Operand;)V"⟩
abbrev b_St_addCondition : ByteArray := prog_6_method_4_code
def y_St_addCondition : MethodName := ⟨R_St, "addCondition", "(LCursorBase$Condition;)V"⟩
abbrev b_Pa_takeList : ByteArray := prog_4_method_11_code
def y_Pa_takeList : MethodName := ⟨R_Pa, "takeList", "()Z"⟩
abbrev b_Pa_takeColumns : ByteArray := prog_4_method_12_code
def y_Pa_takeColumns : MethodName := ⟨R_Pa, "takeColumns", "(I)Z"⟩
abbrev b_St_addPick : ByteArray := prog_6_method_3_code
def y_St_addPick : MethodName := ⟨R_St, "addPick", "(I)V"⟩
abbrev b_Pa_takeFrom : ByteArray := prog_4_method_3_code
def y_Pa_takeFrom : MethodName := ⟨R_Pa, "takeFrom", "()Z"⟩
abbrev b_Pa_takeOrder : ByteArray := prog_4_method_4_code
def y_Pa_takeOrder : MethodName := ⟨R_Pa, "takeOrder", "()Z"⟩
abbrev b_To_drop : ByteArray := prog_8_method_6_code
def y_To_drop : MethodName := ⟨R_To, "drop", "()V"⟩
abbrev b_St_fault : ByteArray := prog_6_method_5_code
def y_St_fault : MethodName := ⟨R_St, "fault", "(LCursorBase$Tables;)I"⟩
abbrev b_St_faultOfCreate : ByteArray := prog_6_method_6_code
def y_St_faultOfCreate : MethodName := ⟨R_St, "faultOfCreate", "(LCursorBase$Tables;)I"⟩
abbrev b_Ta_isThere : ByteArray := prog_7_method_2_code
def y_Ta_isThere : MethodName := ⟨R_Ta, "isThere", "(I)Z"⟩
abbrev b_Ta_columnsOf : ByteArray := prog_7_method_3_code
def y_Ta_columnsOf : MethodName := ⟨R_Ta, "columnsOf", "(I)I"⟩
abbrev b_St_columnsAreThere : ByteArray := prog_6_method_7_code
def y_St_columnsAreThere : MethodName := ⟨R_St, "columnsAreThere", "(II)Z"⟩
abbrev b_Op_isThere : ByteArray := prog_3_method_2_code
def y_Op_isThere : MethodName := ⟨R_Op, "isThere", "(II)Z"⟩
abbrev b_Cn_isThere : ByteArray := prog_2_method_2_code
def y_Cn_isThere : MethodName := ⟨R_Cn, "isThere", "(II)Z"⟩
abbrev b_St_spellOutAll : ByteArray := prog_6_method_8_code
def y_St_spellOutAll : MethodName := ⟨R_St, "spellOutAll", "(LCursorBase$Tables;)V"⟩
abbrev b_St_addPicks : ByteArray := prog_6_method_9_code
def y_St_addPicks : MethodName := ⟨R_St, "addPicks", "(II)V"⟩
abbrev b_Ru_begin : ByteArray := prog_5_method_2_code
def y_Ru_begin : MethodName := ⟨R_Ru, "begin", "(LCursorBase$Statement;)V"⟩
abbrev b_CB_all : ByteArray := prog_1_method_9_code
def y_CB_all : MethodName := ⟨R_CB, "all", "()I"⟩
abbrev b_Ta_rowsInAll : ByteArray := prog_7_method_5_code
def y_Ta_rowsInAll : MethodName := ⟨R_Ta, "rowsInAll", "()I"⟩
abbrev b_CB_clear : ByteArray := prog_1_method_11_code
def y_CB_clear : MethodName := ⟨R_CB, "clear", "()V"⟩
abbrev b_Ta_drop : ByteArray := prog_7_method_16_code
def y_Ta_drop : MethodName := ⟨R_Ta, "drop", "()V"⟩
abbrev b_La_feed : ByteArray := method_3_code
def y_La_feed : MethodName := ⟨R_La, "feed", "(LCursorBase;II[J)I"⟩
abbrev b_CB_feed : ByteArray := prog_1_method_2_code
def y_CB_feed : MethodName := ⟨R_CB, "feed", "(II)I"⟩
abbrev b_To_isToken : ByteArray := prog_8_method_2_code
def y_To_isToken : MethodName := ⟨R_To, "isToken", "(II)Z"⟩
abbrev b_To_isColumnFrom : ByteArray := prog_8_method_3_code
def y_To_isColumnFrom : MethodName := ⟨R_To, "isColumnFrom", "(II)Z"⟩
abbrev b_To_isFull : ByteArray := prog_8_method_4_code
def y_To_isFull : MethodName := ⟨R_To, "isFull", "()Z"⟩
abbrev b_To_put : ByteArray := prog_8_method_5_code
def y_To_put : MethodName := ⟨R_To, "put", "(II)V"⟩
abbrev b_La_step : ByteArray := method_4_code
def y_La_step : MethodName := ⟨R_La, "step", "(LCursorBase;[J)I"⟩
abbrev b_CB_step : ByteArray := prog_1_method_4_code
def y_CB_step : MethodName := ⟨R_CB, "step", "()I"⟩
abbrev b_Ru_advance : ByteArray := prog_5_method_3_code
def y_Ru_advance : MethodName := ⟨R_Ru, "advance", "(LCursorBase$Tables;)I"⟩
abbrev b_Ta_create : ByteArray := prog_7_method_12_code
def y_Ta_create : MethodName := ⟨R_Ta, "create", "(II)I"⟩
abbrev b_Ta_insert : ByteArray := prog_7_method_13_code
def y_Ta_insert : MethodName := ⟨R_Ta, "insert", "(I[I)I"⟩
abbrev b_Ta_placeNotBelow : ByteArray := prog_7_method_9_code
def y_Ta_placeNotBelow : MethodName := ⟨R_Ta, "placeNotBelow", "(II)I"⟩
abbrev b_Ta_rowsOf : ByteArray := prog_7_method_4_code
def y_Ta_rowsOf : MethodName := ⟨R_Ta, "rowsOf", "(I)I"⟩
abbrev b_Ta_keyAt : ByteArray := prog_7_method_7_code
def y_Ta_keyAt : MethodName := ⟨R_Ta, "keyAt", "(II)I"⟩
abbrev b_Ta_cellOf : ByteArray := prog_7_method_6_code
def y_Ta_cellOf : MethodName := ⟨R_Ta, "cellOf", "(II)I"⟩
abbrev b_Ta_hasKeyAt : ByteArray := prog_7_method_10_code
def y_Ta_hasKeyAt : MethodName := ⟨R_Ta, "hasKeyAt", "(III)Z"⟩
abbrev b_Ta_moveStartsBehind : ByteArray := prog_7_method_15_code
def y_Ta_moveStartsBehind : MethodName := ⟨R_Ta, "moveStartsBehind", "(II)V"⟩
abbrev b_Ru_deleteRows : ByteArray := prog_5_method_5_code
def y_Ru_deleteRows : MethodName := ⟨R_Ru, "deleteRows", "(LCursorBase$Tables;)V"⟩
abbrev b_Ta_read : ByteArray := prog_7_method_8_code
def y_Ta_read : MethodName := ⟨R_Ta, "read", "(II[II)V"⟩
abbrev b_St_holds : ByteArray := prog_6_method_12_code
def y_St_holds : MethodName := ⟨R_St, "holds", "([I)Z"⟩
abbrev b_Cn_holds : ByteArray := prog_2_method_3_code
def y_Cn_holds : MethodName := ⟨R_Cn, "holds", "([I)Z"⟩
abbrev b_Op_value : ByteArray := prog_3_method_3_code
def y_Op_value : MethodName := ⟨R_Op, "value", "([I)I"⟩
abbrev b_Ta_remove : ByteArray := prog_7_method_14_code
def y_Ta_remove : MethodName := ⟨R_Ta, "remove", "(II)V"⟩
abbrev b_St_hasTotal : ByteArray := prog_6_method_10_code
def y_St_hasTotal : MethodName := ⟨R_St, "hasTotal", "()Z"⟩
abbrev b_Ru_giveTotal : ByteArray := prog_5_method_7_code
def y_Ru_giveTotal : MethodName := ⟨R_Ru, "giveTotal", "(LCursorBase$Tables;)I"⟩
abbrev b_Ru_findRow : ByteArray := prog_5_method_8_code
def y_Ru_findRow : MethodName := ⟨R_Ru, "findRow", "(LCursorBase$Tables;)Z"⟩
abbrev b_Ru_place : ByteArray := prog_5_method_9_code
def y_Ru_place : MethodName := ⟨R_Ru, "place", "(II)I"⟩
abbrev b_Ru_giveRow : ByteArray := prog_5_method_6_code
def y_Ru_giveRow : MethodName := ⟨R_Ru, "giveRow", "(LCursorBase$Tables;)I"⟩
abbrev b_Ru_note : ByteArray := prog_5_method_4_code
def y_Ru_note : MethodName := ⟨R_Ru, "note", "(I)V"⟩
abbrev b_La_reset : ByteArray := method_5_code
def y_La_reset : MethodName := ⟨R_La, "reset", "(LCursorBase;[J)I"⟩
abbrev b_CB_reset : ByteArray := prog_1_method_5_code
def y_CB_reset : MethodName := ⟨R_CB, "reset", "()I"⟩
abbrev b_La_width : ByteArray := method_6_code
def y_La_width : MethodName := ⟨R_La, "width", "(LCursorBase;[J)I"⟩
abbrev b_CB_width : ByteArray := prog_1_method_6_code
def y_CB_width : MethodName := ⟨R_CB, "width", "()I"⟩
abbrev b_St_columnCount : ByteArray := prog_6_method_11_code
def y_St_columnCount : MethodName := ⟨R_St, "columnCount", "()I"⟩
abbrev b_La_column : ByteArray := method_7_code
def y_La_column : MethodName := ⟨R_La, "column", "(LCursorBase;I[J)I"⟩
abbrev b_CB_column : ByteArray := prog_1_method_7_code
def y_CB_column : MethodName := ⟨R_CB, "column", "(I)J"⟩
abbrev b_Ru_valueAt : ByteArray := prog_5_method_10_code
def y_Ru_valueAt : MethodName := ⟨R_Ru, "valueAt", "(I)J"⟩
abbrev b_La_rows : ByteArray := method_8_code
def y_La_rows : MethodName := ⟨R_La, "rows", "(LCursorBase;I[J)I"⟩
abbrev b_CB_rows : ByteArray := prog_1_method_8_code
def y_CB_rows : MethodName := ⟨R_CB, "rows", "(I)I"⟩
abbrev b_La_nearest : ByteArray := method_9_code
def y_La_nearest : MethodName := ⟨R_La, "nearest", "(LCursorBase;IIZ[J)I"⟩
abbrev b_CB_nearest : ByteArray := prog_1_method_10_code
def y_CB_nearest : MethodName := ⟨R_CB, "nearest", "(IIZ)I"⟩
abbrev b_Ta_placeNearest : ByteArray := prog_7_method_11_code
def y_Ta_placeNearest : MethodName := ⟨R_Ta, "placeNearest", "(IIZ)I"⟩
abbrev b_Mo_init : ByteArray := prog_10_method_1_code
def y_Mo_init : MethodName := ⟨R_Mo, "<init>", "()V"⟩
abbrev b_Mo_thrown : ByteArray := prog_10_method_2_code
def y_Mo_thrown : MethodName := ⟨R_Mo, "thrown", "()I"⟩
abbrev b_Mo_feed : ByteArray := prog_10_method_4_code
def y_Mo_feed : MethodName := ⟨R_Mo, "feed", "(II)I"⟩
abbrev b_Mo_in : ByteArray := prog_10_method_3_code
def y_Mo_in : MethodName := ⟨R_Mo, "in", "(JJJ)Z"⟩
abbrev b_Mo_prepare : ByteArray := prog_10_method_17_code
def y_Mo_prepare : MethodName := ⟨R_Mo, "prepare", "()I"⟩
abbrev b_Mo_wrong : ByteArray := prog_10_method_16_code
def y_Mo_wrong : MethodName := ⟨R_Mo, "wrong", "()I"⟩
abbrev b_Mo_reads : ByteArray := prog_10_method_13_code
def y_Mo_reads : MethodName := ⟨R_Mo, "reads", "()Z"⟩
abbrev b_Mo_readsSelect : ByteArray := prog_10_method_12_code
def y_Mo_readsSelect : MethodName := ⟨R_Mo, "readsSelect", "()Z"⟩
abbrev b_Mo_readsList : ByteArray := prog_10_method_11_code
def y_Mo_readsList : MethodName := ⟨R_Mo, "readsList", "()Z"⟩
abbrev b_Mo_skips : ByteArray := prog_10_method_7_code
def y_Mo_skips : MethodName := ⟨R_Mo, "skips", "(I)Z"⟩
abbrev b_Mo_isWord : ByteArray := prog_10_method_6_code
def y_Mo_isWord : MethodName := ⟨R_Mo, "isWord", "(I)Z"⟩
abbrev b_Mo_isKind : ByteArray := prog_10_method_5_code
def y_Mo_isKind : MethodName := ⟨R_Mo, "isKind", "(I)Z"⟩
abbrev b_Mo_readsTable : ByteArray := prog_10_method_8_code
def y_Mo_readsTable : MethodName := ⟨R_Mo, "readsTable", "()I"⟩
abbrev b_Mo_readsConditions : ByteArray := prog_10_method_10_code
def y_Mo_readsConditions : MethodName := ⟨R_Mo, "readsConditions", "()Z"⟩
abbrev b_Mo_readsOperand : ByteArray := prog_10_method_9_code
def y_Mo_readsOperand : MethodName := ⟨R_Mo, "readsOperand", "()Z"⟩
abbrev b_Mo_isThere : ByteArray := prog_10_method_14_code
def y_Mo_isThere : MethodName := ⟨R_Mo, "isThere", "(I)Z"⟩
abbrev b_Mo_haveColumns : ByteArray := prog_10_method_15_code
def y_Mo_haveColumns : MethodName := ⟨R_Mo, "haveColumns", "()Z"⟩
abbrev b_Mo_begins : ByteArray := prog_10_method_18_code
def y_Mo_begins : MethodName := ⟨R_Mo, "begins", "()V"⟩
abbrev b_Mo_step : ByteArray := prog_10_method_31_code
def y_Mo_step : MethodName := ⟨R_Mo, "step", "()I"⟩
abbrev b_Mo_selects : ByteArray := prog_10_method_30_code
def y_Mo_selects : MethodName := ⟨R_Mo, "selects", "()I"⟩
abbrev b_Mo_isFold : ByteArray := prog_10_method_29_code
def y_Mo_isFold : MethodName := ⟨R_Mo, "isFold", "()Z"⟩
abbrev b_Mo_folds : ByteArray := prog_10_method_28_code
def y_Mo_folds : MethodName := ⟨R_Mo, "folds", "()V"⟩
abbrev b_Mo_holds : ByteArray := prog_10_method_21_code
def y_Mo_holds : MethodName := ⟨R_Mo, "holds", "(II)Z"⟩
abbrev b_Mo_value : ByteArray := prog_10_method_20_code
def y_Mo_value : MethodName := ⟨R_Mo, "value", "(III)I"⟩
abbrev b_Mo_cell : ByteArray := prog_10_method_19_code
def y_Mo_cell : MethodName := ⟨R_Mo, "cell", "(II)I"⟩
abbrev b_Mo_moves : ByteArray := prog_10_method_23_code
def y_Mo_moves : MethodName := ⟨R_Mo, "moves", "()Z"⟩
abbrev b_Mo_behind : ByteArray := prog_10_method_22_code
def y_Mo_behind : MethodName := ⟨R_Mo, "behind", "(II)I"⟩
abbrev b_Mo_creates : ByteArray := prog_10_method_27_code
def y_Mo_creates : MethodName := ⟨R_Mo, "creates", "()I"⟩
abbrev b_Mo_inserts : ByteArray := prog_10_method_25_code
def y_Mo_inserts : MethodName := ⟨R_Mo, "inserts", "()I"⟩
abbrev b_Mo_findKey : ByteArray := prog_10_method_24_code
def y_Mo_findKey : MethodName := ⟨R_Mo, "findKey", "(II)I"⟩
abbrev b_Mo_deletes : ByteArray := prog_10_method_26_code
def y_Mo_deletes : MethodName := ⟨R_Mo, "deletes", "()I"⟩
abbrev b_Mo_reset : ByteArray := prog_10_method_32_code
def y_Mo_reset : MethodName := ⟨R_Mo, "reset", "()I"⟩
abbrev b_Mo_width : ByteArray := prog_10_method_35_code
def y_Mo_width : MethodName := ⟨R_Mo, "width", "()I"⟩
abbrev b_Mo_wide : ByteArray := prog_10_method_34_code
def y_Mo_wide : MethodName := ⟨R_Mo, "wide", "()I"⟩
abbrev b_Mo_listed : ByteArray := prog_10_method_33_code
def y_Mo_listed : MethodName := ⟨R_Mo, "listed", "()I"⟩
abbrev b_Mo_column : ByteArray := prog_10_method_36_code
def y_Mo_column : MethodName := ⟨R_Mo, "column", "(I)J"⟩
abbrev b_Mo_rows : ByteArray := prog_10_method_37_code
def y_Mo_rows : MethodName := ⟨R_Mo, "rows", "(I)I"⟩
abbrev b_Mo_all : ByteArray := prog_10_method_38_code
def y_Mo_all : MethodName := ⟨R_Mo, "all", "()I"⟩
abbrev b_Mo_nearest : ByteArray := prog_10_method_39_code
def y_Mo_nearest : MethodName := ⟨R_Mo, "nearest", "(IIZ)I"⟩
abbrev b_Mo_clear : ByteArray := prog_10_method_40_code
def y_Mo_clear : MethodName := ⟨R_Mo, "clear", "()V"⟩
abbrev b_La_law : ByteArray := code
end
section
theorem d_CB_init_0 : decode b_CB_init 0 = .ok (.aload_n 0, 1) := by decide +kernel
theorem d_CB_init_1 : decode b_CB_init 1 = .ok (.invokespecial 1, 3) := by decide +kernel
theorem d_CB_init_4 : decode b_CB_init 4 = .ok (.aload_n 0, 1) := by decide +kernel
theorem d_CB_init_5 : decode b_CB_init 5 = .ok (.new 7, 3) := by decide +kernel
theorem d_CB_init_8 : decode b_CB_init 8 = .ok (.dup, 1) := by decide +kernel
theorem d_CB_init_9 : decode b_CB_init 9 = .ok (.invokespecial 9, 3) := by decide +kernel
theorem d_CB_init_12 : decode b_CB_init 12 = .ok (.putfield 10, 3) := by decide +kernel
theorem d_CB_init_15 : decode b_CB_init 15 = .ok (.aload_n 0, 1) := by decide +kernel
theorem d_CB_init_16 : decode b_CB_init 16 = .ok (.new 16, 3) := by decide +kernel
theorem d_CB_init_19 : decode b_CB_init 19 = .ok (.dup, 1) := by decide +kernel
theorem d_CB_init_20 : decode b_CB_init 20 = .ok (.invokespecial 18, 3) := by decide +kernel
theorem d_CB_init_23 : decode b_CB_init 23 = .ok (.putfield 19, 3) := by decide +kernel
theorem d_CB_init_26 : decode b_CB_init 26 = .ok (.aload_n 0, 1) := by decide +kernel
theorem d_CB_init_27 : decode b_CB_init 27 = .ok (.new 23, 3) := by decide +kernel
theorem d_CB_init_30 : decode b_CB_init 30 = .ok (.dup, 1) := by decide +kernel
theorem d_CB_init_31 : decode b_CB_init 31 = .ok (.invokespecial 25, 3) := by decide +kernel
theorem d_CB_init_34 : decode b_CB_init 34 = .ok (.putfield 26, 3) := by decide +kernel
theorem d_CB_init_37 : decode b_CB_init 37 = .ok (.return_, 1) := by decide +kernel
theorem d_CB_feed_0 : decode b_CB_feed 0 = .ok (.iload_n 1, 1) := by decide +kernel
theorem d_CB_feed_1 : decode b_CB_feed 1 = .ok (.iload_n 2, 1) := by decide +kernel
theorem d_CB_feed_2 : decode b_CB_feed 2 = .ok (.invokestatic 30, 3) := by decide +kernel
theorem d_CB_feed_5 : decode b_CB_feed 5 = .ok (.ifCond .ne 13, 3) := by decide +kernel
theorem d_CB_feed_8 : decode b_CB_feed 8 = .ok (.new 34, 3) := by decide +kernel
theorem d_CB_feed_11 : decode b_CB_feed 11 = .ok (.dup, 1) := by decide +kernel
theorem d_CB_feed_12 : decode b_CB_feed 12 = .ok (.ldc 36, 2) := by decide +kernel
theorem d_CB_feed_14 : decode b_CB_feed 14 = .ok (.invokespecial 38, 3) := by decide +kernel
theorem d_CB_feed_17 : decode b_CB_feed 17 = .ok (.athrow, 1) := by decide +kernel
theorem d_CB_feed_18 : decode b_CB_feed 18 = .ok (.aload_n 0, 1) := by decide +kernel
theorem d_CB_feed_19 : decode b_CB_feed 19 = .ok (.getfield 10, 3) := by decide +kernel
theorem d_CB_feed_22 : decode b_CB_feed 22 = .ok (.invokevirtual 41, 3) := by decide +kernel
theorem d_CB_feed_25 : decode b_CB_feed 25 = .ok (.ifCond .eq 13, 3) := by decide +kernel
theorem d_CB_feed_28 : decode b_CB_feed 28 = .ok (.new 45, 3) := by decide +kernel
theorem d_CB_feed_31 : decode b_CB_feed 31 = .ok (.dup, 1) := by decide +kernel
theorem d_CB_feed_32 : decode b_CB_feed 32 = .ok (.ldc 47, 2) := by decide +kernel
theorem d_CB_feed_34 : decode b_CB_feed 34 = .ok (.invokespecial 49, 3) := by decide +kernel
theorem d_CB_feed_37 : decode b_CB_feed 37 = .ok (.athrow, 1) := by decide +kernel
theorem d_CB_feed_38 : decode b_CB_feed 38 = .ok (.aload_n 0, 1) := by decide +kernel
theorem d_CB_feed_39 : decode b_CB_feed 39 = .ok (.getfield 10, 3) := by decide +kernel
theorem d_CB_feed_42 : decode b_CB_feed 42 = .ok (.iload_n 1, 1) := by decide +kernel
theorem d_CB_feed_43 : decode b_CB_feed 43 = .ok (.iload_n 2, 1) := by decide +kernel
theorem d_CB_feed_44 : decode b_CB_feed 44 = .ok (.invokevirtual 50, 3) := by decide +kernel
theorem d_CB_feed_47 : decode b_CB_feed 47 = .ok (.aload_n 0, 1) := by decide +kernel
theorem d_CB_feed_48 : decode b_CB_feed 48 = .ok (.getfield 10, 3) := by decide +kernel
theorem d_CB_feed_51 : decode b_CB_feed 51 = .ok (.getfield 54, 3) := by decide +kernel
theorem d_CB_feed_54 : decode b_CB_feed 54 = .ok (.ireturn, 1) := by decide +kernel
theorem d_CB_prepare_0 : decode b_CB_prepare 0 = .ok (.new 58, 3) := by decide +kernel
theorem d_CB_prepare_3 : decode b_CB_prepare 3 = .ok (.dup, 1) := by decide +kernel
theorem d_CB_prepare_4 : decode b_CB_prepare 4 = .ok (.aload_n 0, 1) := by decide +kernel
theorem d_CB_prepare_5 : decode b_CB_prepare 5 = .ok (.getfield 10, 3) := by decide +kernel
theorem d_CB_prepare_8 : decode b_CB_prepare 8 = .ok (.invokespecial 60, 3) := by decide +kernel
theorem d_CB_prepare_11 : decode b_CB_prepare 11 = .ok (.invokevirtual 63, 3) := by decide +kernel
theorem d_CB_prepare_14 : decode b_CB_prepare 14 = .ok (.astore_n 1, 1) := by decide +kernel
theorem d_CB_prepare_15 : decode b_CB_prepare 15 = .ok (.aload_n 0, 1) := by decide +kernel
theorem d_CB_prepare_16 : decode b_CB_prepare 16 = .ok (.getfield 10, 3) := by decide +kernel
theorem d_CB_prepare_19 : decode b_CB_prepare 19 = .ok (.invokevirtual 67, 3) := by decide +kernel
theorem d_CB_prepare_22 : decode b_CB_prepare 22 = .ok (.aload_n 1, 1) := by decide +kernel
theorem d_CB_prepare_23 : decode b_CB_prepare 23 = .ok (.ifnonnull 5, 3) := by decide +kernel
theorem d_CB_prepare_26 : decode b_CB_prepare 26 = .ok (.iconst (-1), 1) := by decide +kernel
theorem d_CB_prepare_27 : decode b_CB_prepare 27 = .ok (.ireturn, 1) := by decide +kernel
theorem d_CB_prepare_28 : decode b_CB_prepare 28 = .ok (.aload_n 1, 1) := by decide +kernel
theorem d_CB_prepare_29 : decode b_CB_prepare 29 = .ok (.aload_n 0, 1) := by decide +kernel
theorem d_CB_prepare_30 : decode b_CB_prepare 30 = .ok (.getfield 19, 3) := by decide +kernel
theorem d_CB_prepare_33 : decode b_CB_prepare 33 = .ok (.invokevirtual 70, 3) := by decide +kernel
theorem d_CB_prepare_36 : decode b_CB_prepare 36 = .ok (.istore_n 2, 1) := by decide +kernel
theorem d_CB_prepare_37 : decode b_CB_prepare 37 = .ok (.iload_n 2, 1) := by decide +kernel
theorem d_CB_prepare_38 : decode b_CB_prepare 38 = .ok (.ifCond .ne 19, 3) := by decide +kernel
theorem d_CB_prepare_41 : decode b_CB_prepare 41 = .ok (.aload_n 1, 1) := by decide +kernel
theorem d_CB_prepare_42 : decode b_CB_prepare 42 = .ok (.aload_n 0, 1) := by decide +kernel
theorem d_CB_prepare_43 : decode b_CB_prepare 43 = .ok (.getfield 19, 3) := by decide +kernel
theorem d_CB_prepare_46 : decode b_CB_prepare 46 = .ok (.invokevirtual 76, 3) := by decide +kernel
theorem d_CB_prepare_49 : decode b_CB_prepare 49 = .ok (.aload_n 0, 1) := by decide +kernel
theorem d_CB_prepare_50 : decode b_CB_prepare 50 = .ok (.getfield 26, 3) := by decide +kernel
theorem d_CB_prepare_53 : decode b_CB_prepare 53 = .ok (.aload_n 1, 1) := by decide +kernel
theorem d_CB_prepare_54 : decode b_CB_prepare 54 = .ok (.invokevirtual 80, 3) := by decide +kernel
theorem d_CB_prepare_57 : decode b_CB_prepare 57 = .ok (.iload_n 2, 1) := by decide +kernel
theorem d_CB_prepare_58 : decode b_CB_prepare 58 = .ok (.ireturn, 1) := by decide +kernel
theorem d_CB_step_0 : decode b_CB_step 0 = .ok (.aload_n 0, 1) := by decide +kernel
theorem d_CB_step_1 : decode b_CB_step 1 = .ok (.getfield 26, 3) := by decide +kernel
theorem d_CB_step_4 : decode b_CB_step 4 = .ok (.getfield 84, 3) := by decide +kernel
theorem d_CB_step_7 : decode b_CB_step 7 = .ok (.ifnonnull 13, 3) := by decide +kernel
theorem d_CB_step_10 : decode b_CB_step 10 = .ok (.new 45, 3) := by decide +kernel
theorem d_CB_step_13 : decode b_CB_step 13 = .ok (.dup, 1) := by decide +kernel
theorem d_CB_step_14 : decode b_CB_step 14 = .ok (.ldc 88, 2) := by decide +kernel
theorem d_CB_step_16 : decode b_CB_step 16 = .ok (.invokespecial 49, 3) := by decide +kernel
theorem d_CB_step_19 : decode b_CB_step 19 = .ok (.athrow, 1) := by decide +kernel
theorem d_CB_step_20 : decode b_CB_step 20 = .ok (.aload_n 0, 1) := by decide +kernel
theorem d_CB_step_21 : decode b_CB_step 21 = .ok (.getfield 26, 3) := by decide +kernel
theorem d_CB_step_24 : decode b_CB_step 24 = .ok (.aload_n 0, 1) := by decide +kernel
theorem d_CB_step_25 : decode b_CB_step 25 = .ok (.getfield 19, 3) := by decide +kernel
theorem d_CB_step_28 : decode b_CB_step 28 = .ok (.invokevirtual 90, 3) := by decide +kernel
theorem d_CB_step_31 : decode b_CB_step 31 = .ok (.ireturn, 1) := by decide +kernel
theorem d_CB_reset_0 : decode b_CB_reset 0 = .ok (.aload_n 0, 1) := by decide +kernel
theorem d_CB_reset_1 : decode b_CB_reset 1 = .ok (.getfield 26, 3) := by decide +kernel
theorem d_CB_reset_4 : decode b_CB_reset 4 = .ok (.getfield 84, 3) := by decide +kernel
theorem d_CB_reset_7 : decode b_CB_reset 7 = .ok (.ifnonnull 13, 3) := by decide +kernel
theorem d_CB_reset_10 : decode b_CB_reset 10 = .ok (.new 45, 3) := by decide +kernel
theorem d_CB_reset_13 : decode b_CB_reset 13 = .ok (.dup, 1) := by decide +kernel
theorem d_CB_reset_14 : decode b_CB_reset 14 = .ok (.ldc 88, 2) := by decide +kernel
theorem d_CB_reset_16 : decode b_CB_reset 16 = .ok (.invokespecial 49, 3) := by decide +kernel
theorem d_CB_reset_19 : decode b_CB_reset 19 = .ok (.athrow, 1) := by decide +kernel
theorem d_CB_reset_20 : decode b_CB_reset 20 = .ok (.aload_n 0, 1) := by decide +kernel
theorem d_CB_reset_21 : decode b_CB_reset 21 = .ok (.getfield 26, 3) := by decide +kernel
theorem d_CB_reset_24 : decode b_CB_reset 24 = .ok (.getfield 93, 3) := by decide +kernel
theorem d_CB_reset_27 : decode b_CB_reset 27 = .ok (.istore_n 1, 1) := by decide +kernel
theorem d_CB_reset_28 : decode b_CB_reset 28 = .ok (.aload_n 0, 1) := by decide +kernel
theorem d_CB_reset_29 : decode b_CB_reset 29 = .ok (.getfield 26, 3) := by decide +kernel
theorem d_CB_reset_32 : decode b_CB_reset 32 = .ok (.aload_n 0, 1) := by decide +kernel
theorem d_CB_reset_33 : decode b_CB_reset 33 = .ok (.getfield 26, 3) := by decide +kernel
theorem d_CB_reset_36 : decode b_CB_reset 36 = .ok (.getfield 84, 3) := by decide +kernel
theorem d_CB_reset_39 : decode b_CB_reset 39 = .ok (.invokevirtual 80, 3) := by decide +kernel
theorem d_CB_reset_42 : decode b_CB_reset 42 = .ok (.iload_n 1, 1) := by decide +kernel
theorem d_CB_reset_43 : decode b_CB_reset 43 = .ok (.ireturn, 1) := by decide +kernel
theorem d_CB_width_0 : decode b_CB_width 0 = .ok (.aload_n 0, 1) := by decide +kernel
theorem d_CB_width_1 : decode b_CB_width 1 = .ok (.getfield 26, 3) := by decide +kernel
theorem d_CB_width_4 : decode b_CB_width 4 = .ok (.getfield 84, 3) := by decide +kernel
theorem d_CB_width_7 : decode b_CB_width 7 = .ok (.ifnonnull 13, 3) := by decide +kernel
theorem d_CB_width_10 : decode b_CB_width 10 = .ok (.new 45, 3) := by decide +kernel
theorem d_CB_width_13 : decode b_CB_width 13 = .ok (.dup, 1) := by decide +kernel
theorem d_CB_width_14 : decode b_CB_width 14 = .ok (.ldc 88, 2) := by decide +kernel
theorem d_CB_width_16 : decode b_CB_width 16 = .ok (.invokespecial 49, 3) := by decide +kernel
theorem d_CB_width_19 : decode b_CB_width 19 = .ok (.athrow, 1) := by decide +kernel
theorem d_CB_width_20 : decode b_CB_width 20 = .ok (.aload_n 0, 1) := by decide +kernel
theorem d_CB_width_21 : decode b_CB_width 21 = .ok (.getfield 26, 3) := by decide +kernel
theorem d_CB_width_24 : decode b_CB_width 24 = .ok (.getfield 84, 3) := by decide +kernel
theorem d_CB_width_27 : decode b_CB_width 27 = .ok (.invokevirtual 96, 3) := by decide +kernel
theorem d_CB_width_30 : decode b_CB_width 30 = .ok (.ireturn, 1) := by decide +kernel
theorem d_CB_column_0 : decode b_CB_column 0 = .ok (.aload_n 0, 1) := by decide +kernel
theorem d_CB_column_1 : decode b_CB_column 1 = .ok (.getfield 26, 3) := by decide +kernel
theorem d_CB_column_4 : decode b_CB_column 4 = .ok (.getfield 84, 3) := by decide +kernel
theorem d_CB_column_7 : decode b_CB_column 7 = .ok (.ifnull 13, 3) := by decide +kernel
theorem d_CB_column_10 : decode b_CB_column 10 = .ok (.aload_n 0, 1) := by decide +kernel
theorem d_CB_column_11 : decode b_CB_column 11 = .ok (.getfield 26, 3) := by decide +kernel
theorem d_CB_column_14 : decode b_CB_column 14 = .ok (.getfield 100, 3) := by decide +kernel
theorem d_CB_column_17 : decode b_CB_column 17 = .ok (.ifCond .ne 13, 3) := by decide +kernel
theorem d_CB_column_20 : decode b_CB_column 20 = .ok (.new 45, 3) := by decide +kernel
theorem d_CB_column_23 : decode b_CB_column 23 = .ok (.dup, 1) := by decide +kernel
theorem d_CB_column_24 : decode b_CB_column 24 = .ok (.ldc 104, 2) := by decide +kernel
theorem d_CB_column_26 : decode b_CB_column 26 = .ok (.invokespecial 49, 3) := by decide +kernel
theorem d_CB_column_29 : decode b_CB_column 29 = .ok (.athrow, 1) := by decide +kernel
theorem d_CB_column_30 : decode b_CB_column 30 = .ok (.iload_n 1, 1) := by decide +kernel
theorem d_CB_column_31 : decode b_CB_column 31 = .ok (.ifCond .lt 17, 3) := by decide +kernel
theorem d_CB_column_34 : decode b_CB_column 34 = .ok (.iload_n 1, 1) := by decide +kernel
theorem d_CB_column_35 : decode b_CB_column 35 = .ok (.aload_n 0, 1) := by decide +kernel
theorem d_CB_column_36 : decode b_CB_column 36 = .ok (.getfield 26, 3) := by decide +kernel
theorem d_CB_column_39 : decode b_CB_column 39 = .ok (.getfield 84, 3) := by decide +kernel
theorem d_CB_column_42 : decode b_CB_column 42 = .ok (.invokevirtual 96, 3) := by decide +kernel
theorem d_CB_column_45 : decode b_CB_column 45 = .ok (.if_icmp .lt 13, 3) := by decide +kernel
theorem d_CB_column_48 : decode b_CB_column 48 = .ok (.new 106, 3) := by decide +kernel
theorem d_CB_column_51 : decode b_CB_column 51 = .ok (.dup, 1) := by decide +kernel
theorem d_CB_column_52 : decode b_CB_column 52 = .ok (.ldc 108, 2) := by decide +kernel
theorem d_CB_column_54 : decode b_CB_column 54 = .ok (.invokespecial 110, 3) := by decide +kernel
theorem d_CB_column_57 : decode b_CB_column 57 = .ok (.athrow, 1) := by decide +kernel
theorem d_CB_column_58 : decode b_CB_column 58 = .ok (.aload_n 0, 1) := by decide +kernel
theorem d_CB_column_59 : decode b_CB_column 59 = .ok (.getfield 26, 3) := by decide +kernel
theorem d_CB_column_62 : decode b_CB_column 62 = .ok (.iload_n 1, 1) := by decide +kernel
theorem d_CB_column_63 : decode b_CB_column 63 = .ok (.invokevirtual 111, 3) := by decide +kernel
theorem d_CB_column_66 : decode b_CB_column 66 = .ok (.lreturn, 1) := by decide +kernel
theorem d_CB_rows_0 : decode b_CB_rows 0 = .ok (.iload_n 1, 1) := by decide +kernel
theorem d_CB_rows_1 : decode b_CB_rows 1 = .ok (.ifCond .lt 9, 3) := by decide +kernel
theorem d_CB_rows_4 : decode b_CB_rows 4 = .ok (.iload_n 1, 1) := by decide +kernel
theorem d_CB_rows_5 : decode b_CB_rows 5 = .ok (.bipush 10, 2) := by decide +kernel
theorem d_CB_rows_7 : decode b_CB_rows 7 = .ok (.if_icmp .lt 13, 3) := by decide +kernel
theorem d_CB_rows_10 : decode b_CB_rows 10 = .ok (.new 34, 3) := by decide +kernel
theorem d_CB_rows_13 : decode b_CB_rows 13 = .ok (.dup, 1) := by decide +kernel
theorem d_CB_rows_14 : decode b_CB_rows 14 = .ok (.ldc 115, 2) := by decide +kernel
theorem d_CB_rows_16 : decode b_CB_rows 16 = .ok (.invokespecial 38, 3) := by decide +kernel
theorem d_CB_rows_19 : decode b_CB_rows 19 = .ok (.athrow, 1) := by decide +kernel
theorem d_CB_rows_20 : decode b_CB_rows 20 = .ok (.aload_n 0, 1) := by decide +kernel
theorem d_CB_rows_21 : decode b_CB_rows 21 = .ok (.getfield 19, 3) := by decide +kernel
theorem d_CB_rows_24 : decode b_CB_rows 24 = .ok (.iload_n 1, 1) := by decide +kernel
theorem d_CB_rows_25 : decode b_CB_rows 25 = .ok (.invokevirtual 117, 3) := by decide +kernel
theorem d_CB_rows_28 : decode b_CB_rows 28 = .ok (.ifCond .eq 14, 3) := by decide +kernel
theorem d_CB_rows_31 : decode b_CB_rows 31 = .ok (.aload_n 0, 1) := by decide +kernel
theorem d_CB_rows_32 : decode b_CB_rows 32 = .ok (.getfield 19, 3) := by decide +kernel
theorem d_CB_rows_35 : decode b_CB_rows 35 = .ok (.iload_n 1, 1) := by decide +kernel
theorem d_CB_rows_36 : decode b_CB_rows 36 = .ok (.invokevirtual 121, 3) := by decide +kernel
theorem d_CB_rows_39 : decode b_CB_rows 39 = .ok (.goto 4, 3) := by decide +kernel
theorem d_CB_rows_42 : decode b_CB_rows 42 = .ok (.iconst (-1), 1) := by decide +kernel
theorem d_CB_rows_43 : decode b_CB_rows 43 = .ok (.ireturn, 1) := by decide +kernel
theorem d_CB_all_0 : decode b_CB_all 0 = .ok (.aload_n 0, 1) := by decide +kernel
theorem d_CB_all_1 : decode b_CB_all 1 = .ok (.getfield 19, 3) := by decide +kernel
theorem d_CB_all_4 : decode b_CB_all 4 = .ok (.invokevirtual 125, 3) := by decide +kernel
theorem d_CB_all_7 : decode b_CB_all 7 = .ok (.ireturn, 1) := by decide +kernel
theorem d_CB_nearest_0 : decode b_CB_nearest 0 = .ok (.aload_n 0, 1) := by decide +kernel
theorem d_CB_nearest_1 : decode b_CB_nearest 1 = .ok (.getfield 19, 3) := by decide +kernel
theorem d_CB_nearest_4 : decode b_CB_nearest 4 = .ok (.iload_n 1, 1) := by decide +kernel
theorem d_CB_nearest_5 : decode b_CB_nearest 5 = .ok (.invokevirtual 117, 3) := by decide +kernel
theorem d_CB_nearest_8 : decode b_CB_nearest 8 = .ok (.ifCond .ne 13, 3) := by decide +kernel
theorem d_CB_nearest_11 : decode b_CB_nearest 11 = .ok (.new 34, 3) := by decide +kernel
theorem d_CB_nearest_14 : decode b_CB_nearest 14 = .ok (.dup, 1) := by decide +kernel
theorem d_CB_nearest_15 : decode b_CB_nearest 15 = .ok (.ldc 128, 2) := by decide +kernel
theorem d_CB_nearest_17 : decode b_CB_nearest 17 = .ok (.invokespecial 38, 3) := by decide +kernel
theorem d_CB_nearest_20 : decode b_CB_nearest 20 = .ok (.athrow, 1) := by decide +kernel
theorem d_CB_nearest_21 : decode b_CB_nearest 21 = .ok (.aload_n 0, 1) := by decide +kernel
theorem d_CB_nearest_22 : decode b_CB_nearest 22 = .ok (.getfield 19, 3) := by decide +kernel
theorem d_CB_nearest_25 : decode b_CB_nearest 25 = .ok (.iload_n 1, 1) := by decide +kernel
theorem d_CB_nearest_26 : decode b_CB_nearest 26 = .ok (.iload_n 2, 1) := by decide +kernel
theorem d_CB_nearest_27 : decode b_CB_nearest 27 = .ok (.iload_n 3, 1) := by decide +kernel
theorem d_CB_nearest_28 : decode b_CB_nearest 28 = .ok (.invokevirtual 130, 3) := by decide +kernel
theorem d_CB_nearest_31 : decode b_CB_nearest 31 = .ok (.istore 4, 2) := by decide +kernel
theorem d_CB_nearest_33 : decode b_CB_nearest 33 = .ok (.iload 4, 2) := by decide +kernel
theorem d_CB_nearest_35 : decode b_CB_nearest 35 = .ok (.iconst (-1), 1) := by decide +kernel
theorem d_CB_nearest_36 : decode b_CB_nearest 36 = .ok (.if_icmp .ne 13, 3) := by decide +kernel
theorem d_CB_nearest_39 : decode b_CB_nearest 39 = .ok (.new 45, 3) := by decide +kernel
theorem d_CB_nearest_42 : decode b_CB_nearest 42 = .ok (.dup, 1) := by decide +kernel
theorem d_CB_nearest_43 : decode b_CB_nearest 43 = .ok (.ldc 134, 2) := by decide +kernel
theorem d_CB_nearest_45 : decode b_CB_nearest 45 = .ok (.invokespecial 49, 3) := by decide +kernel
theorem d_CB_nearest_48 : decode b_CB_nearest 48 = .ok (.athrow, 1) := by decide +kernel
theorem d_CB_nearest_49 : decode b_CB_nearest 49 = .ok (.aload_n 0, 1) := by decide +kernel
theorem d_CB_nearest_50 : decode b_CB_nearest 50 = .ok (.getfield 19, 3) := by decide +kernel
theorem d_CB_nearest_53 : decode b_CB_nearest 53 = .ok (.iload_n 1, 1) := by decide +kernel
theorem d_CB_nearest_54 : decode b_CB_nearest 54 = .ok (.iload 4, 2) := by decide +kernel
theorem d_CB_nearest_56 : decode b_CB_nearest 56 = .ok (.invokevirtual 136, 3) := by decide +kernel
theorem d_CB_nearest_59 : decode b_CB_nearest 59 = .ok (.ireturn, 1) := by decide +kernel
theorem d_CB_clear_0 : decode b_CB_clear 0 = .ok (.aload_n 0, 1) := by decide +kernel
theorem d_CB_clear_1 : decode b_CB_clear 1 = .ok (.getfield 10, 3) := by decide +kernel
theorem d_CB_clear_4 : decode b_CB_clear 4 = .ok (.invokevirtual 67, 3) := by decide +kernel
theorem d_CB_clear_7 : decode b_CB_clear 7 = .ok (.aload_n 0, 1) := by decide +kernel
theorem d_CB_clear_8 : decode b_CB_clear 8 = .ok (.getfield 19, 3) := by decide +kernel
theorem d_CB_clear_11 : decode b_CB_clear 11 = .ok (.invokevirtual 140, 3) := by decide +kernel
theorem d_CB_clear_14 : decode b_CB_clear 14 = .ok (.aload_n 0, 1) := by decide +kernel
theorem d_CB_clear_15 : decode b_CB_clear 15 = .ok (.getfield 26, 3) := by decide +kernel
theorem d_CB_clear_18 : decode b_CB_clear 18 = .ok (.aconst_null, 1) := by decide +kernel
theorem d_CB_clear_19 : decode b_CB_clear 19 = .ok (.invokevirtual 80, 3) := by decide +kernel
theorem d_CB_clear_22 : decode b_CB_clear 22 = .ok (.return_, 1) := by decide +kernel
theorem d_Mo_init_0 : decode b_Mo_init 0 = .ok (.aload_n 0, 1) := by decide +kernel
theorem d_Mo_init_1 : decode b_Mo_init 1 = .ok (.invokespecial 1, 3) := by decide +kernel
theorem d_Mo_init_4 : decode b_Mo_init 4 = .ok (.aload_n 0, 1) := by decide +kernel
theorem d_Mo_init_5 : decode b_Mo_init 5 = .ok (.bipush 10, 2) := by decide +kernel
theorem d_Mo_init_7 : decode b_Mo_init 7 = .ok (.newarray .int, 2) := by decide +kernel
theorem d_Mo_init_9 : decode b_Mo_init 9 = .ok (.putfield 7, 3) := by decide +kernel
theorem d_Mo_init_12 : decode b_Mo_init 12 = .ok (.aload_n 0, 1) := by decide +kernel
theorem d_Mo_init_13 : decode b_Mo_init 13 = .ok (.sipush 400, 3) := by decide +kernel
theorem d_Mo_init_16 : decode b_Mo_init 16 = .ok (.newarray .int, 2) := by decide +kernel
theorem d_Mo_init_18 : decode b_Mo_init 18 = .ok (.putfield 13, 3) := by decide +kernel
theorem d_Mo_init_21 : decode b_Mo_init 21 = .ok (.aload_n 0, 1) := by decide +kernel
theorem d_Mo_init_22 : decode b_Mo_init 22 = .ok (.sipush 2400, 3) := by decide +kernel
theorem d_Mo_init_25 : decode b_Mo_init 25 = .ok (.newarray .int, 2) := by decide +kernel
theorem d_Mo_init_27 : decode b_Mo_init 27 = .ok (.putfield 16, 3) := by decide +kernel
theorem d_Mo_init_30 : decode b_Mo_init 30 = .ok (.aload_n 0, 1) := by decide +kernel
theorem d_Mo_init_31 : decode b_Mo_init 31 = .ok (.bipush 60, 2) := by decide +kernel
theorem d_Mo_init_33 : decode b_Mo_init 33 = .ok (.newarray .int, 2) := by decide +kernel
theorem d_Mo_init_35 : decode b_Mo_init 35 = .ok (.putfield 19, 3) := by decide +kernel
theorem d_Mo_init_38 : decode b_Mo_init 38 = .ok (.aload_n 0, 1) := by decide +kernel
theorem d_Mo_init_39 : decode b_Mo_init 39 = .ok (.bipush 60, 2) := by decide +kernel
theorem d_Mo_init_41 : decode b_Mo_init 41 = .ok (.newarray .int, 2) := by decide +kernel
theorem d_Mo_init_43 : decode b_Mo_init 43 = .ok (.putfield 22, 3) := by decide +kernel
theorem d_Mo_init_46 : decode b_Mo_init 46 = .ok (.aload_n 0, 1) := by decide +kernel
theorem d_Mo_init_47 : decode b_Mo_init 47 = .ok (.bipush 60, 2) := by decide +kernel
theorem d_Mo_init_49 : decode b_Mo_init 49 = .ok (.newarray .int, 2) := by decide +kernel
theorem d_Mo_init_51 : decode b_Mo_init 51 = .ok (.putfield 25, 3) := by decide +kernel
theorem d_Mo_init_54 : decode b_Mo_init 54 = .ok (.aload_n 0, 1) := by decide +kernel
theorem d_Mo_init_55 : decode b_Mo_init 55 = .ok (.bipush 60, 2) := by decide +kernel
theorem d_Mo_init_57 : decode b_Mo_init 57 = .ok (.newarray .int, 2) := by decide +kernel
theorem d_Mo_init_59 : decode b_Mo_init 59 = .ok (.putfield 28, 3) := by decide +kernel
theorem d_Mo_init_62 : decode b_Mo_init 62 = .ok (.return_, 1) := by decide +kernel
theorem d_Mo_thrown_0 : decode b_Mo_thrown 0 = .ok (.aload_n 0, 1) := by decide +kernel
theorem d_Mo_thrown_1 : decode b_Mo_thrown 1 = .ok (.getfield 31, 3) := by decide +kernel
theorem d_Mo_thrown_4 : decode b_Mo_thrown 4 = .ok (.ireturn, 1) := by decide +kernel
theorem d_Mo_in_0 : decode b_Mo_in 0 = .ok (.lload_n 0, 1) := by decide +kernel
theorem d_Mo_in_1 : decode b_Mo_in 1 = .ok (.lload_n 2, 1) := by decide +kernel
theorem d_Mo_in_2 : decode b_Mo_in 2 = .ok (.lcmp, 1) := by decide +kernel
theorem d_Mo_in_3 : decode b_Mo_in 3 = .ok (.ifCond .lt 14, 3) := by decide +kernel
theorem d_Mo_in_6 : decode b_Mo_in 6 = .ok (.lload_n 0, 1) := by decide +kernel
theorem d_Mo_in_7 : decode b_Mo_in 7 = .ok (.lload 4, 2) := by decide +kernel
theorem d_Mo_in_9 : decode b_Mo_in 9 = .ok (.lcmp, 1) := by decide +kernel
theorem d_Mo_in_10 : decode b_Mo_in 10 = .ok (.ifCond .gt 7, 3) := by decide +kernel
theorem d_Mo_in_13 : decode b_Mo_in 13 = .ok (.iconst 1, 1) := by decide +kernel
theorem d_Mo_in_14 : decode b_Mo_in 14 = .ok (.goto 4, 3) := by decide +kernel
theorem d_Mo_in_17 : decode b_Mo_in 17 = .ok (.iconst 0, 1) := by decide +kernel
theorem d_Mo_in_18 : decode b_Mo_in 18 = .ok (.ireturn, 1) := by decide +kernel
theorem d_Mo_feed_0 : decode b_Mo_feed 0 = .ok (.iload_n 1, 1) := by decide +kernel
theorem d_Mo_feed_1 : decode b_Mo_feed 1 = .ok (.ifCond .ne 15, 3) := by decide +kernel
theorem d_Mo_feed_4 : decode b_Mo_feed 4 = .ok (.iload_n 2, 1) := by decide +kernel
theorem d_Mo_feed_5 : decode b_Mo_feed 5 = .ok (.i2l, 1) := by decide +kernel
theorem d_Mo_feed_6 : decode b_Mo_feed 6 = .ok (.lconst 0, 1) := by decide +kernel
theorem d_Mo_feed_7 : decode b_Mo_feed 7 = .ok (.ldc2_w 35, 3) := by decide +kernel
theorem d_Mo_feed_10 : decode b_Mo_feed 10 = .ok (.invokestatic 37, 3) := by decide +kernel
theorem d_Mo_feed_13 : decode b_Mo_feed 13 = .ok (.goto 69, 3) := by decide +kernel
theorem d_Mo_feed_16 : decode b_Mo_feed 16 = .ok (.iload_n 1, 1) := by decide +kernel
theorem d_Mo_feed_17 : decode b_Mo_feed 17 = .ok (.iconst 1, 1) := by decide +kernel
theorem d_Mo_feed_18 : decode b_Mo_feed 18 = .ok (.if_icmp .ne 15, 3) := by decide +kernel
theorem d_Mo_feed_21 : decode b_Mo_feed 21 = .ok (.iload_n 2, 1) := by decide +kernel
theorem d_Mo_feed_22 : decode b_Mo_feed 22 = .ok (.i2l, 1) := by decide +kernel
theorem d_Mo_feed_23 : decode b_Mo_feed 23 = .ok (.lconst 0, 1) := by decide +kernel
theorem d_Mo_feed_24 : decode b_Mo_feed 24 = .ok (.ldc2_w 41, 3) := by decide +kernel
theorem d_Mo_feed_27 : decode b_Mo_feed 27 = .ok (.invokestatic 37, 3) := by decide +kernel
theorem d_Mo_feed_30 : decode b_Mo_feed 30 = .ok (.goto 52, 3) := by decide +kernel
theorem d_Mo_feed_33 : decode b_Mo_feed 33 = .ok (.iload_n 1, 1) := by decide +kernel
theorem d_Mo_feed_34 : decode b_Mo_feed 34 = .ok (.iconst 2, 1) := by decide +kernel
theorem d_Mo_feed_35 : decode b_Mo_feed 35 = .ok (.if_icmp .ne 37, 3) := by decide +kernel
theorem d_Mo_feed_38 : decode b_Mo_feed 38 = .ok (.iload_n 2, 1) := by decide +kernel
theorem d_Mo_feed_39 : decode b_Mo_feed 39 = .ok (.i2l, 1) := by decide +kernel
theorem d_Mo_feed_40 : decode b_Mo_feed 40 = .ok (.lconst 0, 1) := by decide +kernel
theorem d_Mo_feed_41 : decode b_Mo_feed 41 = .ok (.ldc2_w 43, 3) := by decide +kernel
theorem d_Mo_feed_44 : decode b_Mo_feed 44 = .ok (.invokestatic 37, 3) := by decide +kernel
theorem d_Mo_feed_47 : decode b_Mo_feed 47 = .ok (.ifCond .ne 17, 3) := by decide +kernel
theorem d_Mo_feed_50 : decode b_Mo_feed 50 = .ok (.iload_n 2, 1) := by decide +kernel
theorem d_Mo_feed_51 : decode b_Mo_feed 51 = .ok (.i2l, 1) := by decide +kernel
theorem d_Mo_feed_52 : decode b_Mo_feed 52 = .ok (.ldc2_w 45, 3) := by decide +kernel
theorem d_Mo_feed_55 : decode b_Mo_feed 55 = .ok (.ldc2_w 47, 3) := by decide +kernel
theorem d_Mo_feed_58 : decode b_Mo_feed 58 = .ok (.invokestatic 37, 3) := by decide +kernel
theorem d_Mo_feed_61 : decode b_Mo_feed 61 = .ok (.ifCond .eq 7, 3) := by decide +kernel
theorem d_Mo_feed_64 : decode b_Mo_feed 64 = .ok (.iconst 1, 1) := by decide +kernel
theorem d_Mo_feed_65 : decode b_Mo_feed 65 = .ok (.goto 17, 3) := by decide +kernel
theorem d_Mo_feed_68 : decode b_Mo_feed 68 = .ok (.iconst 0, 1) := by decide +kernel
theorem d_Mo_feed_69 : decode b_Mo_feed 69 = .ok (.goto 13, 3) := by decide +kernel
theorem d_Mo_feed_72 : decode b_Mo_feed 72 = .ok (.iload_n 1, 1) := by decide +kernel
theorem d_Mo_feed_73 : decode b_Mo_feed 73 = .ok (.iconst 3, 1) := by decide +kernel
theorem d_Mo_feed_74 : decode b_Mo_feed 74 = .ok (.if_icmp .ne 7, 3) := by decide +kernel
theorem d_Mo_feed_77 : decode b_Mo_feed 77 = .ok (.iconst 1, 1) := by decide +kernel
theorem d_Mo_feed_78 : decode b_Mo_feed 78 = .ok (.goto 4, 3) := by decide +kernel
theorem d_Mo_feed_81 : decode b_Mo_feed 81 = .ok (.iconst 0, 1) := by decide +kernel
theorem d_Mo_feed_82 : decode b_Mo_feed 82 = .ok (.istore_n 3, 1) := by decide +kernel
theorem d_Mo_feed_83 : decode b_Mo_feed 83 = .ok (.aload_n 0, 1) := by decide +kernel
theorem d_Mo_feed_84 : decode b_Mo_feed 84 = .ok (.iload_n 3, 1) := by decide +kernel
theorem d_Mo_feed_85 : decode b_Mo_feed 85 = .ok (.ifCond .ne 7, 3) := by decide +kernel
theorem d_Mo_feed_88 : decode b_Mo_feed 88 = .ok (.iconst 1, 1) := by decide +kernel
theorem d_Mo_feed_89 : decode b_Mo_feed 89 = .ok (.goto 17, 3) := by decide +kernel
theorem d_Mo_feed_92 : decode b_Mo_feed 92 = .ok (.aload_n 0, 1) := by decide +kernel
theorem d_Mo_feed_93 : decode b_Mo_feed 93 = .ok (.getfield 49, 3) := by decide +kernel
theorem d_Mo_feed_96 : decode b_Mo_feed 96 = .ok (.bipush 60, 2) := by decide +kernel
theorem d_Mo_feed_98 : decode b_Mo_feed 98 = .ok (.if_icmp .ne 7, 3) := by decide +kernel
theorem d_Mo_feed_101 : decode b_Mo_feed 101 = .ok (.iconst 2, 1) := by decide +kernel
theorem d_Mo_feed_102 : decode b_Mo_feed 102 = .ok (.goto 4, 3) := by decide +kernel
theorem d_Mo_feed_105 : decode b_Mo_feed 105 = .ok (.iconst 0, 1) := by decide +kernel
theorem d_Mo_feed_106 : decode b_Mo_feed 106 = .ok (.putfield 31, 3) := by decide +kernel
theorem d_Mo_feed_109 : decode b_Mo_feed 109 = .ok (.aload_n 0, 1) := by decide +kernel
theorem d_Mo_feed_110 : decode b_Mo_feed 110 = .ok (.getfield 31, 3) := by decide +kernel
theorem d_Mo_feed_113 : decode b_Mo_feed 113 = .ok (.ifCond .le 5, 3) := by decide +kernel
theorem d_Mo_feed_116 : decode b_Mo_feed 116 = .ok (.iconst 0, 1) := by decide +kernel
theorem d_Mo_feed_117 : decode b_Mo_feed 117 = .ok (.ireturn, 1) := by decide +kernel
theorem d_Mo_feed_118 : decode b_Mo_feed 118 = .ok (.aload_n 0, 1) := by decide +kernel
theorem d_Mo_feed_119 : decode b_Mo_feed 119 = .ok (.getfield 19, 3) := by decide +kernel
theorem d_Mo_feed_122 : decode b_Mo_feed 122 = .ok (.aload_n 0, 1) := by decide +kernel
theorem d_Mo_feed_123 : decode b_Mo_feed 123 = .ok (.getfield 49, 3) := by decide +kernel
theorem d_Mo_feed_126 : decode b_Mo_feed 126 = .ok (.iload_n 1, 1) := by decide +kernel
theorem d_Mo_feed_127 : decode b_Mo_feed 127 = .ok (.iastore, 1) := by decide +kernel
theorem d_Mo_feed_128 : decode b_Mo_feed 128 = .ok (.aload_n 0, 1) := by decide +kernel
theorem d_Mo_feed_129 : decode b_Mo_feed 129 = .ok (.getfield 22, 3) := by decide +kernel
theorem d_Mo_feed_132 : decode b_Mo_feed 132 = .ok (.aload_n 0, 1) := by decide +kernel
theorem d_Mo_feed_133 : decode b_Mo_feed 133 = .ok (.getfield 49, 3) := by decide +kernel
theorem d_Mo_feed_136 : decode b_Mo_feed 136 = .ok (.iload_n 2, 1) := by decide +kernel
theorem d_Mo_feed_137 : decode b_Mo_feed 137 = .ok (.iastore, 1) := by decide +kernel
theorem d_Mo_feed_138 : decode b_Mo_feed 138 = .ok (.aload_n 0, 1) := by decide +kernel
theorem d_Mo_feed_139 : decode b_Mo_feed 139 = .ok (.dup, 1) := by decide +kernel
theorem d_Mo_feed_140 : decode b_Mo_feed 140 = .ok (.getfield 49, 3) := by decide +kernel
theorem d_Mo_feed_143 : decode b_Mo_feed 143 = .ok (.iconst 1, 1) := by decide +kernel
theorem d_Mo_feed_144 : decode b_Mo_feed 144 = .ok (.iadd, 1) := by decide +kernel
theorem d_Mo_feed_145 : decode b_Mo_feed 145 = .ok (.putfield 49, 3) := by decide +kernel
theorem d_Mo_feed_148 : decode b_Mo_feed 148 = .ok (.aload_n 0, 1) := by decide +kernel
theorem d_Mo_feed_149 : decode b_Mo_feed 149 = .ok (.getfield 49, 3) := by decide +kernel
theorem d_Mo_feed_152 : decode b_Mo_feed 152 = .ok (.ireturn, 1) := by decide +kernel
theorem d_Mo_isKind_0 : decode b_Mo_isKind 0 = .ok (.aload_n 0, 1) := by decide +kernel
theorem d_Mo_isKind_1 : decode b_Mo_isKind 1 = .ok (.getfield 52, 3) := by decide +kernel
theorem d_Mo_isKind_4 : decode b_Mo_isKind 4 = .ok (.aload_n 0, 1) := by decide +kernel
theorem d_Mo_isKind_5 : decode b_Mo_isKind 5 = .ok (.getfield 49, 3) := by decide +kernel
theorem d_Mo_isKind_8 : decode b_Mo_isKind 8 = .ok (.if_icmp .ge 20, 3) := by decide +kernel
theorem d_Mo_isKind_11 : decode b_Mo_isKind 11 = .ok (.aload_n 0, 1) := by decide +kernel
theorem d_Mo_isKind_12 : decode b_Mo_isKind 12 = .ok (.getfield 19, 3) := by decide +kernel
theorem d_Mo_isKind_15 : decode b_Mo_isKind 15 = .ok (.aload_n 0, 1) := by decide +kernel
theorem d_Mo_isKind_16 : decode b_Mo_isKind 16 = .ok (.getfield 52, 3) := by decide +kernel
theorem d_Mo_isKind_19 : decode b_Mo_isKind 19 = .ok (.iaload, 1) := by decide +kernel
theorem d_Mo_isKind_20 : decode b_Mo_isKind 20 = .ok (.iload_n 1, 1) := by decide +kernel
theorem d_Mo_isKind_21 : decode b_Mo_isKind 21 = .ok (.if_icmp .ne 7, 3) := by decide +kernel
theorem d_Mo_isKind_24 : decode b_Mo_isKind 24 = .ok (.iconst 1, 1) := by decide +kernel
theorem d_Mo_isKind_25 : decode b_Mo_isKind 25 = .ok (.goto 4, 3) := by decide +kernel
theorem d_Mo_isKind_28 : decode b_Mo_isKind 28 = .ok (.iconst 0, 1) := by decide +kernel
theorem d_Mo_isKind_29 : decode b_Mo_isKind 29 = .ok (.ireturn, 1) := by decide +kernel
theorem d_Mo_isWord_0 : decode b_Mo_isWord 0 = .ok (.aload_n 0, 1) := by decide +kernel
theorem d_Mo_isWord_1 : decode b_Mo_isWord 1 = .ok (.iconst 0, 1) := by decide +kernel
theorem d_Mo_isWord_2 : decode b_Mo_isWord 2 = .ok (.invokevirtual 55, 3) := by decide +kernel
theorem d_Mo_isWord_5 : decode b_Mo_isWord 5 = .ok (.ifCond .eq 20, 3) := by decide +kernel
theorem d_Mo_isWord_8 : decode b_Mo_isWord 8 = .ok (.aload_n 0, 1) := by decide +kernel
theorem d_Mo_isWord_9 : decode b_Mo_isWord 9 = .ok (.getfield 22, 3) := by decide +kernel
theorem d_Mo_isWord_12 : decode b_Mo_isWord 12 = .ok (.aload_n 0, 1) := by decide +kernel
theorem d_Mo_isWord_13 : decode b_Mo_isWord 13 = .ok (.getfield 52, 3) := by decide +kernel
theorem d_Mo_isWord_16 : decode b_Mo_isWord 16 = .ok (.iaload, 1) := by decide +kernel
theorem d_Mo_isWord_17 : decode b_Mo_isWord 17 = .ok (.iload_n 1, 1) := by decide +kernel
theorem d_Mo_isWord_18 : decode b_Mo_isWord 18 = .ok (.if_icmp .ne 7, 3) := by decide +kernel
theorem d_Mo_isWord_21 : decode b_Mo_isWord 21 = .ok (.iconst 1, 1) := by decide +kernel
theorem d_Mo_isWord_22 : decode b_Mo_isWord 22 = .ok (.goto 4, 3) := by decide +kernel
theorem d_Mo_isWord_25 : decode b_Mo_isWord 25 = .ok (.iconst 0, 1) := by decide +kernel
theorem d_Mo_isWord_26 : decode b_Mo_isWord 26 = .ok (.ireturn, 1) := by decide +kernel
theorem d_Mo_skips_0 : decode b_Mo_skips 0 = .ok (.aload_n 0, 1) := by decide +kernel
theorem d_Mo_skips_1 : decode b_Mo_skips 1 = .ok (.iload_n 1, 1) := by decide +kernel
theorem d_Mo_skips_2 : decode b_Mo_skips 2 = .ok (.invokevirtual 59, 3) := by decide +kernel
theorem d_Mo_skips_5 : decode b_Mo_skips 5 = .ok (.ifCond .ne 5, 3) := by decide +kernel
theorem d_Mo_skips_8 : decode b_Mo_skips 8 = .ok (.iconst 0, 1) := by decide +kernel
theorem d_Mo_skips_9 : decode b_Mo_skips 9 = .ok (.ireturn, 1) := by decide +kernel
theorem d_Mo_skips_10 : decode b_Mo_skips 10 = .ok (.aload_n 0, 1) := by decide +kernel
theorem d_Mo_skips_11 : decode b_Mo_skips 11 = .ok (.dup, 1) := by decide +kernel
theorem d_Mo_skips_12 : decode b_Mo_skips 12 = .ok (.getfield 52, 3) := by decide +kernel
theorem d_Mo_skips_15 : decode b_Mo_skips 15 = .ok (.iconst 1, 1) := by decide +kernel
theorem d_Mo_skips_16 : decode b_Mo_skips 16 = .ok (.iadd, 1) := by decide +kernel
theorem d_Mo_skips_17 : decode b_Mo_skips 17 = .ok (.putfield 52, 3) := by decide +kernel
theorem d_Mo_skips_20 : decode b_Mo_skips 20 = .ok (.iconst 1, 1) := by decide +kernel
theorem d_Mo_skips_21 : decode b_Mo_skips 21 = .ok (.ireturn, 1) := by decide +kernel
theorem d_Mo_readsTable_0 : decode b_Mo_readsTable 0 = .ok (.aload_n 0, 1) := by decide +kernel
theorem d_Mo_readsTable_1 : decode b_Mo_readsTable 1 = .ok (.iconst 1, 1) := by decide +kernel
theorem d_Mo_readsTable_2 : decode b_Mo_readsTable 2 = .ok (.invokevirtual 55, 3) := by decide +kernel
theorem d_Mo_readsTable_5 : decode b_Mo_readsTable 5 = .ok (.ifCond .ne 5, 3) := by decide +kernel
theorem d_Mo_readsTable_8 : decode b_Mo_readsTable 8 = .ok (.iconst (-1), 1) := by decide +kernel
theorem d_Mo_readsTable_9 : decode b_Mo_readsTable 9 = .ok (.ireturn, 1) := by decide +kernel
theorem d_Mo_readsTable_10 : decode b_Mo_readsTable 10 = .ok (.aload_n 0, 1) := by decide +kernel
theorem d_Mo_readsTable_11 : decode b_Mo_readsTable 11 = .ok (.dup, 1) := by decide +kernel
theorem d_Mo_readsTable_12 : decode b_Mo_readsTable 12 = .ok (.getfield 52, 3) := by decide +kernel
theorem d_Mo_readsTable_15 : decode b_Mo_readsTable 15 = .ok (.iconst 1, 1) := by decide +kernel
theorem d_Mo_readsTable_16 : decode b_Mo_readsTable 16 = .ok (.iadd, 1) := by decide +kernel
theorem d_Mo_readsTable_17 : decode b_Mo_readsTable 17 = .ok (.putfield 52, 3) := by decide +kernel
theorem d_Mo_readsTable_20 : decode b_Mo_readsTable 20 = .ok (.aload_n 0, 1) := by decide +kernel
theorem d_Mo_readsTable_21 : decode b_Mo_readsTable 21 = .ok (.getfield 22, 3) := by decide +kernel
theorem d_Mo_readsTable_24 : decode b_Mo_readsTable 24 = .ok (.aload_n 0, 1) := by decide +kernel
theorem d_Mo_readsTable_25 : decode b_Mo_readsTable 25 = .ok (.getfield 52, 3) := by decide +kernel
theorem d_Mo_readsTable_28 : decode b_Mo_readsTable 28 = .ok (.iconst 1, 1) := by decide +kernel
theorem d_Mo_readsTable_29 : decode b_Mo_readsTable 29 = .ok (.isub, 1) := by decide +kernel
theorem d_Mo_readsTable_30 : decode b_Mo_readsTable 30 = .ok (.iaload, 1) := by decide +kernel
theorem d_Mo_readsTable_31 : decode b_Mo_readsTable 31 = .ok (.ireturn, 1) := by decide +kernel
theorem d_Mo_readsOperand_0 : decode b_Mo_readsOperand 0 = .ok (.aload_n 0, 1) := by decide +kernel
theorem d_Mo_readsOperand_1 : decode b_Mo_readsOperand 1 = .ok (.iconst 2, 1) := by decide +kernel
theorem d_Mo_readsOperand_2 : decode b_Mo_readsOperand 2 = .ok (.invokevirtual 55, 3) := by decide +kernel
theorem d_Mo_readsOperand_5 : decode b_Mo_readsOperand 5 = .ok (.ifCond .ne 13, 3) := by decide +kernel
theorem d_Mo_readsOperand_8 : decode b_Mo_readsOperand 8 = .ok (.aload_n 0, 1) := by decide +kernel
theorem d_Mo_readsOperand_9 : decode b_Mo_readsOperand 9 = .ok (.iconst 3, 1) := by decide +kernel
theorem d_Mo_readsOperand_10 : decode b_Mo_readsOperand 10 = .ok (.invokevirtual 55, 3) := by decide +kernel
theorem d_Mo_readsOperand_13 : decode b_Mo_readsOperand 13 = .ok (.ifCond .ne 5, 3) := by decide +kernel
theorem d_Mo_readsOperand_16 : decode b_Mo_readsOperand 16 = .ok (.iconst 0, 1) := by decide +kernel
theorem d_Mo_readsOperand_17 : decode b_Mo_readsOperand 17 = .ok (.ireturn, 1) := by decide +kernel
theorem d_Mo_readsOperand_18 : decode b_Mo_readsOperand 18 = .ok (.aload_n 0, 1) := by decide +kernel
theorem d_Mo_readsOperand_19 : decode b_Mo_readsOperand 19 = .ok (.dup, 1) := by decide +kernel
theorem d_Mo_readsOperand_20 : decode b_Mo_readsOperand 20 = .ok (.getfield 52, 3) := by decide +kernel
theorem d_Mo_readsOperand_23 : decode b_Mo_readsOperand 23 = .ok (.iconst 1, 1) := by decide +kernel
theorem d_Mo_readsOperand_24 : decode b_Mo_readsOperand 24 = .ok (.iadd, 1) := by decide +kernel
theorem d_Mo_readsOperand_25 : decode b_Mo_readsOperand 25 = .ok (.putfield 52, 3) := by decide +kernel
theorem d_Mo_readsOperand_28 : decode b_Mo_readsOperand 28 = .ok (.iconst 1, 1) := by decide +kernel
theorem d_Mo_readsOperand_29 : decode b_Mo_readsOperand 29 = .ok (.ireturn, 1) := by decide +kernel
theorem d_Mo_readsConditions_0 : decode b_Mo_readsConditions 0 = .ok (.aload_n 0, 1) := by decide +kernel
theorem d_Mo_readsConditions_1 : decode b_Mo_readsConditions 1 = .ok (.aload_n 0, 1) := by decide +kernel
theorem d_Mo_readsConditions_2 : decode b_Mo_readsConditions 2 = .ok (.getfield 52, 3) := by decide +kernel
theorem d_Mo_readsConditions_5 : decode b_Mo_readsConditions 5 = .ok (.putfield 62, 3) := by decide +kernel
theorem d_Mo_readsConditions_8 : decode b_Mo_readsConditions 8 = .ok (.aload_n 0, 1) := by decide +kernel
theorem d_Mo_readsConditions_9 : decode b_Mo_readsConditions 9 = .ok (.aload_n 0, 1) := by decide +kernel
theorem d_Mo_readsConditions_10 : decode b_Mo_readsConditions 10 = .ok (.getfield 52, 3) := by decide +kernel
theorem d_Mo_readsConditions_13 : decode b_Mo_readsConditions 13 = .ok (.putfield 65, 3) := by decide +kernel
theorem d_Mo_readsConditions_16 : decode b_Mo_readsConditions 16 = .ok (.aload_n 0, 1) := by decide +kernel
theorem d_Mo_readsConditions_17 : decode b_Mo_readsConditions 17 = .ok (.bipush 8, 2) := by decide +kernel
theorem d_Mo_readsConditions_19 : decode b_Mo_readsConditions 19 = .ok (.invokevirtual 68, 3) := by decide +kernel
theorem d_Mo_readsConditions_22 : decode b_Mo_readsConditions 22 = .ok (.ifCond .ne 5, 3) := by decide +kernel
theorem d_Mo_readsConditions_25 : decode b_Mo_readsConditions 25 = .ok (.iconst 1, 1) := by decide +kernel
theorem d_Mo_readsConditions_26 : decode b_Mo_readsConditions 26 = .ok (.ireturn, 1) := by decide +kernel
theorem d_Mo_readsConditions_27 : decode b_Mo_readsConditions 27 = .ok (.aload_n 0, 1) := by decide +kernel
theorem d_Mo_readsConditions_28 : decode b_Mo_readsConditions 28 = .ok (.aload_n 0, 1) := by decide +kernel
theorem d_Mo_readsConditions_29 : decode b_Mo_readsConditions 29 = .ok (.getfield 52, 3) := by decide +kernel
theorem d_Mo_readsConditions_32 : decode b_Mo_readsConditions 32 = .ok (.putfield 62, 3) := by decide +kernel
theorem d_Mo_readsConditions_35 : decode b_Mo_readsConditions 35 = .ok (.iconst 0, 1) := by decide +kernel
theorem d_Mo_readsConditions_36 : decode b_Mo_readsConditions 36 = .ok (.istore_n 1, 1) := by decide +kernel
theorem d_Mo_readsConditions_37 : decode b_Mo_readsConditions 37 = .ok (.iload_n 1, 1) := by decide +kernel
theorem d_Mo_readsConditions_38 : decode b_Mo_readsConditions 38 = .ok (.bipush 8, 2) := by decide +kernel
theorem d_Mo_readsConditions_40 : decode b_Mo_readsConditions 40 = .ok (.if_icmp .ge 75, 3) := by decide +kernel
theorem d_Mo_readsConditions_43 : decode b_Mo_readsConditions 43 = .ok (.iload_n 1, 1) := by decide +kernel
theorem d_Mo_readsConditions_44 : decode b_Mo_readsConditions 44 = .ok (.ifCond .le 14, 3) := by decide +kernel
theorem d_Mo_readsConditions_47 : decode b_Mo_readsConditions 47 = .ok (.aload_n 0, 1) := by decide +kernel
theorem d_Mo_readsConditions_48 : decode b_Mo_readsConditions 48 = .ok (.bipush 9, 2) := by decide +kernel
theorem d_Mo_readsConditions_50 : decode b_Mo_readsConditions 50 = .ok (.invokevirtual 68, 3) := by decide +kernel
theorem d_Mo_readsConditions_53 : decode b_Mo_readsConditions 53 = .ok (.ifCond .ne 5, 3) := by decide +kernel
theorem d_Mo_readsConditions_56 : decode b_Mo_readsConditions 56 = .ok (.iconst 1, 1) := by decide +kernel
theorem d_Mo_readsConditions_57 : decode b_Mo_readsConditions 57 = .ok (.ireturn, 1) := by decide +kernel
theorem d_Mo_readsConditions_58 : decode b_Mo_readsConditions 58 = .ok (.aload_n 0, 1) := by decide +kernel
theorem d_Mo_readsConditions_59 : decode b_Mo_readsConditions 59 = .ok (.invokevirtual 71, 3) := by decide +kernel
theorem d_Mo_readsConditions_62 : decode b_Mo_readsConditions 62 = .ok (.ifCond .eq 37, 3) := by decide +kernel
theorem d_Mo_readsConditions_65 : decode b_Mo_readsConditions 65 = .ok (.aload_n 0, 1) := by decide +kernel
theorem d_Mo_readsConditions_66 : decode b_Mo_readsConditions 66 = .ok (.bipush 10, 2) := by decide +kernel
theorem d_Mo_readsConditions_68 : decode b_Mo_readsConditions 68 = .ok (.invokevirtual 68, 3) := by decide +kernel
theorem d_Mo_readsConditions_71 : decode b_Mo_readsConditions 71 = .ok (.ifCond .ne 21, 3) := by decide +kernel
theorem d_Mo_readsConditions_74 : decode b_Mo_readsConditions 74 = .ok (.aload_n 0, 1) := by decide +kernel
theorem d_Mo_readsConditions_75 : decode b_Mo_readsConditions 75 = .ok (.bipush 11, 2) := by decide +kernel
theorem d_Mo_readsConditions_77 : decode b_Mo_readsConditions 77 = .ok (.invokevirtual 68, 3) := by decide +kernel
theorem d_Mo_readsConditions_80 : decode b_Mo_readsConditions 80 = .ok (.ifCond .ne 12, 3) := by decide +kernel
theorem d_Mo_readsConditions_83 : decode b_Mo_readsConditions 83 = .ok (.aload_n 0, 1) := by decide +kernel
theorem d_Mo_readsConditions_84 : decode b_Mo_readsConditions 84 = .ok (.bipush 12, 2) := by decide +kernel
theorem d_Mo_readsConditions_86 : decode b_Mo_readsConditions 86 = .ok (.invokevirtual 68, 3) := by decide +kernel
theorem d_Mo_readsConditions_89 : decode b_Mo_readsConditions 89 = .ok (.ifCond .eq 10, 3) := by decide +kernel
theorem d_Mo_readsConditions_92 : decode b_Mo_readsConditions 92 = .ok (.aload_n 0, 1) := by decide +kernel
theorem d_Mo_readsConditions_93 : decode b_Mo_readsConditions 93 = .ok (.invokevirtual 71, 3) := by decide +kernel
theorem d_Mo_readsConditions_96 : decode b_Mo_readsConditions 96 = .ok (.ifCond .ne 5, 3) := by decide +kernel
theorem d_Mo_readsConditions_99 : decode b_Mo_readsConditions 99 = .ok (.iconst 0, 1) := by decide +kernel
theorem d_Mo_readsConditions_100 : decode b_Mo_readsConditions 100 = .ok (.ireturn, 1) := by decide +kernel
theorem d_Mo_readsConditions_101 : decode b_Mo_readsConditions 101 = .ok (.aload_n 0, 1) := by decide +kernel
theorem d_Mo_readsConditions_102 : decode b_Mo_readsConditions 102 = .ok (.aload_n 0, 1) := by decide +kernel
theorem d_Mo_readsConditions_103 : decode b_Mo_readsConditions 103 = .ok (.getfield 52, 3) := by decide +kernel
theorem d_Mo_readsConditions_106 : decode b_Mo_readsConditions 106 = .ok (.putfield 65, 3) := by decide +kernel
theorem d_Mo_readsConditions_109 : decode b_Mo_readsConditions 109 = .ok (.iinc 1 1, 3) := by decide +kernel
theorem d_Mo_readsConditions_112 : decode b_Mo_readsConditions 112 = .ok (.goto (-75), 3) := by decide +kernel
theorem d_Mo_readsConditions_115 : decode b_Mo_readsConditions 115 = .ok (.iconst 1, 1) := by decide +kernel
theorem d_Mo_readsConditions_116 : decode b_Mo_readsConditions 116 = .ok (.ireturn, 1) := by decide +kernel
theorem d_Mo_readsList_0 : decode b_Mo_readsList 0 = .ok (.aload_n 0, 1) := by decide +kernel
theorem d_Mo_readsList_1 : decode b_Mo_readsList 1 = .ok (.iconst 4, 1) := by decide +kernel
theorem d_Mo_readsList_2 : decode b_Mo_readsList 2 = .ok (.invokevirtual 68, 3) := by decide +kernel
theorem d_Mo_readsList_5 : decode b_Mo_readsList 5 = .ok (.ifCond .ne 11, 3) := by decide +kernel
theorem d_Mo_readsList_8 : decode b_Mo_readsList 8 = .ok (.aload_n 0, 1) := by decide +kernel
theorem d_Mo_readsList_9 : decode b_Mo_readsList 9 = .ok (.iconst 5, 1) := by decide +kernel
theorem d_Mo_readsList_10 : decode b_Mo_readsList 10 = .ok (.invokevirtual 68, 3) := by decide +kernel
theorem d_Mo_readsList_13 : decode b_Mo_readsList 13 = .ok (.ifCond .eq 5, 3) := by decide +kernel
theorem d_Mo_readsList_16 : decode b_Mo_readsList 16 = .ok (.iconst 1, 1) := by decide +kernel
theorem d_Mo_readsList_17 : decode b_Mo_readsList 17 = .ok (.ireturn, 1) := by decide +kernel
theorem d_Mo_readsList_18 : decode b_Mo_readsList 18 = .ok (.aload_n 0, 1) := by decide +kernel
theorem d_Mo_readsList_19 : decode b_Mo_readsList 19 = .ok (.bipush 6, 2) := by decide +kernel
theorem d_Mo_readsList_21 : decode b_Mo_readsList 21 = .ok (.invokevirtual 68, 3) := by decide +kernel
theorem d_Mo_readsList_24 : decode b_Mo_readsList 24 = .ok (.istore_n 1, 1) := by decide +kernel
theorem d_Mo_readsList_25 : decode b_Mo_readsList 25 = .ok (.iconst 0, 1) := by decide +kernel
theorem d_Mo_readsList_26 : decode b_Mo_readsList 26 = .ok (.istore_n 2, 1) := by decide +kernel
theorem d_Mo_readsList_27 : decode b_Mo_readsList 27 = .ok (.aload_n 0, 1) := by decide +kernel
theorem d_Mo_readsList_28 : decode b_Mo_readsList 28 = .ok (.iconst 2, 1) := by decide +kernel
theorem d_Mo_readsList_29 : decode b_Mo_readsList 29 = .ok (.invokevirtual 55, 3) := by decide +kernel
theorem d_Mo_readsList_32 : decode b_Mo_readsList 32 = .ok (.ifCond .eq 19, 3) := by decide +kernel
theorem d_Mo_readsList_35 : decode b_Mo_readsList 35 = .ok (.aload_n 0, 1) := by decide +kernel
theorem d_Mo_readsList_36 : decode b_Mo_readsList 36 = .ok (.dup, 1) := by decide +kernel
theorem d_Mo_readsList_37 : decode b_Mo_readsList 37 = .ok (.getfield 52, 3) := by decide +kernel
theorem d_Mo_readsList_40 : decode b_Mo_readsList 40 = .ok (.iconst 1, 1) := by decide +kernel
theorem d_Mo_readsList_41 : decode b_Mo_readsList 41 = .ok (.iadd, 1) := by decide +kernel
theorem d_Mo_readsList_42 : decode b_Mo_readsList 42 = .ok (.putfield 52, 3) := by decide +kernel
theorem d_Mo_readsList_45 : decode b_Mo_readsList 45 = .ok (.iinc 2 1, 3) := by decide +kernel
theorem d_Mo_readsList_48 : decode b_Mo_readsList 48 = .ok (.goto (-21), 3) := by decide +kernel
theorem d_Mo_readsList_51 : decode b_Mo_readsList 51 = .ok (.iload_n 1, 1) := by decide +kernel
theorem d_Mo_readsList_52 : decode b_Mo_readsList 52 = .ok (.ifCond .eq 16, 3) := by decide +kernel
theorem d_Mo_readsList_55 : decode b_Mo_readsList 55 = .ok (.iload_n 2, 1) := by decide +kernel
theorem d_Mo_readsList_56 : decode b_Mo_readsList 56 = .ok (.iconst 1, 1) := by decide +kernel
theorem d_Mo_readsList_57 : decode b_Mo_readsList 57 = .ok (.if_icmp .ne 7, 3) := by decide +kernel
theorem d_Mo_readsList_60 : decode b_Mo_readsList 60 = .ok (.iconst 1, 1) := by decide +kernel
theorem d_Mo_readsList_61 : decode b_Mo_readsList 61 = .ok (.goto 23, 3) := by decide +kernel
theorem d_Mo_readsList_64 : decode b_Mo_readsList 64 = .ok (.iconst 0, 1) := by decide +kernel
theorem d_Mo_readsList_65 : decode b_Mo_readsList 65 = .ok (.goto 19, 3) := by decide +kernel
theorem d_Mo_readsList_68 : decode b_Mo_readsList 68 = .ok (.iload_n 2, 1) := by decide +kernel
theorem d_Mo_readsList_69 : decode b_Mo_readsList 69 = .ok (.iconst 1, 1) := by decide +kernel
theorem d_Mo_readsList_70 : decode b_Mo_readsList 70 = .ok (.if_icmp .lt 13, 3) := by decide +kernel
theorem d_Mo_readsList_73 : decode b_Mo_readsList 73 = .ok (.iload_n 2, 1) := by decide +kernel
theorem d_Mo_readsList_74 : decode b_Mo_readsList 74 = .ok (.bipush 8, 2) := by decide +kernel
theorem d_Mo_readsList_76 : decode b_Mo_readsList 76 = .ok (.if_icmp .gt 7, 3) := by decide +kernel
theorem d_Mo_readsList_79 : decode b_Mo_readsList 79 = .ok (.iconst 1, 1) := by decide +kernel
theorem d_Mo_readsList_80 : decode b_Mo_readsList 80 = .ok (.goto 4, 3) := by decide +kernel
theorem d_Mo_readsList_83 : decode b_Mo_readsList 83 = .ok (.iconst 0, 1) := by decide +kernel
theorem d_Mo_readsList_84 : decode b_Mo_readsList 84 = .ok (.ireturn, 1) := by decide +kernel
theorem d_Mo_readsSelect_0 : decode b_Mo_readsSelect 0 = .ok (.aload_n 0, 1) := by decide +kernel
theorem d_Mo_readsSelect_1 : decode b_Mo_readsSelect 1 = .ok (.invokevirtual 75, 3) := by decide +kernel
theorem d_Mo_readsSelect_4 : decode b_Mo_readsSelect 4 = .ok (.ifCond .eq 12, 3) := by decide +kernel
theorem d_Mo_readsSelect_7 : decode b_Mo_readsSelect 7 = .ok (.aload_n 0, 1) := by decide +kernel
theorem d_Mo_readsSelect_8 : decode b_Mo_readsSelect 8 = .ok (.bipush 7, 2) := by decide +kernel
theorem d_Mo_readsSelect_10 : decode b_Mo_readsSelect 10 = .ok (.invokevirtual 68, 3) := by decide +kernel
theorem d_Mo_readsSelect_13 : decode b_Mo_readsSelect 13 = .ok (.ifCond .ne 5, 3) := by decide +kernel
theorem d_Mo_readsSelect_16 : decode b_Mo_readsSelect 16 = .ok (.iconst 0, 1) := by decide +kernel
theorem d_Mo_readsSelect_17 : decode b_Mo_readsSelect 17 = .ok (.ireturn, 1) := by decide +kernel
theorem d_Mo_readsSelect_18 : decode b_Mo_readsSelect 18 = .ok (.aload_n 0, 1) := by decide +kernel
theorem d_Mo_readsSelect_19 : decode b_Mo_readsSelect 19 = .ok (.aload_n 0, 1) := by decide +kernel
theorem d_Mo_readsSelect_20 : decode b_Mo_readsSelect 20 = .ok (.invokevirtual 78, 3) := by decide +kernel
theorem d_Mo_readsSelect_23 : decode b_Mo_readsSelect 23 = .ok (.putfield 82, 3) := by decide +kernel
theorem d_Mo_readsSelect_26 : decode b_Mo_readsSelect 26 = .ok (.aload_n 0, 1) := by decide +kernel
theorem d_Mo_readsSelect_27 : decode b_Mo_readsSelect 27 = .ok (.aload_n 0, 1) := by decide +kernel
theorem d_Mo_readsSelect_28 : decode b_Mo_readsSelect 28 = .ok (.invokevirtual 78, 3) := by decide +kernel
theorem d_Mo_readsSelect_31 : decode b_Mo_readsSelect 31 = .ok (.putfield 85, 3) := by decide +kernel
theorem d_Mo_readsSelect_34 : decode b_Mo_readsSelect 34 = .ok (.aload_n 0, 1) := by decide +kernel
theorem d_Mo_readsSelect_35 : decode b_Mo_readsSelect 35 = .ok (.getfield 82, 3) := by decide +kernel
theorem d_Mo_readsSelect_38 : decode b_Mo_readsSelect 38 = .ok (.iconst (-1), 1) := by decide +kernel
theorem d_Mo_readsSelect_39 : decode b_Mo_readsSelect 39 = .ok (.if_icmp .eq 10, 3) := by decide +kernel
theorem d_Mo_readsSelect_42 : decode b_Mo_readsSelect 42 = .ok (.aload_n 0, 1) := by decide +kernel
theorem d_Mo_readsSelect_43 : decode b_Mo_readsSelect 43 = .ok (.invokevirtual 88, 3) := by decide +kernel
theorem d_Mo_readsSelect_46 : decode b_Mo_readsSelect 46 = .ok (.ifCond .ne 5, 3) := by decide +kernel
theorem d_Mo_readsSelect_49 : decode b_Mo_readsSelect 49 = .ok (.iconst 0, 1) := by decide +kernel
theorem d_Mo_readsSelect_50 : decode b_Mo_readsSelect 50 = .ok (.ireturn, 1) := by decide +kernel
theorem d_Mo_readsSelect_51 : decode b_Mo_readsSelect 51 = .ok (.aload_n 0, 1) := by decide +kernel
theorem d_Mo_readsSelect_52 : decode b_Mo_readsSelect 52 = .ok (.aload_n 0, 1) := by decide +kernel
theorem d_Mo_readsSelect_53 : decode b_Mo_readsSelect 53 = .ok (.bipush 13, 2) := by decide +kernel
theorem d_Mo_readsSelect_55 : decode b_Mo_readsSelect 55 = .ok (.invokevirtual 68, 3) := by decide +kernel
theorem d_Mo_readsSelect_58 : decode b_Mo_readsSelect 58 = .ok (.putfield 91, 3) := by decide +kernel
theorem d_Mo_readsSelect_61 : decode b_Mo_readsSelect 61 = .ok (.iconst 1, 1) := by decide +kernel
theorem d_Mo_readsSelect_62 : decode b_Mo_readsSelect 62 = .ok (.ireturn, 1) := by decide +kernel
theorem d_Mo_reads_0 : decode b_Mo_reads 0 = .ok (.aload_n 0, 1) := by decide +kernel
theorem d_Mo_reads_1 : decode b_Mo_reads 1 = .ok (.iconst 1, 1) := by decide +kernel
theorem d_Mo_reads_2 : decode b_Mo_reads 2 = .ok (.putfield 52, 3) := by decide +kernel
theorem d_Mo_reads_5 : decode b_Mo_reads 5 = .ok (.aload_n 0, 1) := by decide +kernel
theorem d_Mo_reads_6 : decode b_Mo_reads 6 = .ok (.iconst (-1), 1) := by decide +kernel
theorem d_Mo_reads_7 : decode b_Mo_reads 7 = .ok (.putfield 85, 3) := by decide +kernel
theorem d_Mo_reads_10 : decode b_Mo_reads 10 = .ok (.aload_n 0, 1) := by decide +kernel
theorem d_Mo_reads_11 : decode b_Mo_reads 11 = .ok (.iconst 0, 1) := by decide +kernel
theorem d_Mo_reads_12 : decode b_Mo_reads 12 = .ok (.putfield 91, 3) := by decide +kernel
theorem d_Mo_reads_15 : decode b_Mo_reads 15 = .ok (.aload_n 0, 1) := by decide +kernel
theorem d_Mo_reads_16 : decode b_Mo_reads 16 = .ok (.iconst 0, 1) := by decide +kernel
theorem d_Mo_reads_17 : decode b_Mo_reads 17 = .ok (.putfield 62, 3) := by decide +kernel
theorem d_Mo_reads_20 : decode b_Mo_reads 20 = .ok (.aload_n 0, 1) := by decide +kernel
theorem d_Mo_reads_21 : decode b_Mo_reads 21 = .ok (.iconst 0, 1) := by decide +kernel
theorem d_Mo_reads_22 : decode b_Mo_reads 22 = .ok (.putfield 65, 3) := by decide +kernel
theorem d_Mo_reads_25 : decode b_Mo_reads 25 = .ok (.aload_n 0, 1) := by decide +kernel
theorem d_Mo_reads_26 : decode b_Mo_reads 26 = .ok (.getfield 49, 3) := by decide +kernel
theorem d_Mo_reads_29 : decode b_Mo_reads 29 = .ok (.ifCond .eq 12, 3) := by decide +kernel
theorem d_Mo_reads_32 : decode b_Mo_reads 32 = .ok (.aload_n 0, 1) := by decide +kernel
theorem d_Mo_reads_33 : decode b_Mo_reads 33 = .ok (.getfield 19, 3) := by decide +kernel
theorem d_Mo_reads_36 : decode b_Mo_reads 36 = .ok (.iconst 0, 1) := by decide +kernel
theorem d_Mo_reads_37 : decode b_Mo_reads 37 = .ok (.iaload, 1) := by decide +kernel
theorem d_Mo_reads_38 : decode b_Mo_reads 38 = .ok (.ifCond .eq 5, 3) := by decide +kernel
theorem d_Mo_reads_41 : decode b_Mo_reads 41 = .ok (.iconst 0, 1) := by decide +kernel
theorem d_Mo_reads_42 : decode b_Mo_reads 42 = .ok (.ireturn, 1) := by decide +kernel
theorem d_Mo_reads_43 : decode b_Mo_reads 43 = .ok (.aload_n 0, 1) := by decide +kernel
theorem d_Mo_reads_44 : decode b_Mo_reads 44 = .ok (.getfield 22, 3) := by decide +kernel
theorem d_Mo_reads_47 : decode b_Mo_reads 47 = .ok (.iconst 0, 1) := by decide +kernel
theorem d_Mo_reads_48 : decode b_Mo_reads 48 = .ok (.iaload, 1) := by decide +kernel
theorem d_Mo_reads_49 : decode b_Mo_reads 49 = .ok (.iconst 3, 1) := by decide +kernel
theorem d_Mo_reads_50 : decode b_Mo_reads 50 = .ok (.if_icmp .ne 27, 3) := by decide +kernel
theorem d_Mo_reads_53 : decode b_Mo_reads 53 = .ok (.aload_n 0, 1) := by decide +kernel
theorem d_Mo_reads_54 : decode b_Mo_reads 54 = .ok (.invokevirtual 95, 3) := by decide +kernel
theorem d_Mo_reads_57 : decode b_Mo_reads 57 = .ok (.ifCond .eq 18, 3) := by decide +kernel
theorem d_Mo_reads_60 : decode b_Mo_reads 60 = .ok (.aload_n 0, 1) := by decide +kernel
theorem d_Mo_reads_61 : decode b_Mo_reads 61 = .ok (.getfield 52, 3) := by decide +kernel
theorem d_Mo_reads_64 : decode b_Mo_reads 64 = .ok (.aload_n 0, 1) := by decide +kernel
theorem d_Mo_reads_65 : decode b_Mo_reads 65 = .ok (.getfield 49, 3) := by decide +kernel
theorem d_Mo_reads_68 : decode b_Mo_reads 68 = .ok (.if_icmp .ne 7, 3) := by decide +kernel
theorem d_Mo_reads_71 : decode b_Mo_reads 71 = .ok (.iconst 1, 1) := by decide +kernel
theorem d_Mo_reads_72 : decode b_Mo_reads 72 = .ok (.goto 4, 3) := by decide +kernel
theorem d_Mo_reads_75 : decode b_Mo_reads 75 = .ok (.iconst 0, 1) := by decide +kernel
theorem d_Mo_reads_76 : decode b_Mo_reads 76 = .ok (.ireturn, 1) := by decide +kernel
theorem d_Mo_reads_77 : decode b_Mo_reads 77 = .ok (.aload_n 0, 1) := by decide +kernel
theorem d_Mo_reads_78 : decode b_Mo_reads 78 = .ok (.aload_n 0, 1) := by decide +kernel
theorem d_Mo_reads_79 : decode b_Mo_reads 79 = .ok (.invokevirtual 78, 3) := by decide +kernel
theorem d_Mo_reads_82 : decode b_Mo_reads 82 = .ok (.putfield 82, 3) := by decide +kernel
theorem d_Mo_reads_85 : decode b_Mo_reads 85 = .ok (.aload_n 0, 1) := by decide +kernel
theorem d_Mo_reads_86 : decode b_Mo_reads 86 = .ok (.getfield 82, 3) := by decide +kernel
theorem d_Mo_reads_89 : decode b_Mo_reads 89 = .ok (.iconst (-1), 1) := by decide +kernel
theorem d_Mo_reads_90 : decode b_Mo_reads 90 = .ok (.if_icmp .ne 5, 3) := by decide +kernel
theorem d_Mo_reads_93 : decode b_Mo_reads 93 = .ok (.iconst 0, 1) := by decide +kernel
theorem d_Mo_reads_94 : decode b_Mo_reads 94 = .ok (.ireturn, 1) := by decide +kernel
theorem d_Mo_reads_95 : decode b_Mo_reads 95 = .ok (.aload_n 0, 1) := by decide +kernel
theorem d_Mo_reads_96 : decode b_Mo_reads 96 = .ok (.getfield 22, 3) := by decide +kernel
theorem d_Mo_reads_99 : decode b_Mo_reads 99 = .ok (.iconst 0, 1) := by decide +kernel
theorem d_Mo_reads_100 : decode b_Mo_reads 100 = .ok (.iaload, 1) := by decide +kernel
theorem d_Mo_reads_101 : decode b_Mo_reads 101 = .ok (.iconst 2, 1) := by decide +kernel
theorem d_Mo_reads_102 : decode b_Mo_reads 102 = .ok (.if_icmp .ne 27, 3) := by decide +kernel
theorem d_Mo_reads_105 : decode b_Mo_reads 105 = .ok (.aload_n 0, 1) := by decide +kernel
theorem d_Mo_reads_106 : decode b_Mo_reads 106 = .ok (.invokevirtual 88, 3) := by decide +kernel
theorem d_Mo_reads_109 : decode b_Mo_reads 109 = .ok (.ifCond .eq 18, 3) := by decide +kernel
theorem d_Mo_reads_112 : decode b_Mo_reads 112 = .ok (.aload_n 0, 1) := by decide +kernel
theorem d_Mo_reads_113 : decode b_Mo_reads 113 = .ok (.getfield 52, 3) := by decide +kernel
theorem d_Mo_reads_116 : decode b_Mo_reads 116 = .ok (.aload_n 0, 1) := by decide +kernel
theorem d_Mo_reads_117 : decode b_Mo_reads 117 = .ok (.getfield 49, 3) := by decide +kernel
theorem d_Mo_reads_120 : decode b_Mo_reads 120 = .ok (.if_icmp .ne 7, 3) := by decide +kernel
theorem d_Mo_reads_123 : decode b_Mo_reads 123 = .ok (.iconst 1, 1) := by decide +kernel
theorem d_Mo_reads_124 : decode b_Mo_reads 124 = .ok (.goto 4, 3) := by decide +kernel
theorem d_Mo_reads_127 : decode b_Mo_reads 127 = .ok (.iconst 0, 1) := by decide +kernel
theorem d_Mo_reads_128 : decode b_Mo_reads 128 = .ok (.ireturn, 1) := by decide +kernel
theorem d_Mo_reads_129 : decode b_Mo_reads 129 = .ok (.iconst 0, 1) := by decide +kernel
theorem d_Mo_reads_130 : decode b_Mo_reads 130 = .ok (.istore_n 1, 1) := by decide +kernel
theorem d_Mo_reads_131 : decode b_Mo_reads 131 = .ok (.aload_n 0, 1) := by decide +kernel
theorem d_Mo_reads_132 : decode b_Mo_reads 132 = .ok (.iconst 3, 1) := by decide +kernel
theorem d_Mo_reads_133 : decode b_Mo_reads 133 = .ok (.invokevirtual 55, 3) := by decide +kernel
theorem d_Mo_reads_136 : decode b_Mo_reads 136 = .ok (.ifCond .eq 19, 3) := by decide +kernel
theorem d_Mo_reads_139 : decode b_Mo_reads 139 = .ok (.aload_n 0, 1) := by decide +kernel
theorem d_Mo_reads_140 : decode b_Mo_reads 140 = .ok (.dup, 1) := by decide +kernel
theorem d_Mo_reads_141 : decode b_Mo_reads 141 = .ok (.getfield 52, 3) := by decide +kernel
theorem d_Mo_reads_144 : decode b_Mo_reads 144 = .ok (.iconst 1, 1) := by decide +kernel
theorem d_Mo_reads_145 : decode b_Mo_reads 145 = .ok (.iadd, 1) := by decide +kernel
theorem d_Mo_reads_146 : decode b_Mo_reads 146 = .ok (.putfield 52, 3) := by decide +kernel
theorem d_Mo_reads_149 : decode b_Mo_reads 149 = .ok (.iinc 1 1, 3) := by decide +kernel
theorem d_Mo_reads_152 : decode b_Mo_reads 152 = .ok (.goto (-21), 3) := by decide +kernel
theorem d_Mo_reads_155 : decode b_Mo_reads 155 = .ok (.aload_n 0, 1) := by decide +kernel
theorem d_Mo_reads_156 : decode b_Mo_reads 156 = .ok (.getfield 52, 3) := by decide +kernel
theorem d_Mo_reads_159 : decode b_Mo_reads 159 = .ok (.aload_n 0, 1) := by decide +kernel
theorem d_Mo_reads_160 : decode b_Mo_reads 160 = .ok (.getfield 49, 3) := by decide +kernel
theorem d_Mo_reads_163 : decode b_Mo_reads 163 = .ok (.if_icmp .ne 38, 3) := by decide +kernel
theorem d_Mo_reads_166 : decode b_Mo_reads 166 = .ok (.aload_n 0, 1) := by decide +kernel
theorem d_Mo_reads_167 : decode b_Mo_reads 167 = .ok (.getfield 22, 3) := by decide +kernel
theorem d_Mo_reads_170 : decode b_Mo_reads 170 = .ok (.iconst 0, 1) := by decide +kernel
theorem d_Mo_reads_171 : decode b_Mo_reads 171 = .ok (.iaload, 1) := by decide +kernel
theorem d_Mo_reads_172 : decode b_Mo_reads 172 = .ok (.ifCond .ne 11, 3) := by decide +kernel
theorem d_Mo_reads_175 : decode b_Mo_reads 175 = .ok (.iload_n 1, 1) := by decide +kernel
theorem d_Mo_reads_176 : decode b_Mo_reads 176 = .ok (.iconst 1, 1) := by decide +kernel
theorem d_Mo_reads_177 : decode b_Mo_reads 177 = .ok (.if_icmp .ne 24, 3) := by decide +kernel
theorem d_Mo_reads_180 : decode b_Mo_reads 180 = .ok (.goto 17, 3) := by decide +kernel
theorem d_Mo_reads_183 : decode b_Mo_reads 183 = .ok (.aload_n 0, 1) := by decide +kernel
theorem d_Mo_reads_184 : decode b_Mo_reads 184 = .ok (.getfield 22, 3) := by decide +kernel
theorem d_Mo_reads_187 : decode b_Mo_reads 187 = .ok (.iconst 0, 1) := by decide +kernel
theorem d_Mo_reads_188 : decode b_Mo_reads 188 = .ok (.iaload, 1) := by decide +kernel
theorem d_Mo_reads_189 : decode b_Mo_reads 189 = .ok (.iconst 1, 1) := by decide +kernel
theorem d_Mo_reads_190 : decode b_Mo_reads 190 = .ok (.if_icmp .ne 11, 3) := by decide +kernel
theorem d_Mo_reads_193 : decode b_Mo_reads 193 = .ok (.iload_n 1, 1) := by decide +kernel
theorem d_Mo_reads_194 : decode b_Mo_reads 194 = .ok (.ifCond .le 7, 3) := by decide +kernel
theorem d_Mo_reads_197 : decode b_Mo_reads 197 = .ok (.iconst 1, 1) := by decide +kernel
theorem d_Mo_reads_198 : decode b_Mo_reads 198 = .ok (.goto 4, 3) := by decide +kernel
theorem d_Mo_reads_201 : decode b_Mo_reads 201 = .ok (.iconst 0, 1) := by decide +kernel
theorem d_Mo_reads_202 : decode b_Mo_reads 202 = .ok (.ireturn, 1) := by decide +kernel
end
section
theorem d_Mo_isThere_0 : decode b_Mo_isThere 0 = .ok (.aload_n 0, 1) := by decide +kernel
theorem d_Mo_isThere_1 : decode b_Mo_isThere 1 = .ok (.getfield 7, 3) := by decide +kernel
theorem d_Mo_isThere_4 : decode b_Mo_isThere 4 = .ok (.iload_n 1, 1) := by decide +kernel
theorem d_Mo_isThere_5 : decode b_Mo_isThere 5 = .ok (.iaload, 1) := by decide +kernel
theorem d_Mo_isThere_6 : decode b_Mo_isThere 6 = .ok (.ifCond .le 7, 3) := by decide +kernel
theorem d_Mo_isThere_9 : decode b_Mo_isThere 9 = .ok (.iconst 1, 1) := by decide +kernel
theorem d_Mo_isThere_10 : decode b_Mo_isThere 10 = .ok (.goto 4, 3) := by decide +kernel
theorem d_Mo_isThere_13 : decode b_Mo_isThere 13 = .ok (.iconst 0, 1) := by decide +kernel
theorem d_Mo_isThere_14 : decode b_Mo_isThere 14 = .ok (.ireturn, 1) := by decide +kernel
theorem d_Mo_haveColumns_0 : decode b_Mo_haveColumns 0 = .ok (.iconst 1, 1) := by decide +kernel
theorem d_Mo_haveColumns_1 : decode b_Mo_haveColumns 1 = .ok (.istore_n 1, 1) := by decide +kernel
theorem d_Mo_haveColumns_2 : decode b_Mo_haveColumns 2 = .ok (.iconst 0, 1) := by decide +kernel
theorem d_Mo_haveColumns_3 : decode b_Mo_haveColumns 3 = .ok (.istore_n 2, 1) := by decide +kernel
theorem d_Mo_haveColumns_4 : decode b_Mo_haveColumns 4 = .ok (.iload_n 2, 1) := by decide +kernel
theorem d_Mo_haveColumns_5 : decode b_Mo_haveColumns 5 = .ok (.aload_n 0, 1) := by decide +kernel
theorem d_Mo_haveColumns_6 : decode b_Mo_haveColumns 6 = .ok (.getfield 49, 3) := by decide +kernel
theorem d_Mo_haveColumns_9 : decode b_Mo_haveColumns 9 = .ok (.if_icmp .ge 107, 3) := by decide +kernel
theorem d_Mo_haveColumns_12 : decode b_Mo_haveColumns 12 = .ok (.aload_n 0, 1) := by decide +kernel
theorem d_Mo_haveColumns_13 : decode b_Mo_haveColumns 13 = .ok (.getfield 19, 3) := by decide +kernel
theorem d_Mo_haveColumns_16 : decode b_Mo_haveColumns 16 = .ok (.iload_n 2, 1) := by decide +kernel
theorem d_Mo_haveColumns_17 : decode b_Mo_haveColumns 17 = .ok (.iaload, 1) := by decide +kernel
theorem d_Mo_haveColumns_18 : decode b_Mo_haveColumns 18 = .ok (.iconst 2, 1) := by decide +kernel
theorem d_Mo_haveColumns_19 : decode b_Mo_haveColumns 19 = .ok (.if_icmp .ne 91, 3) := by decide +kernel
theorem d_Mo_haveColumns_22 : decode b_Mo_haveColumns 22 = .ok (.aload_n 0, 1) := by decide +kernel
theorem d_Mo_haveColumns_23 : decode b_Mo_haveColumns 23 = .ok (.getfield 22, 3) := by decide +kernel
theorem d_Mo_haveColumns_26 : decode b_Mo_haveColumns 26 = .ok (.iload_n 2, 1) := by decide +kernel
theorem d_Mo_haveColumns_27 : decode b_Mo_haveColumns 27 = .ok (.iaload, 1) := by decide +kernel
theorem d_Mo_haveColumns_28 : decode b_Mo_haveColumns 28 = .ok (.bipush 9, 2) := by decide +kernel
theorem d_Mo_haveColumns_30 : decode b_Mo_haveColumns 30 = .ok (.if_icmp .le 7, 3) := by decide +kernel
theorem d_Mo_haveColumns_33 : decode b_Mo_haveColumns 33 = .ok (.iconst 1, 1) := by decide +kernel
theorem d_Mo_haveColumns_34 : decode b_Mo_haveColumns 34 = .ok (.goto 4, 3) := by decide +kernel
theorem d_Mo_haveColumns_37 : decode b_Mo_haveColumns 37 = .ok (.iconst 0, 1) := by decide +kernel
theorem d_Mo_haveColumns_38 : decode b_Mo_haveColumns 38 = .ok (.istore_n 3, 1) := by decide +kernel
theorem d_Mo_haveColumns_39 : decode b_Mo_haveColumns 39 = .ok (.iload_n 3, 1) := by decide +kernel
theorem d_Mo_haveColumns_40 : decode b_Mo_haveColumns 40 = .ok (.ifCond .eq 15, 3) := by decide +kernel
theorem d_Mo_haveColumns_43 : decode b_Mo_haveColumns 43 = .ok (.aload_n 0, 1) := by decide +kernel
theorem d_Mo_haveColumns_44 : decode b_Mo_haveColumns 44 = .ok (.getfield 22, 3) := by decide +kernel
theorem d_Mo_haveColumns_47 : decode b_Mo_haveColumns 47 = .ok (.iload_n 2, 1) := by decide +kernel
theorem d_Mo_haveColumns_48 : decode b_Mo_haveColumns 48 = .ok (.iaload, 1) := by decide +kernel
theorem d_Mo_haveColumns_49 : decode b_Mo_haveColumns 49 = .ok (.bipush 10, 2) := by decide +kernel
theorem d_Mo_haveColumns_51 : decode b_Mo_haveColumns 51 = .ok (.isub, 1) := by decide +kernel
theorem d_Mo_haveColumns_52 : decode b_Mo_haveColumns 52 = .ok (.goto 9, 3) := by decide +kernel
theorem d_Mo_haveColumns_55 : decode b_Mo_haveColumns 55 = .ok (.aload_n 0, 1) := by decide +kernel
theorem d_Mo_haveColumns_56 : decode b_Mo_haveColumns 56 = .ok (.getfield 22, 3) := by decide +kernel
theorem d_Mo_haveColumns_59 : decode b_Mo_haveColumns 59 = .ok (.iload_n 2, 1) := by decide +kernel
theorem d_Mo_haveColumns_60 : decode b_Mo_haveColumns 60 = .ok (.iaload, 1) := by decide +kernel
theorem d_Mo_haveColumns_61 : decode b_Mo_haveColumns 61 = .ok (.istore 4, 2) := by decide +kernel
theorem d_Mo_haveColumns_63 : decode b_Mo_haveColumns 63 = .ok (.iload_n 1, 1) := by decide +kernel
theorem d_Mo_haveColumns_64 : decode b_Mo_haveColumns 64 = .ok (.ifCond .eq 44, 3) := by decide +kernel
theorem d_Mo_haveColumns_67 : decode b_Mo_haveColumns 67 = .ok (.iload_n 3, 1) := by decide +kernel
theorem d_Mo_haveColumns_68 : decode b_Mo_haveColumns 68 = .ok (.ifCond .eq 11, 3) := by decide +kernel
theorem d_Mo_haveColumns_71 : decode b_Mo_haveColumns 71 = .ok (.aload_n 0, 1) := by decide +kernel
theorem d_Mo_haveColumns_72 : decode b_Mo_haveColumns 72 = .ok (.getfield 85, 3) := by decide +kernel
theorem d_Mo_haveColumns_75 : decode b_Mo_haveColumns 75 = .ok (.iconst (-1), 1) := by decide +kernel
theorem d_Mo_haveColumns_76 : decode b_Mo_haveColumns 76 = .ok (.if_icmp .eq 32, 3) := by decide +kernel
theorem d_Mo_haveColumns_79 : decode b_Mo_haveColumns 79 = .ok (.iload 4, 2) := by decide +kernel
theorem d_Mo_haveColumns_81 : decode b_Mo_haveColumns 81 = .ok (.aload_n 0, 1) := by decide +kernel
theorem d_Mo_haveColumns_82 : decode b_Mo_haveColumns 82 = .ok (.getfield 7, 3) := by decide +kernel
theorem d_Mo_haveColumns_85 : decode b_Mo_haveColumns 85 = .ok (.iload_n 3, 1) := by decide +kernel
theorem d_Mo_haveColumns_86 : decode b_Mo_haveColumns 86 = .ok (.ifCond .eq 10, 3) := by decide +kernel
theorem d_Mo_haveColumns_89 : decode b_Mo_haveColumns 89 = .ok (.aload_n 0, 1) := by decide +kernel
theorem d_Mo_haveColumns_90 : decode b_Mo_haveColumns 90 = .ok (.getfield 85, 3) := by decide +kernel
theorem d_Mo_haveColumns_93 : decode b_Mo_haveColumns 93 = .ok (.goto 7, 3) := by decide +kernel
theorem d_Mo_haveColumns_96 : decode b_Mo_haveColumns 96 = .ok (.aload_n 0, 1) := by decide +kernel
theorem d_Mo_haveColumns_97 : decode b_Mo_haveColumns 97 = .ok (.getfield 82, 3) := by decide +kernel
theorem d_Mo_haveColumns_100 : decode b_Mo_haveColumns 100 = .ok (.iaload, 1) := by decide +kernel
theorem d_Mo_haveColumns_101 : decode b_Mo_haveColumns 101 = .ok (.if_icmp .ge 7, 3) := by decide +kernel
theorem d_Mo_haveColumns_104 : decode b_Mo_haveColumns 104 = .ok (.iconst 1, 1) := by decide +kernel
theorem d_Mo_haveColumns_105 : decode b_Mo_haveColumns 105 = .ok (.goto 4, 3) := by decide +kernel
theorem d_Mo_haveColumns_108 : decode b_Mo_haveColumns 108 = .ok (.iconst 0, 1) := by decide +kernel
theorem d_Mo_haveColumns_109 : decode b_Mo_haveColumns 109 = .ok (.istore_n 1, 1) := by decide +kernel
theorem d_Mo_haveColumns_110 : decode b_Mo_haveColumns 110 = .ok (.iinc 2 1, 3) := by decide +kernel
theorem d_Mo_haveColumns_113 : decode b_Mo_haveColumns 113 = .ok (.goto (-109), 3) := by decide +kernel
theorem d_Mo_haveColumns_116 : decode b_Mo_haveColumns 116 = .ok (.iload_n 1, 1) := by decide +kernel
theorem d_Mo_haveColumns_117 : decode b_Mo_haveColumns 117 = .ok (.ireturn, 1) := by decide +kernel
theorem d_Mo_wrong_0 : decode b_Mo_wrong 0 = .ok (.aload_n 0, 1) := by decide +kernel
theorem d_Mo_wrong_1 : decode b_Mo_wrong 1 = .ok (.invokevirtual 98, 3) := by decide +kernel
theorem d_Mo_wrong_4 : decode b_Mo_wrong 4 = .ok (.ifCond .ne 5, 3) := by decide +kernel
theorem d_Mo_wrong_7 : decode b_Mo_wrong 7 = .ok (.iconst (-1), 1) := by decide +kernel
theorem d_Mo_wrong_8 : decode b_Mo_wrong 8 = .ok (.ireturn, 1) := by decide +kernel
theorem d_Mo_wrong_9 : decode b_Mo_wrong 9 = .ok (.aload_n 0, 1) := by decide +kernel
theorem d_Mo_wrong_10 : decode b_Mo_wrong 10 = .ok (.getfield 22, 3) := by decide +kernel
theorem d_Mo_wrong_13 : decode b_Mo_wrong 13 = .ok (.iconst 0, 1) := by decide +kernel
theorem d_Mo_wrong_14 : decode b_Mo_wrong 14 = .ok (.iaload, 1) := by decide +kernel
theorem d_Mo_wrong_15 : decode b_Mo_wrong 15 = .ok (.ifCond .ne 7, 3) := by decide +kernel
theorem d_Mo_wrong_18 : decode b_Mo_wrong 18 = .ok (.iconst 1, 1) := by decide +kernel
theorem d_Mo_wrong_19 : decode b_Mo_wrong 19 = .ok (.goto 4, 3) := by decide +kernel
theorem d_Mo_wrong_22 : decode b_Mo_wrong 22 = .ok (.iconst 0, 1) := by decide +kernel
theorem d_Mo_wrong_23 : decode b_Mo_wrong 23 = .ok (.istore_n 1, 1) := by decide +kernel
theorem d_Mo_wrong_24 : decode b_Mo_wrong 24 = .ok (.iload_n 1, 1) := by decide +kernel
theorem d_Mo_wrong_25 : decode b_Mo_wrong 25 = .ok (.ifCond .ne 36, 3) := by decide +kernel
theorem d_Mo_wrong_28 : decode b_Mo_wrong 28 = .ok (.aload_n 0, 1) := by decide +kernel
theorem d_Mo_wrong_29 : decode b_Mo_wrong 29 = .ok (.aload_n 0, 1) := by decide +kernel
theorem d_Mo_wrong_30 : decode b_Mo_wrong 30 = .ok (.getfield 82, 3) := by decide +kernel
theorem d_Mo_wrong_33 : decode b_Mo_wrong 33 = .ok (.invokevirtual 101, 3) := by decide +kernel
theorem d_Mo_wrong_36 : decode b_Mo_wrong 36 = .ok (.ifCond .eq 22, 3) := by decide +kernel
theorem d_Mo_wrong_39 : decode b_Mo_wrong 39 = .ok (.aload_n 0, 1) := by decide +kernel
theorem d_Mo_wrong_40 : decode b_Mo_wrong 40 = .ok (.getfield 85, 3) := by decide +kernel
theorem d_Mo_wrong_43 : decode b_Mo_wrong 43 = .ok (.iconst (-1), 1) := by decide +kernel
theorem d_Mo_wrong_44 : decode b_Mo_wrong 44 = .ok (.if_icmp .eq 17, 3) := by decide +kernel
theorem d_Mo_wrong_47 : decode b_Mo_wrong 47 = .ok (.aload_n 0, 1) := by decide +kernel
theorem d_Mo_wrong_48 : decode b_Mo_wrong 48 = .ok (.aload_n 0, 1) := by decide +kernel
theorem d_Mo_wrong_49 : decode b_Mo_wrong 49 = .ok (.getfield 85, 3) := by decide +kernel
theorem d_Mo_wrong_52 : decode b_Mo_wrong 52 = .ok (.invokevirtual 101, 3) := by decide +kernel
theorem d_Mo_wrong_55 : decode b_Mo_wrong 55 = .ok (.ifCond .ne 6, 3) := by decide +kernel
theorem d_Mo_wrong_58 : decode b_Mo_wrong 58 = .ok (.bipush (-2), 2) := by decide +kernel
theorem d_Mo_wrong_60 : decode b_Mo_wrong 60 = .ok (.ireturn, 1) := by decide +kernel
theorem d_Mo_wrong_61 : decode b_Mo_wrong 61 = .ok (.iload_n 1, 1) := by decide +kernel
theorem d_Mo_wrong_62 : decode b_Mo_wrong 62 = .ok (.ifCond .eq 43, 3) := by decide +kernel
theorem d_Mo_wrong_65 : decode b_Mo_wrong 65 = .ok (.aload_n 0, 1) := by decide +kernel
theorem d_Mo_wrong_66 : decode b_Mo_wrong 66 = .ok (.aload_n 0, 1) := by decide +kernel
theorem d_Mo_wrong_67 : decode b_Mo_wrong 67 = .ok (.getfield 82, 3) := by decide +kernel
theorem d_Mo_wrong_70 : decode b_Mo_wrong 70 = .ok (.invokevirtual 101, 3) := by decide +kernel
theorem d_Mo_wrong_73 : decode b_Mo_wrong 73 = .ok (.ifCond .eq 8, 3) := by decide +kernel
theorem d_Mo_wrong_76 : decode b_Mo_wrong 76 = .ok (.bipush (-4), 2) := by decide +kernel
theorem d_Mo_wrong_78 : decode b_Mo_wrong 78 = .ok (.goto 26, 3) := by decide +kernel
theorem d_Mo_wrong_81 : decode b_Mo_wrong 81 = .ok (.aload_n 0, 1) := by decide +kernel
theorem d_Mo_wrong_82 : decode b_Mo_wrong 82 = .ok (.getfield 22, 3) := by decide +kernel
theorem d_Mo_wrong_85 : decode b_Mo_wrong 85 = .ok (.iconst 2, 1) := by decide +kernel
theorem d_Mo_wrong_86 : decode b_Mo_wrong 86 = .ok (.iaload, 1) := by decide +kernel
theorem d_Mo_wrong_87 : decode b_Mo_wrong 87 = .ok (.i2l, 1) := by decide +kernel
theorem d_Mo_wrong_88 : decode b_Mo_wrong 88 = .ok (.lconst 1, 1) := by decide +kernel
theorem d_Mo_wrong_89 : decode b_Mo_wrong 89 = .ok (.ldc2_w 104, 3) := by decide +kernel
theorem d_Mo_wrong_92 : decode b_Mo_wrong 92 = .ok (.invokestatic 37, 3) := by decide +kernel
theorem d_Mo_wrong_95 : decode b_Mo_wrong 95 = .ok (.ifCond .eq 7, 3) := by decide +kernel
theorem d_Mo_wrong_98 : decode b_Mo_wrong 98 = .ok (.iconst 0, 1) := by decide +kernel
theorem d_Mo_wrong_99 : decode b_Mo_wrong 99 = .ok (.goto 5, 3) := by decide +kernel
theorem d_Mo_wrong_102 : decode b_Mo_wrong 102 = .ok (.bipush (-5), 2) := by decide +kernel
theorem d_Mo_wrong_104 : decode b_Mo_wrong 104 = .ok (.ireturn, 1) := by decide +kernel
theorem d_Mo_wrong_105 : decode b_Mo_wrong 105 = .ok (.aload_n 0, 1) := by decide +kernel
theorem d_Mo_wrong_106 : decode b_Mo_wrong 106 = .ok (.invokevirtual 106, 3) := by decide +kernel
theorem d_Mo_wrong_109 : decode b_Mo_wrong 109 = .ok (.ifCond .ne 6, 3) := by decide +kernel
theorem d_Mo_wrong_112 : decode b_Mo_wrong 112 = .ok (.bipush (-3), 2) := by decide +kernel
theorem d_Mo_wrong_114 : decode b_Mo_wrong 114 = .ok (.ireturn, 1) := by decide +kernel
theorem d_Mo_wrong_115 : decode b_Mo_wrong 115 = .ok (.aload_n 0, 1) := by decide +kernel
theorem d_Mo_wrong_116 : decode b_Mo_wrong 116 = .ok (.getfield 22, 3) := by decide +kernel
theorem d_Mo_wrong_119 : decode b_Mo_wrong 119 = .ok (.iconst 0, 1) := by decide +kernel
theorem d_Mo_wrong_120 : decode b_Mo_wrong 120 = .ok (.iaload, 1) := by decide +kernel
theorem d_Mo_wrong_121 : decode b_Mo_wrong 121 = .ok (.iconst 1, 1) := by decide +kernel
theorem d_Mo_wrong_122 : decode b_Mo_wrong 122 = .ok (.if_icmp .ne 26, 3) := by decide +kernel
theorem d_Mo_wrong_125 : decode b_Mo_wrong 125 = .ok (.aload_n 0, 1) := by decide +kernel
theorem d_Mo_wrong_126 : decode b_Mo_wrong 126 = .ok (.getfield 49, 3) := by decide +kernel
theorem d_Mo_wrong_129 : decode b_Mo_wrong 129 = .ok (.iconst 2, 1) := by decide +kernel
theorem d_Mo_wrong_130 : decode b_Mo_wrong 130 = .ok (.isub, 1) := by decide +kernel
theorem d_Mo_wrong_131 : decode b_Mo_wrong 131 = .ok (.aload_n 0, 1) := by decide +kernel
theorem d_Mo_wrong_132 : decode b_Mo_wrong 132 = .ok (.getfield 7, 3) := by decide +kernel
theorem d_Mo_wrong_135 : decode b_Mo_wrong 135 = .ok (.aload_n 0, 1) := by decide +kernel
theorem d_Mo_wrong_136 : decode b_Mo_wrong 136 = .ok (.getfield 82, 3) := by decide +kernel
theorem d_Mo_wrong_139 : decode b_Mo_wrong 139 = .ok (.iaload, 1) := by decide +kernel
theorem d_Mo_wrong_140 : decode b_Mo_wrong 140 = .ok (.if_icmp .eq 8, 3) := by decide +kernel
theorem d_Mo_wrong_143 : decode b_Mo_wrong 143 = .ok (.bipush (-5), 2) := by decide +kernel
theorem d_Mo_wrong_145 : decode b_Mo_wrong 145 = .ok (.goto 4, 3) := by decide +kernel
theorem d_Mo_wrong_148 : decode b_Mo_wrong 148 = .ok (.iconst 0, 1) := by decide +kernel
theorem d_Mo_wrong_149 : decode b_Mo_wrong 149 = .ok (.ireturn, 1) := by decide +kernel
theorem d_Mo_prepare_0 : decode b_Mo_prepare 0 = .ok (.aload_n 0, 1) := by decide +kernel
theorem d_Mo_prepare_1 : decode b_Mo_prepare 1 = .ok (.iconst 0, 1) := by decide +kernel
theorem d_Mo_prepare_2 : decode b_Mo_prepare 2 = .ok (.putfield 31, 3) := by decide +kernel
theorem d_Mo_prepare_5 : decode b_Mo_prepare 5 = .ok (.aload_n 0, 1) := by decide +kernel
theorem d_Mo_prepare_6 : decode b_Mo_prepare 6 = .ok (.invokevirtual 109, 3) := by decide +kernel
theorem d_Mo_prepare_9 : decode b_Mo_prepare 9 = .ok (.istore_n 1, 1) := by decide +kernel
theorem d_Mo_prepare_10 : decode b_Mo_prepare 10 = .ok (.iload_n 1, 1) := by decide +kernel
theorem d_Mo_prepare_11 : decode b_Mo_prepare 11 = .ok (.ifCond .ne 100, 3) := by decide +kernel
theorem d_Mo_prepare_14 : decode b_Mo_prepare 14 = .ok (.aload_n 0, 1) := by decide +kernel
theorem d_Mo_prepare_15 : decode b_Mo_prepare 15 = .ok (.aload_n 0, 1) := by decide +kernel
theorem d_Mo_prepare_16 : decode b_Mo_prepare 16 = .ok (.getfield 49, 3) := by decide +kernel
theorem d_Mo_prepare_19 : decode b_Mo_prepare 19 = .ok (.putfield 112, 3) := by decide +kernel
theorem d_Mo_prepare_22 : decode b_Mo_prepare 22 = .ok (.iconst 0, 1) := by decide +kernel
theorem d_Mo_prepare_23 : decode b_Mo_prepare 23 = .ok (.istore_n 2, 1) := by decide +kernel
theorem d_Mo_prepare_24 : decode b_Mo_prepare 24 = .ok (.iload_n 2, 1) := by decide +kernel
theorem d_Mo_prepare_25 : decode b_Mo_prepare 25 = .ok (.aload_n 0, 1) := by decide +kernel
theorem d_Mo_prepare_26 : decode b_Mo_prepare 26 = .ok (.getfield 112, 3) := by decide +kernel
theorem d_Mo_prepare_29 : decode b_Mo_prepare 29 = .ok (.if_icmp .ge 33, 3) := by decide +kernel
theorem d_Mo_prepare_32 : decode b_Mo_prepare 32 = .ok (.aload_n 0, 1) := by decide +kernel
theorem d_Mo_prepare_33 : decode b_Mo_prepare 33 = .ok (.getfield 25, 3) := by decide +kernel
theorem d_Mo_prepare_36 : decode b_Mo_prepare 36 = .ok (.iload_n 2, 1) := by decide +kernel
theorem d_Mo_prepare_37 : decode b_Mo_prepare 37 = .ok (.aload_n 0, 1) := by decide +kernel
theorem d_Mo_prepare_38 : decode b_Mo_prepare 38 = .ok (.getfield 19, 3) := by decide +kernel
theorem d_Mo_prepare_41 : decode b_Mo_prepare 41 = .ok (.iload_n 2, 1) := by decide +kernel
theorem d_Mo_prepare_42 : decode b_Mo_prepare 42 = .ok (.iaload, 1) := by decide +kernel
theorem d_Mo_prepare_43 : decode b_Mo_prepare 43 = .ok (.iastore, 1) := by decide +kernel
theorem d_Mo_prepare_44 : decode b_Mo_prepare 44 = .ok (.aload_n 0, 1) := by decide +kernel
theorem d_Mo_prepare_45 : decode b_Mo_prepare 45 = .ok (.getfield 28, 3) := by decide +kernel
theorem d_Mo_prepare_48 : decode b_Mo_prepare 48 = .ok (.iload_n 2, 1) := by decide +kernel
theorem d_Mo_prepare_49 : decode b_Mo_prepare 49 = .ok (.aload_n 0, 1) := by decide +kernel
theorem d_Mo_prepare_50 : decode b_Mo_prepare 50 = .ok (.getfield 22, 3) := by decide +kernel
theorem d_Mo_prepare_53 : decode b_Mo_prepare 53 = .ok (.iload_n 2, 1) := by decide +kernel
theorem d_Mo_prepare_54 : decode b_Mo_prepare 54 = .ok (.iaload, 1) := by decide +kernel
theorem d_Mo_prepare_55 : decode b_Mo_prepare 55 = .ok (.iastore, 1) := by decide +kernel
theorem d_Mo_prepare_56 : decode b_Mo_prepare 56 = .ok (.iinc 2 1, 3) := by decide +kernel
theorem d_Mo_prepare_59 : decode b_Mo_prepare 59 = .ok (.goto (-35), 3) := by decide +kernel
theorem d_Mo_prepare_62 : decode b_Mo_prepare 62 = .ok (.aload_n 0, 1) := by decide +kernel
theorem d_Mo_prepare_63 : decode b_Mo_prepare 63 = .ok (.aload_n 0, 1) := by decide +kernel
theorem d_Mo_prepare_64 : decode b_Mo_prepare 64 = .ok (.getfield 82, 3) := by decide +kernel
theorem d_Mo_prepare_67 : decode b_Mo_prepare 67 = .ok (.putfield 115, 3) := by decide +kernel
theorem d_Mo_prepare_70 : decode b_Mo_prepare 70 = .ok (.aload_n 0, 1) := by decide +kernel
theorem d_Mo_prepare_71 : decode b_Mo_prepare 71 = .ok (.aload_n 0, 1) := by decide +kernel
theorem d_Mo_prepare_72 : decode b_Mo_prepare 72 = .ok (.getfield 85, 3) := by decide +kernel
theorem d_Mo_prepare_75 : decode b_Mo_prepare 75 = .ok (.putfield 118, 3) := by decide +kernel
theorem d_Mo_prepare_78 : decode b_Mo_prepare 78 = .ok (.aload_n 0, 1) := by decide +kernel
theorem d_Mo_prepare_79 : decode b_Mo_prepare 79 = .ok (.aload_n 0, 1) := by decide +kernel
theorem d_Mo_prepare_80 : decode b_Mo_prepare 80 = .ok (.getfield 62, 3) := by decide +kernel
theorem d_Mo_prepare_83 : decode b_Mo_prepare 83 = .ok (.putfield 121, 3) := by decide +kernel
theorem d_Mo_prepare_86 : decode b_Mo_prepare 86 = .ok (.aload_n 0, 1) := by decide +kernel
theorem d_Mo_prepare_87 : decode b_Mo_prepare 87 = .ok (.aload_n 0, 1) := by decide +kernel
theorem d_Mo_prepare_88 : decode b_Mo_prepare 88 = .ok (.getfield 65, 3) := by decide +kernel
theorem d_Mo_prepare_91 : decode b_Mo_prepare 91 = .ok (.putfield 124, 3) := by decide +kernel
theorem d_Mo_prepare_94 : decode b_Mo_prepare 94 = .ok (.aload_n 0, 1) := by decide +kernel
theorem d_Mo_prepare_95 : decode b_Mo_prepare 95 = .ok (.aload_n 0, 1) := by decide +kernel
theorem d_Mo_prepare_96 : decode b_Mo_prepare 96 = .ok (.getfield 91, 3) := by decide +kernel
theorem d_Mo_prepare_99 : decode b_Mo_prepare 99 = .ok (.putfield 127, 3) := by decide +kernel
theorem d_Mo_prepare_102 : decode b_Mo_prepare 102 = .ok (.aload_n 0, 1) := by decide +kernel
theorem d_Mo_prepare_103 : decode b_Mo_prepare 103 = .ok (.iconst 1, 1) := by decide +kernel
theorem d_Mo_prepare_104 : decode b_Mo_prepare 104 = .ok (.putfield 130, 3) := by decide +kernel
theorem d_Mo_prepare_107 : decode b_Mo_prepare 107 = .ok (.aload_n 0, 1) := by decide +kernel
theorem d_Mo_prepare_108 : decode b_Mo_prepare 108 = .ok (.invokevirtual 133, 3) := by decide +kernel
theorem d_Mo_prepare_111 : decode b_Mo_prepare 111 = .ok (.aload_n 0, 1) := by decide +kernel
theorem d_Mo_prepare_112 : decode b_Mo_prepare 112 = .ok (.iconst 0, 1) := by decide +kernel
theorem d_Mo_prepare_113 : decode b_Mo_prepare 113 = .ok (.putfield 49, 3) := by decide +kernel
theorem d_Mo_prepare_116 : decode b_Mo_prepare 116 = .ok (.iload_n 1, 1) := by decide +kernel
theorem d_Mo_prepare_117 : decode b_Mo_prepare 117 = .ok (.ireturn, 1) := by decide +kernel
theorem d_Mo_begins_0 : decode b_Mo_begins 0 = .ok (.aload_n 0, 1) := by decide +kernel
theorem d_Mo_begins_1 : decode b_Mo_begins 1 = .ok (.iconst 0, 1) := by decide +kernel
theorem d_Mo_begins_2 : decode b_Mo_begins 2 = .ok (.putfield 136, 3) := by decide +kernel
theorem d_Mo_begins_5 : decode b_Mo_begins 5 = .ok (.aload_n 0, 1) := by decide +kernel
theorem d_Mo_begins_6 : decode b_Mo_begins 6 = .ok (.iconst 0, 1) := by decide +kernel
theorem d_Mo_begins_7 : decode b_Mo_begins 7 = .ok (.putfield 139, 3) := by decide +kernel
theorem d_Mo_begins_10 : decode b_Mo_begins 10 = .ok (.aload_n 0, 1) := by decide +kernel
theorem d_Mo_begins_11 : decode b_Mo_begins 11 = .ok (.iconst (-1), 1) := by decide +kernel
theorem d_Mo_begins_12 : decode b_Mo_begins 12 = .ok (.putfield 142, 3) := by decide +kernel
theorem d_Mo_begins_15 : decode b_Mo_begins 15 = .ok (.aload_n 0, 1) := by decide +kernel
theorem d_Mo_begins_16 : decode b_Mo_begins 16 = .ok (.iconst (-1), 1) := by decide +kernel
theorem d_Mo_begins_17 : decode b_Mo_begins 17 = .ok (.putfield 145, 3) := by decide +kernel
theorem d_Mo_begins_20 : decode b_Mo_begins 20 = .ok (.aload_n 0, 1) := by decide +kernel
theorem d_Mo_begins_21 : decode b_Mo_begins 21 = .ok (.iconst 0, 1) := by decide +kernel
theorem d_Mo_begins_22 : decode b_Mo_begins 22 = .ok (.putfield 148, 3) := by decide +kernel
theorem d_Mo_begins_25 : decode b_Mo_begins 25 = .ok (.return_, 1) := by decide +kernel
theorem d_Mo_cell_0 : decode b_Mo_cell 0 = .ok (.aload_n 0, 1) := by decide +kernel
theorem d_Mo_cell_1 : decode b_Mo_cell 1 = .ok (.getfield 16, 3) := by decide +kernel
theorem d_Mo_cell_4 : decode b_Mo_cell 4 = .ok (.bipush 6, 2) := by decide +kernel
theorem d_Mo_cell_6 : decode b_Mo_cell 6 = .ok (.iload_n 1, 1) := by decide +kernel
theorem d_Mo_cell_7 : decode b_Mo_cell 7 = .ok (.imul, 1) := by decide +kernel
theorem d_Mo_cell_8 : decode b_Mo_cell 8 = .ok (.iload_n 2, 1) := by decide +kernel
theorem d_Mo_cell_9 : decode b_Mo_cell 9 = .ok (.iadd, 1) := by decide +kernel
theorem d_Mo_cell_10 : decode b_Mo_cell 10 = .ok (.iaload, 1) := by decide +kernel
theorem d_Mo_cell_11 : decode b_Mo_cell 11 = .ok (.ireturn, 1) := by decide +kernel
theorem d_Mo_value_0 : decode b_Mo_value 0 = .ok (.aload_n 0, 1) := by decide +kernel
theorem d_Mo_value_1 : decode b_Mo_value 1 = .ok (.getfield 28, 3) := by decide +kernel
theorem d_Mo_value_4 : decode b_Mo_value 4 = .ok (.iload_n 1, 1) := by decide +kernel
theorem d_Mo_value_5 : decode b_Mo_value 5 = .ok (.iaload, 1) := by decide +kernel
theorem d_Mo_value_6 : decode b_Mo_value 6 = .ok (.istore 4, 2) := by decide +kernel
theorem d_Mo_value_8 : decode b_Mo_value 8 = .ok (.aload_n 0, 1) := by decide +kernel
theorem d_Mo_value_9 : decode b_Mo_value 9 = .ok (.getfield 25, 3) := by decide +kernel
theorem d_Mo_value_12 : decode b_Mo_value 12 = .ok (.iload_n 1, 1) := by decide +kernel
theorem d_Mo_value_13 : decode b_Mo_value 13 = .ok (.iaload, 1) := by decide +kernel
theorem d_Mo_value_14 : decode b_Mo_value 14 = .ok (.iconst 3, 1) := by decide +kernel
theorem d_Mo_value_15 : decode b_Mo_value 15 = .ok (.if_icmp .ne 8, 3) := by decide +kernel
theorem d_Mo_value_18 : decode b_Mo_value 18 = .ok (.iload 4, 2) := by decide +kernel
theorem d_Mo_value_20 : decode b_Mo_value 20 = .ok (.goto 30, 3) := by decide +kernel
theorem d_Mo_value_23 : decode b_Mo_value 23 = .ok (.iload 4, 2) := by decide +kernel
theorem d_Mo_value_25 : decode b_Mo_value 25 = .ok (.bipush 9, 2) := by decide +kernel
theorem d_Mo_value_27 : decode b_Mo_value 27 = .ok (.if_icmp .le 16, 3) := by decide +kernel
theorem d_Mo_value_30 : decode b_Mo_value 30 = .ok (.aload_n 0, 1) := by decide +kernel
theorem d_Mo_value_31 : decode b_Mo_value 31 = .ok (.iload_n 3, 1) := by decide +kernel
theorem d_Mo_value_32 : decode b_Mo_value 32 = .ok (.iload 4, 2) := by decide +kernel
theorem d_Mo_value_34 : decode b_Mo_value 34 = .ok (.bipush 10, 2) := by decide +kernel
theorem d_Mo_value_36 : decode b_Mo_value 36 = .ok (.isub, 1) := by decide +kernel
theorem d_Mo_value_37 : decode b_Mo_value 37 = .ok (.invokevirtual 151, 3) := by decide +kernel
theorem d_Mo_value_40 : decode b_Mo_value 40 = .ok (.goto 10, 3) := by decide +kernel
theorem d_Mo_value_43 : decode b_Mo_value 43 = .ok (.aload_n 0, 1) := by decide +kernel
theorem d_Mo_value_44 : decode b_Mo_value 44 = .ok (.iload_n 2, 1) := by decide +kernel
theorem d_Mo_value_45 : decode b_Mo_value 45 = .ok (.iload 4, 2) := by decide +kernel
theorem d_Mo_value_47 : decode b_Mo_value 47 = .ok (.invokevirtual 151, 3) := by decide +kernel
theorem d_Mo_value_50 : decode b_Mo_value 50 = .ok (.ireturn, 1) := by decide +kernel
theorem d_Mo_holds_0 : decode b_Mo_holds 0 = .ok (.iconst 1, 1) := by decide +kernel
theorem d_Mo_holds_1 : decode b_Mo_holds 1 = .ok (.istore_n 3, 1) := by decide +kernel
theorem d_Mo_holds_2 : decode b_Mo_holds 2 = .ok (.aload_n 0, 1) := by decide +kernel
theorem d_Mo_holds_3 : decode b_Mo_holds 3 = .ok (.getfield 121, 3) := by decide +kernel
theorem d_Mo_holds_6 : decode b_Mo_holds 6 = .ok (.istore 4, 2) := by decide +kernel
theorem d_Mo_holds_8 : decode b_Mo_holds 8 = .ok (.iload 4, 2) := by decide +kernel
theorem d_Mo_holds_10 : decode b_Mo_holds 10 = .ok (.aload_n 0, 1) := by decide +kernel
theorem d_Mo_holds_11 : decode b_Mo_holds 11 = .ok (.getfield 124, 3) := by decide +kernel
theorem d_Mo_holds_14 : decode b_Mo_holds 14 = .ok (.if_icmp .ge 93, 3) := by decide +kernel
theorem d_Mo_holds_17 : decode b_Mo_holds 17 = .ok (.aload_n 0, 1) := by decide +kernel
theorem d_Mo_holds_18 : decode b_Mo_holds 18 = .ok (.iload 4, 2) := by decide +kernel
theorem d_Mo_holds_20 : decode b_Mo_holds 20 = .ok (.iload_n 1, 1) := by decide +kernel
theorem d_Mo_holds_21 : decode b_Mo_holds 21 = .ok (.iload_n 2, 1) := by decide +kernel
theorem d_Mo_holds_22 : decode b_Mo_holds 22 = .ok (.invokevirtual 155, 3) := by decide +kernel
theorem d_Mo_holds_25 : decode b_Mo_holds 25 = .ok (.istore 5, 2) := by decide +kernel
theorem d_Mo_holds_27 : decode b_Mo_holds 27 = .ok (.aload_n 0, 1) := by decide +kernel
theorem d_Mo_holds_28 : decode b_Mo_holds 28 = .ok (.iload 4, 2) := by decide +kernel
theorem d_Mo_holds_30 : decode b_Mo_holds 30 = .ok (.iconst 2, 1) := by decide +kernel
theorem d_Mo_holds_31 : decode b_Mo_holds 31 = .ok (.iadd, 1) := by decide +kernel
theorem d_Mo_holds_32 : decode b_Mo_holds 32 = .ok (.iload_n 1, 1) := by decide +kernel
theorem d_Mo_holds_33 : decode b_Mo_holds 33 = .ok (.iload_n 2, 1) := by decide +kernel
theorem d_Mo_holds_34 : decode b_Mo_holds 34 = .ok (.invokevirtual 155, 3) := by decide +kernel
theorem d_Mo_holds_37 : decode b_Mo_holds 37 = .ok (.istore 6, 2) := by decide +kernel
theorem d_Mo_holds_39 : decode b_Mo_holds 39 = .ok (.aload_n 0, 1) := by decide +kernel
theorem d_Mo_holds_40 : decode b_Mo_holds 40 = .ok (.getfield 28, 3) := by decide +kernel
theorem d_Mo_holds_43 : decode b_Mo_holds 43 = .ok (.iload 4, 2) := by decide +kernel
theorem d_Mo_holds_45 : decode b_Mo_holds 45 = .ok (.iconst 1, 1) := by decide +kernel
theorem d_Mo_holds_46 : decode b_Mo_holds 46 = .ok (.iadd, 1) := by decide +kernel
theorem d_Mo_holds_47 : decode b_Mo_holds 47 = .ok (.iaload, 1) := by decide +kernel
theorem d_Mo_holds_48 : decode b_Mo_holds 48 = .ok (.istore 7, 2) := by decide +kernel
theorem d_Mo_holds_50 : decode b_Mo_holds 50 = .ok (.iload_n 3, 1) := by decide +kernel
theorem d_Mo_holds_51 : decode b_Mo_holds 51 = .ok (.ifCond .eq 48, 3) := by decide +kernel
theorem d_Mo_holds_54 : decode b_Mo_holds 54 = .ok (.iload 7, 2) := by decide +kernel
theorem d_Mo_holds_56 : decode b_Mo_holds 56 = .ok (.bipush 10, 2) := by decide +kernel
theorem d_Mo_holds_58 : decode b_Mo_holds 58 = .ok (.if_icmp .ne 13, 3) := by decide +kernel
theorem d_Mo_holds_61 : decode b_Mo_holds 61 = .ok (.iload 5, 2) := by decide +kernel
theorem d_Mo_holds_63 : decode b_Mo_holds 63 = .ok (.iload 6, 2) := by decide +kernel
theorem d_Mo_holds_65 : decode b_Mo_holds 65 = .ok (.if_icmp .ne 34, 3) := by decide +kernel
theorem d_Mo_holds_68 : decode b_Mo_holds 68 = .ok (.goto 27, 3) := by decide +kernel
theorem d_Mo_holds_71 : decode b_Mo_holds 71 = .ok (.iload 7, 2) := by decide +kernel
theorem d_Mo_holds_73 : decode b_Mo_holds 73 = .ok (.bipush 11, 2) := by decide +kernel
theorem d_Mo_holds_75 : decode b_Mo_holds 75 = .ok (.if_icmp .ne 13, 3) := by decide +kernel
theorem d_Mo_holds_78 : decode b_Mo_holds 78 = .ok (.iload 5, 2) := by decide +kernel
theorem d_Mo_holds_80 : decode b_Mo_holds 80 = .ok (.iload 6, 2) := by decide +kernel
theorem d_Mo_holds_82 : decode b_Mo_holds 82 = .ok (.if_icmp .ge 17, 3) := by decide +kernel
theorem d_Mo_holds_85 : decode b_Mo_holds 85 = .ok (.goto 10, 3) := by decide +kernel
theorem d_Mo_holds_88 : decode b_Mo_holds 88 = .ok (.iload 5, 2) := by decide +kernel
theorem d_Mo_holds_90 : decode b_Mo_holds 90 = .ok (.iload 6, 2) := by decide +kernel
theorem d_Mo_holds_92 : decode b_Mo_holds 92 = .ok (.if_icmp .le 7, 3) := by decide +kernel
theorem d_Mo_holds_95 : decode b_Mo_holds 95 = .ok (.iconst 1, 1) := by decide +kernel
theorem d_Mo_holds_96 : decode b_Mo_holds 96 = .ok (.goto 4, 3) := by decide +kernel
theorem d_Mo_holds_99 : decode b_Mo_holds 99 = .ok (.iconst 0, 1) := by decide +kernel
theorem d_Mo_holds_100 : decode b_Mo_holds 100 = .ok (.istore_n 3, 1) := by decide +kernel
theorem d_Mo_holds_101 : decode b_Mo_holds 101 = .ok (.iinc 4 4, 3) := by decide +kernel
theorem d_Mo_holds_104 : decode b_Mo_holds 104 = .ok (.goto (-96), 3) := by decide +kernel
theorem d_Mo_holds_107 : decode b_Mo_holds 107 = .ok (.iload_n 3, 1) := by decide +kernel
theorem d_Mo_holds_108 : decode b_Mo_holds 108 = .ok (.ireturn, 1) := by decide +kernel
theorem d_Mo_behind_0 : decode b_Mo_behind 0 = .ok (.iconst (-1), 1) := by decide +kernel
theorem d_Mo_behind_1 : decode b_Mo_behind 1 = .ok (.istore_n 3, 1) := by decide +kernel
theorem d_Mo_behind_2 : decode b_Mo_behind 2 = .ok (.iconst 0, 1) := by decide +kernel
theorem d_Mo_behind_3 : decode b_Mo_behind 3 = .ok (.istore 4, 2) := by decide +kernel
theorem d_Mo_behind_5 : decode b_Mo_behind 5 = .ok (.iload 4, 2) := by decide +kernel
theorem d_Mo_behind_7 : decode b_Mo_behind 7 = .ok (.aload_n 0, 1) := by decide +kernel
theorem d_Mo_behind_8 : decode b_Mo_behind 8 = .ok (.getfield 159, 3) := by decide +kernel
theorem d_Mo_behind_11 : decode b_Mo_behind 11 = .ok (.if_icmp .ge 133, 3) := by decide +kernel
theorem d_Mo_behind_14 : decode b_Mo_behind 14 = .ok (.aload_n 0, 1) := by decide +kernel
theorem d_Mo_behind_15 : decode b_Mo_behind 15 = .ok (.getfield 13, 3) := by decide +kernel
theorem d_Mo_behind_18 : decode b_Mo_behind 18 = .ok (.iload 4, 2) := by decide +kernel
theorem d_Mo_behind_20 : decode b_Mo_behind 20 = .ok (.iaload, 1) := by decide +kernel
theorem d_Mo_behind_21 : decode b_Mo_behind 21 = .ok (.iload_n 1, 1) := by decide +kernel
theorem d_Mo_behind_22 : decode b_Mo_behind 22 = .ok (.if_icmp .ne 116, 3) := by decide +kernel
theorem d_Mo_behind_25 : decode b_Mo_behind 25 = .ok (.iload_n 2, 1) := by decide +kernel
theorem d_Mo_behind_26 : decode b_Mo_behind 26 = .ok (.iconst (-1), 1) := by decide +kernel
theorem d_Mo_behind_27 : decode b_Mo_behind 27 = .ok (.if_icmp .eq 45, 3) := by decide +kernel
theorem d_Mo_behind_30 : decode b_Mo_behind 30 = .ok (.aload_n 0, 1) := by decide +kernel
theorem d_Mo_behind_31 : decode b_Mo_behind 31 = .ok (.getfield 127, 3) := by decide +kernel
theorem d_Mo_behind_34 : decode b_Mo_behind 34 = .ok (.ifCond .eq 22, 3) := by decide +kernel
theorem d_Mo_behind_37 : decode b_Mo_behind 37 = .ok (.aload_n 0, 1) := by decide +kernel
theorem d_Mo_behind_38 : decode b_Mo_behind 38 = .ok (.iload 4, 2) := by decide +kernel
theorem d_Mo_behind_40 : decode b_Mo_behind 40 = .ok (.iconst 0, 1) := by decide +kernel
theorem d_Mo_behind_41 : decode b_Mo_behind 41 = .ok (.invokevirtual 151, 3) := by decide +kernel
theorem d_Mo_behind_44 : decode b_Mo_behind 44 = .ok (.aload_n 0, 1) := by decide +kernel
theorem d_Mo_behind_45 : decode b_Mo_behind 45 = .ok (.iload_n 2, 1) := by decide +kernel
theorem d_Mo_behind_46 : decode b_Mo_behind 46 = .ok (.iconst 0, 1) := by decide +kernel
theorem d_Mo_behind_47 : decode b_Mo_behind 47 = .ok (.invokevirtual 151, 3) := by decide +kernel
theorem d_Mo_behind_50 : decode b_Mo_behind 50 = .ok (.if_icmp .ge 88, 3) := by decide +kernel
theorem d_Mo_behind_53 : decode b_Mo_behind 53 = .ok (.goto 19, 3) := by decide +kernel
theorem d_Mo_behind_56 : decode b_Mo_behind 56 = .ok (.aload_n 0, 1) := by decide +kernel
theorem d_Mo_behind_57 : decode b_Mo_behind 57 = .ok (.iload 4, 2) := by decide +kernel
theorem d_Mo_behind_59 : decode b_Mo_behind 59 = .ok (.iconst 0, 1) := by decide +kernel
theorem d_Mo_behind_60 : decode b_Mo_behind 60 = .ok (.invokevirtual 151, 3) := by decide +kernel
theorem d_Mo_behind_63 : decode b_Mo_behind 63 = .ok (.aload_n 0, 1) := by decide +kernel
theorem d_Mo_behind_64 : decode b_Mo_behind 64 = .ok (.iload_n 2, 1) := by decide +kernel
theorem d_Mo_behind_65 : decode b_Mo_behind 65 = .ok (.iconst 0, 1) := by decide +kernel
theorem d_Mo_behind_66 : decode b_Mo_behind 66 = .ok (.invokevirtual 151, 3) := by decide +kernel
theorem d_Mo_behind_69 : decode b_Mo_behind 69 = .ok (.if_icmp .le 69, 3) := by decide +kernel
theorem d_Mo_behind_72 : decode b_Mo_behind 72 = .ok (.iload_n 3, 1) := by decide +kernel
theorem d_Mo_behind_73 : decode b_Mo_behind 73 = .ok (.iconst (-1), 1) := by decide +kernel
theorem d_Mo_behind_74 : decode b_Mo_behind 74 = .ok (.if_icmp .eq 45, 3) := by decide +kernel
theorem d_Mo_behind_77 : decode b_Mo_behind 77 = .ok (.aload_n 0, 1) := by decide +kernel
theorem d_Mo_behind_78 : decode b_Mo_behind 78 = .ok (.getfield 127, 3) := by decide +kernel
theorem d_Mo_behind_81 : decode b_Mo_behind 81 = .ok (.ifCond .eq 22, 3) := by decide +kernel
theorem d_Mo_behind_84 : decode b_Mo_behind 84 = .ok (.aload_n 0, 1) := by decide +kernel
theorem d_Mo_behind_85 : decode b_Mo_behind 85 = .ok (.iload 4, 2) := by decide +kernel
theorem d_Mo_behind_87 : decode b_Mo_behind 87 = .ok (.iconst 0, 1) := by decide +kernel
theorem d_Mo_behind_88 : decode b_Mo_behind 88 = .ok (.invokevirtual 151, 3) := by decide +kernel
theorem d_Mo_behind_91 : decode b_Mo_behind 91 = .ok (.aload_n 0, 1) := by decide +kernel
theorem d_Mo_behind_92 : decode b_Mo_behind 92 = .ok (.iload_n 3, 1) := by decide +kernel
theorem d_Mo_behind_93 : decode b_Mo_behind 93 = .ok (.iconst 0, 1) := by decide +kernel
theorem d_Mo_behind_94 : decode b_Mo_behind 94 = .ok (.invokevirtual 151, 3) := by decide +kernel
theorem d_Mo_behind_97 : decode b_Mo_behind 97 = .ok (.if_icmp .le 26, 3) := by decide +kernel
theorem d_Mo_behind_100 : decode b_Mo_behind 100 = .ok (.goto 19, 3) := by decide +kernel
theorem d_Mo_behind_103 : decode b_Mo_behind 103 = .ok (.aload_n 0, 1) := by decide +kernel
theorem d_Mo_behind_104 : decode b_Mo_behind 104 = .ok (.iload 4, 2) := by decide +kernel
theorem d_Mo_behind_106 : decode b_Mo_behind 106 = .ok (.iconst 0, 1) := by decide +kernel
theorem d_Mo_behind_107 : decode b_Mo_behind 107 = .ok (.invokevirtual 151, 3) := by decide +kernel
theorem d_Mo_behind_110 : decode b_Mo_behind 110 = .ok (.aload_n 0, 1) := by decide +kernel
theorem d_Mo_behind_111 : decode b_Mo_behind 111 = .ok (.iload_n 3, 1) := by decide +kernel
theorem d_Mo_behind_112 : decode b_Mo_behind 112 = .ok (.iconst 0, 1) := by decide +kernel
theorem d_Mo_behind_113 : decode b_Mo_behind 113 = .ok (.invokevirtual 151, 3) := by decide +kernel
theorem d_Mo_behind_116 : decode b_Mo_behind 116 = .ok (.if_icmp .ge 7, 3) := by decide +kernel
theorem d_Mo_behind_119 : decode b_Mo_behind 119 = .ok (.iconst 1, 1) := by decide +kernel
theorem d_Mo_behind_120 : decode b_Mo_behind 120 = .ok (.goto 4, 3) := by decide +kernel
theorem d_Mo_behind_123 : decode b_Mo_behind 123 = .ok (.iconst 0, 1) := by decide +kernel
theorem d_Mo_behind_124 : decode b_Mo_behind 124 = .ok (.istore 5, 2) := by decide +kernel
theorem d_Mo_behind_126 : decode b_Mo_behind 126 = .ok (.iload 5, 2) := by decide +kernel
theorem d_Mo_behind_128 : decode b_Mo_behind 128 = .ok (.ifCond .eq 8, 3) := by decide +kernel
theorem d_Mo_behind_131 : decode b_Mo_behind 131 = .ok (.iload 4, 2) := by decide +kernel
theorem d_Mo_behind_133 : decode b_Mo_behind 133 = .ok (.goto 4, 3) := by decide +kernel
theorem d_Mo_behind_136 : decode b_Mo_behind 136 = .ok (.iload_n 3, 1) := by decide +kernel
theorem d_Mo_behind_137 : decode b_Mo_behind 137 = .ok (.istore_n 3, 1) := by decide +kernel
theorem d_Mo_behind_138 : decode b_Mo_behind 138 = .ok (.iinc 4 1, 3) := by decide +kernel
theorem d_Mo_behind_141 : decode b_Mo_behind 141 = .ok (.goto (-136), 3) := by decide +kernel
theorem d_Mo_behind_144 : decode b_Mo_behind 144 = .ok (.iload_n 3, 1) := by decide +kernel
theorem d_Mo_behind_145 : decode b_Mo_behind 145 = .ok (.ireturn, 1) := by decide +kernel
theorem d_Mo_moves_0 : decode b_Mo_moves 0 = .ok (.aload_n 0, 1) := by decide +kernel
theorem d_Mo_moves_1 : decode b_Mo_moves 1 = .ok (.getfield 118, 3) := by decide +kernel
theorem d_Mo_moves_4 : decode b_Mo_moves 4 = .ok (.iconst (-1), 1) := by decide +kernel
theorem d_Mo_moves_5 : decode b_Mo_moves 5 = .ok (.if_icmp .ne 33, 3) := by decide +kernel
theorem d_Mo_moves_8 : decode b_Mo_moves 8 = .ok (.aload_n 0, 1) := by decide +kernel
theorem d_Mo_moves_9 : decode b_Mo_moves 9 = .ok (.aload_n 0, 1) := by decide +kernel
theorem d_Mo_moves_10 : decode b_Mo_moves 10 = .ok (.aload_n 0, 1) := by decide +kernel
theorem d_Mo_moves_11 : decode b_Mo_moves 11 = .ok (.getfield 115, 3) := by decide +kernel
theorem d_Mo_moves_14 : decode b_Mo_moves 14 = .ok (.aload_n 0, 1) := by decide +kernel
theorem d_Mo_moves_15 : decode b_Mo_moves 15 = .ok (.getfield 142, 3) := by decide +kernel
theorem d_Mo_moves_18 : decode b_Mo_moves 18 = .ok (.invokevirtual 162, 3) := by decide +kernel
theorem d_Mo_moves_21 : decode b_Mo_moves 21 = .ok (.putfield 142, 3) := by decide +kernel
theorem d_Mo_moves_24 : decode b_Mo_moves 24 = .ok (.aload_n 0, 1) := by decide +kernel
theorem d_Mo_moves_25 : decode b_Mo_moves 25 = .ok (.getfield 142, 3) := by decide +kernel
theorem d_Mo_moves_28 : decode b_Mo_moves 28 = .ok (.iconst (-1), 1) := by decide +kernel
theorem d_Mo_moves_29 : decode b_Mo_moves 29 = .ok (.if_icmp .eq 7, 3) := by decide +kernel
theorem d_Mo_moves_32 : decode b_Mo_moves 32 = .ok (.iconst 1, 1) := by decide +kernel
theorem d_Mo_moves_33 : decode b_Mo_moves 33 = .ok (.goto 4, 3) := by decide +kernel
theorem d_Mo_moves_36 : decode b_Mo_moves 36 = .ok (.iconst 0, 1) := by decide +kernel
theorem d_Mo_moves_37 : decode b_Mo_moves 37 = .ok (.ireturn, 1) := by decide +kernel
theorem d_Mo_moves_38 : decode b_Mo_moves 38 = .ok (.aload_n 0, 1) := by decide +kernel
theorem d_Mo_moves_39 : decode b_Mo_moves 39 = .ok (.getfield 142, 3) := by decide +kernel
theorem d_Mo_moves_42 : decode b_Mo_moves 42 = .ok (.iconst (-1), 1) := by decide +kernel
theorem d_Mo_moves_43 : decode b_Mo_moves 43 = .ok (.if_icmp .eq 19, 3) := by decide +kernel
theorem d_Mo_moves_46 : decode b_Mo_moves 46 = .ok (.aload_n 0, 1) := by decide +kernel
theorem d_Mo_moves_47 : decode b_Mo_moves 47 = .ok (.aload_n 0, 1) := by decide +kernel
theorem d_Mo_moves_48 : decode b_Mo_moves 48 = .ok (.aload_n 0, 1) := by decide +kernel
theorem d_Mo_moves_49 : decode b_Mo_moves 49 = .ok (.getfield 118, 3) := by decide +kernel
theorem d_Mo_moves_52 : decode b_Mo_moves 52 = .ok (.aload_n 0, 1) := by decide +kernel
theorem d_Mo_moves_53 : decode b_Mo_moves 53 = .ok (.getfield 145, 3) := by decide +kernel
theorem d_Mo_moves_56 : decode b_Mo_moves 56 = .ok (.invokevirtual 162, 3) := by decide +kernel
theorem d_Mo_moves_59 : decode b_Mo_moves 59 = .ok (.putfield 145, 3) := by decide +kernel
theorem d_Mo_moves_62 : decode b_Mo_moves 62 = .ok (.aload_n 0, 1) := by decide +kernel
theorem d_Mo_moves_63 : decode b_Mo_moves 63 = .ok (.getfield 142, 3) := by decide +kernel
theorem d_Mo_moves_66 : decode b_Mo_moves 66 = .ok (.iconst (-1), 1) := by decide +kernel
theorem d_Mo_moves_67 : decode b_Mo_moves 67 = .ok (.if_icmp .eq 11, 3) := by decide +kernel
theorem d_Mo_moves_70 : decode b_Mo_moves 70 = .ok (.aload_n 0, 1) := by decide +kernel
theorem d_Mo_moves_71 : decode b_Mo_moves 71 = .ok (.getfield 145, 3) := by decide +kernel
theorem d_Mo_moves_74 : decode b_Mo_moves 74 = .ok (.iconst (-1), 1) := by decide +kernel
theorem d_Mo_moves_75 : decode b_Mo_moves 75 = .ok (.if_icmp .ne 52, 3) := by decide +kernel
theorem d_Mo_moves_78 : decode b_Mo_moves 78 = .ok (.aload_n 0, 1) := by decide +kernel
theorem d_Mo_moves_79 : decode b_Mo_moves 79 = .ok (.aload_n 0, 1) := by decide +kernel
theorem d_Mo_moves_80 : decode b_Mo_moves 80 = .ok (.aload_n 0, 1) := by decide +kernel
theorem d_Mo_moves_81 : decode b_Mo_moves 81 = .ok (.getfield 115, 3) := by decide +kernel
theorem d_Mo_moves_84 : decode b_Mo_moves 84 = .ok (.aload_n 0, 1) := by decide +kernel
theorem d_Mo_moves_85 : decode b_Mo_moves 85 = .ok (.getfield 142, 3) := by decide +kernel
theorem d_Mo_moves_88 : decode b_Mo_moves 88 = .ok (.invokevirtual 162, 3) := by decide +kernel
theorem d_Mo_moves_91 : decode b_Mo_moves 91 = .ok (.putfield 142, 3) := by decide +kernel
theorem d_Mo_moves_94 : decode b_Mo_moves 94 = .ok (.aload_n 0, 1) := by decide +kernel
theorem d_Mo_moves_95 : decode b_Mo_moves 95 = .ok (.getfield 142, 3) := by decide +kernel
theorem d_Mo_moves_98 : decode b_Mo_moves 98 = .ok (.iconst (-1), 1) := by decide +kernel
theorem d_Mo_moves_99 : decode b_Mo_moves 99 = .ok (.if_icmp .ne 5, 3) := by decide +kernel
theorem d_Mo_moves_102 : decode b_Mo_moves 102 = .ok (.iconst 0, 1) := by decide +kernel
theorem d_Mo_moves_103 : decode b_Mo_moves 103 = .ok (.ireturn, 1) := by decide +kernel
theorem d_Mo_moves_104 : decode b_Mo_moves 104 = .ok (.aload_n 0, 1) := by decide +kernel
theorem d_Mo_moves_105 : decode b_Mo_moves 105 = .ok (.aload_n 0, 1) := by decide +kernel
theorem d_Mo_moves_106 : decode b_Mo_moves 106 = .ok (.aload_n 0, 1) := by decide +kernel
theorem d_Mo_moves_107 : decode b_Mo_moves 107 = .ok (.getfield 118, 3) := by decide +kernel
theorem d_Mo_moves_110 : decode b_Mo_moves 110 = .ok (.iconst (-1), 1) := by decide +kernel
theorem d_Mo_moves_111 : decode b_Mo_moves 111 = .ok (.invokevirtual 162, 3) := by decide +kernel
theorem d_Mo_moves_114 : decode b_Mo_moves 114 = .ok (.putfield 145, 3) := by decide +kernel
theorem d_Mo_moves_117 : decode b_Mo_moves 117 = .ok (.aload_n 0, 1) := by decide +kernel
theorem d_Mo_moves_118 : decode b_Mo_moves 118 = .ok (.getfield 145, 3) := by decide +kernel
theorem d_Mo_moves_121 : decode b_Mo_moves 121 = .ok (.iconst (-1), 1) := by decide +kernel
theorem d_Mo_moves_122 : decode b_Mo_moves 122 = .ok (.if_icmp .ne (-60), 3) := by decide +kernel
theorem d_Mo_moves_125 : decode b_Mo_moves 125 = .ok (.iconst 0, 1) := by decide +kernel
theorem d_Mo_moves_126 : decode b_Mo_moves 126 = .ok (.ireturn, 1) := by decide +kernel
theorem d_Mo_moves_127 : decode b_Mo_moves 127 = .ok (.iconst 1, 1) := by decide +kernel
theorem d_Mo_moves_128 : decode b_Mo_moves 128 = .ok (.ireturn, 1) := by decide +kernel
theorem d_Mo_findKey_0 : decode b_Mo_findKey 0 = .ok (.iconst (-1), 1) := by decide +kernel
theorem d_Mo_findKey_1 : decode b_Mo_findKey 1 = .ok (.istore_n 3, 1) := by decide +kernel
theorem d_Mo_findKey_2 : decode b_Mo_findKey 2 = .ok (.iconst 0, 1) := by decide +kernel
theorem d_Mo_findKey_3 : decode b_Mo_findKey 3 = .ok (.istore 4, 2) := by decide +kernel
theorem d_Mo_findKey_5 : decode b_Mo_findKey 5 = .ok (.iload 4, 2) := by decide +kernel
theorem d_Mo_findKey_7 : decode b_Mo_findKey 7 = .ok (.aload_n 0, 1) := by decide +kernel
theorem d_Mo_findKey_8 : decode b_Mo_findKey 8 = .ok (.getfield 159, 3) := by decide +kernel
theorem d_Mo_findKey_11 : decode b_Mo_findKey 11 = .ok (.if_icmp .ge 38, 3) := by decide +kernel
theorem d_Mo_findKey_14 : decode b_Mo_findKey 14 = .ok (.aload_n 0, 1) := by decide +kernel
theorem d_Mo_findKey_15 : decode b_Mo_findKey 15 = .ok (.getfield 13, 3) := by decide +kernel
theorem d_Mo_findKey_18 : decode b_Mo_findKey 18 = .ok (.iload 4, 2) := by decide +kernel
theorem d_Mo_findKey_20 : decode b_Mo_findKey 20 = .ok (.iaload, 1) := by decide +kernel
theorem d_Mo_findKey_21 : decode b_Mo_findKey 21 = .ok (.iload_n 1, 1) := by decide +kernel
theorem d_Mo_findKey_22 : decode b_Mo_findKey 22 = .ok (.if_icmp .ne 19, 3) := by decide +kernel
theorem d_Mo_findKey_25 : decode b_Mo_findKey 25 = .ok (.aload_n 0, 1) := by decide +kernel
theorem d_Mo_findKey_26 : decode b_Mo_findKey 26 = .ok (.iload 4, 2) := by decide +kernel
theorem d_Mo_findKey_28 : decode b_Mo_findKey 28 = .ok (.iconst 0, 1) := by decide +kernel
theorem d_Mo_findKey_29 : decode b_Mo_findKey 29 = .ok (.invokevirtual 151, 3) := by decide +kernel
theorem d_Mo_findKey_32 : decode b_Mo_findKey 32 = .ok (.iload_n 2, 1) := by decide +kernel
theorem d_Mo_findKey_33 : decode b_Mo_findKey 33 = .ok (.if_icmp .ne 8, 3) := by decide +kernel
theorem d_Mo_findKey_36 : decode b_Mo_findKey 36 = .ok (.iload 4, 2) := by decide +kernel
theorem d_Mo_findKey_38 : decode b_Mo_findKey 38 = .ok (.goto 4, 3) := by decide +kernel
theorem d_Mo_findKey_41 : decode b_Mo_findKey 41 = .ok (.iload_n 3, 1) := by decide +kernel
theorem d_Mo_findKey_42 : decode b_Mo_findKey 42 = .ok (.istore_n 3, 1) := by decide +kernel
theorem d_Mo_findKey_43 : decode b_Mo_findKey 43 = .ok (.iinc 4 1, 3) := by decide +kernel
theorem d_Mo_findKey_46 : decode b_Mo_findKey 46 = .ok (.goto (-41), 3) := by decide +kernel
theorem d_Mo_findKey_49 : decode b_Mo_findKey 49 = .ok (.iload_n 3, 1) := by decide +kernel
theorem d_Mo_findKey_50 : decode b_Mo_findKey 50 = .ok (.ireturn, 1) := by decide +kernel
theorem d_Mo_inserts_0 : decode b_Mo_inserts 0 = .ok (.aload_n 0, 1) := by decide +kernel
theorem d_Mo_inserts_1 : decode b_Mo_inserts 1 = .ok (.aload_n 0, 1) := by decide +kernel
theorem d_Mo_inserts_2 : decode b_Mo_inserts 2 = .ok (.getfield 115, 3) := by decide +kernel
theorem d_Mo_inserts_5 : decode b_Mo_inserts 5 = .ok (.aload_n 0, 1) := by decide +kernel
theorem d_Mo_inserts_6 : decode b_Mo_inserts 6 = .ok (.getfield 28, 3) := by decide +kernel
theorem d_Mo_inserts_9 : decode b_Mo_inserts 9 = .ok (.iconst 2, 1) := by decide +kernel
theorem d_Mo_inserts_10 : decode b_Mo_inserts 10 = .ok (.iaload, 1) := by decide +kernel
theorem d_Mo_inserts_11 : decode b_Mo_inserts 11 = .ok (.invokevirtual 165, 3) := by decide +kernel
theorem d_Mo_inserts_14 : decode b_Mo_inserts 14 = .ok (.iconst (-1), 1) := by decide +kernel
theorem d_Mo_inserts_15 : decode b_Mo_inserts 15 = .ok (.if_icmp .eq 5, 3) := by decide +kernel
theorem d_Mo_inserts_18 : decode b_Mo_inserts 18 = .ok (.iconst (-1), 1) := by decide +kernel
theorem d_Mo_inserts_19 : decode b_Mo_inserts 19 = .ok (.ireturn, 1) := by decide +kernel
theorem d_Mo_inserts_20 : decode b_Mo_inserts 20 = .ok (.aload_n 0, 1) := by decide +kernel
theorem d_Mo_inserts_21 : decode b_Mo_inserts 21 = .ok (.getfield 159, 3) := by decide +kernel
theorem d_Mo_inserts_24 : decode b_Mo_inserts 24 = .ok (.sipush 400, 3) := by decide +kernel
theorem d_Mo_inserts_27 : decode b_Mo_inserts 27 = .ok (.if_icmp .ne 6, 3) := by decide +kernel
theorem d_Mo_inserts_30 : decode b_Mo_inserts 30 = .ok (.bipush (-2), 2) := by decide +kernel
theorem d_Mo_inserts_32 : decode b_Mo_inserts 32 = .ok (.ireturn, 1) := by decide +kernel
theorem d_Mo_inserts_33 : decode b_Mo_inserts 33 = .ok (.aload_n 0, 1) := by decide +kernel
theorem d_Mo_inserts_34 : decode b_Mo_inserts 34 = .ok (.getfield 13, 3) := by decide +kernel
theorem d_Mo_inserts_37 : decode b_Mo_inserts 37 = .ok (.aload_n 0, 1) := by decide +kernel
theorem d_Mo_inserts_38 : decode b_Mo_inserts 38 = .ok (.getfield 159, 3) := by decide +kernel
theorem d_Mo_inserts_41 : decode b_Mo_inserts 41 = .ok (.aload_n 0, 1) := by decide +kernel
theorem d_Mo_inserts_42 : decode b_Mo_inserts 42 = .ok (.getfield 115, 3) := by decide +kernel
theorem d_Mo_inserts_45 : decode b_Mo_inserts 45 = .ok (.iastore, 1) := by decide +kernel
theorem d_Mo_inserts_46 : decode b_Mo_inserts 46 = .ok (.iconst 0, 1) := by decide +kernel
theorem d_Mo_inserts_47 : decode b_Mo_inserts 47 = .ok (.istore_n 1, 1) := by decide +kernel
theorem d_Mo_inserts_48 : decode b_Mo_inserts 48 = .ok (.iload_n 1, 1) := by decide +kernel
theorem d_Mo_inserts_49 : decode b_Mo_inserts 49 = .ok (.aload_n 0, 1) := by decide +kernel
theorem d_Mo_inserts_50 : decode b_Mo_inserts 50 = .ok (.getfield 7, 3) := by decide +kernel
theorem d_Mo_inserts_53 : decode b_Mo_inserts 53 = .ok (.aload_n 0, 1) := by decide +kernel
theorem d_Mo_inserts_54 : decode b_Mo_inserts 54 = .ok (.getfield 115, 3) := by decide +kernel
theorem d_Mo_inserts_57 : decode b_Mo_inserts 57 = .ok (.iaload, 1) := by decide +kernel
theorem d_Mo_inserts_58 : decode b_Mo_inserts 58 = .ok (.if_icmp .ge 31, 3) := by decide +kernel
theorem d_Mo_inserts_61 : decode b_Mo_inserts 61 = .ok (.aload_n 0, 1) := by decide +kernel
theorem d_Mo_inserts_62 : decode b_Mo_inserts 62 = .ok (.getfield 16, 3) := by decide +kernel
theorem d_Mo_inserts_65 : decode b_Mo_inserts 65 = .ok (.bipush 6, 2) := by decide +kernel
theorem d_Mo_inserts_67 : decode b_Mo_inserts 67 = .ok (.aload_n 0, 1) := by decide +kernel
theorem d_Mo_inserts_68 : decode b_Mo_inserts 68 = .ok (.getfield 159, 3) := by decide +kernel
theorem d_Mo_inserts_71 : decode b_Mo_inserts 71 = .ok (.imul, 1) := by decide +kernel
theorem d_Mo_inserts_72 : decode b_Mo_inserts 72 = .ok (.iload_n 1, 1) := by decide +kernel
theorem d_Mo_inserts_73 : decode b_Mo_inserts 73 = .ok (.iadd, 1) := by decide +kernel
theorem d_Mo_inserts_74 : decode b_Mo_inserts 74 = .ok (.aload_n 0, 1) := by decide +kernel
theorem d_Mo_inserts_75 : decode b_Mo_inserts 75 = .ok (.getfield 28, 3) := by decide +kernel
theorem d_Mo_inserts_78 : decode b_Mo_inserts 78 = .ok (.iconst 2, 1) := by decide +kernel
theorem d_Mo_inserts_79 : decode b_Mo_inserts 79 = .ok (.iload_n 1, 1) := by decide +kernel
theorem d_Mo_inserts_80 : decode b_Mo_inserts 80 = .ok (.iadd, 1) := by decide +kernel
theorem d_Mo_inserts_81 : decode b_Mo_inserts 81 = .ok (.iaload, 1) := by decide +kernel
theorem d_Mo_inserts_82 : decode b_Mo_inserts 82 = .ok (.iastore, 1) := by decide +kernel
theorem d_Mo_inserts_83 : decode b_Mo_inserts 83 = .ok (.iinc 1 1, 3) := by decide +kernel
theorem d_Mo_inserts_86 : decode b_Mo_inserts 86 = .ok (.goto (-38), 3) := by decide +kernel
theorem d_Mo_inserts_89 : decode b_Mo_inserts 89 = .ok (.aload_n 0, 1) := by decide +kernel
theorem d_Mo_inserts_90 : decode b_Mo_inserts 90 = .ok (.dup, 1) := by decide +kernel
theorem d_Mo_inserts_91 : decode b_Mo_inserts 91 = .ok (.getfield 159, 3) := by decide +kernel
theorem d_Mo_inserts_94 : decode b_Mo_inserts 94 = .ok (.iconst 1, 1) := by decide +kernel
theorem d_Mo_inserts_95 : decode b_Mo_inserts 95 = .ok (.iadd, 1) := by decide +kernel
theorem d_Mo_inserts_96 : decode b_Mo_inserts 96 = .ok (.putfield 159, 3) := by decide +kernel
theorem d_Mo_inserts_99 : decode b_Mo_inserts 99 = .ok (.iconst 0, 1) := by decide +kernel
theorem d_Mo_inserts_100 : decode b_Mo_inserts 100 = .ok (.ireturn, 1) := by decide +kernel
theorem d_Mo_deletes_0 : decode b_Mo_deletes 0 = .ok (.iconst 0, 1) := by decide +kernel
theorem d_Mo_deletes_1 : decode b_Mo_deletes 1 = .ok (.istore_n 1, 1) := by decide +kernel
theorem d_Mo_deletes_2 : decode b_Mo_deletes 2 = .ok (.iconst 0, 1) := by decide +kernel
theorem d_Mo_deletes_3 : decode b_Mo_deletes 3 = .ok (.istore_n 2, 1) := by decide +kernel
theorem d_Mo_deletes_4 : decode b_Mo_deletes 4 = .ok (.iload_n 2, 1) := by decide +kernel
theorem d_Mo_deletes_5 : decode b_Mo_deletes 5 = .ok (.aload_n 0, 1) := by decide +kernel
theorem d_Mo_deletes_6 : decode b_Mo_deletes 6 = .ok (.getfield 159, 3) := by decide +kernel
theorem d_Mo_deletes_9 : decode b_Mo_deletes 9 = .ok (.if_icmp .ge 85, 3) := by decide +kernel
theorem d_Mo_deletes_12 : decode b_Mo_deletes 12 = .ok (.aload_n 0, 1) := by decide +kernel
theorem d_Mo_deletes_13 : decode b_Mo_deletes 13 = .ok (.getfield 13, 3) := by decide +kernel
theorem d_Mo_deletes_16 : decode b_Mo_deletes 16 = .ok (.iload_n 2, 1) := by decide +kernel
theorem d_Mo_deletes_17 : decode b_Mo_deletes 17 = .ok (.iaload, 1) := by decide +kernel
theorem d_Mo_deletes_18 : decode b_Mo_deletes 18 = .ok (.aload_n 0, 1) := by decide +kernel
theorem d_Mo_deletes_19 : decode b_Mo_deletes 19 = .ok (.getfield 115, 3) := by decide +kernel
theorem d_Mo_deletes_22 : decode b_Mo_deletes 22 = .ok (.if_icmp .ne 15, 3) := by decide +kernel
theorem d_Mo_deletes_25 : decode b_Mo_deletes 25 = .ok (.aload_n 0, 1) := by decide +kernel
theorem d_Mo_deletes_26 : decode b_Mo_deletes 26 = .ok (.iload_n 2, 1) := by decide +kernel
theorem d_Mo_deletes_27 : decode b_Mo_deletes 27 = .ok (.iload_n 2, 1) := by decide +kernel
theorem d_Mo_deletes_28 : decode b_Mo_deletes 28 = .ok (.invokevirtual 168, 3) := by decide +kernel
theorem d_Mo_deletes_31 : decode b_Mo_deletes 31 = .ok (.ifCond .eq 6, 3) := by decide +kernel
theorem d_Mo_deletes_34 : decode b_Mo_deletes 34 = .ok (.goto 54, 3) := by decide +kernel
theorem d_Mo_deletes_37 : decode b_Mo_deletes 37 = .ok (.aload_n 0, 1) := by decide +kernel
theorem d_Mo_deletes_38 : decode b_Mo_deletes 38 = .ok (.getfield 13, 3) := by decide +kernel
theorem d_Mo_deletes_41 : decode b_Mo_deletes 41 = .ok (.iload_n 1, 1) := by decide +kernel
theorem d_Mo_deletes_42 : decode b_Mo_deletes 42 = .ok (.aload_n 0, 1) := by decide +kernel
theorem d_Mo_deletes_43 : decode b_Mo_deletes 43 = .ok (.getfield 13, 3) := by decide +kernel
theorem d_Mo_deletes_46 : decode b_Mo_deletes 46 = .ok (.iload_n 2, 1) := by decide +kernel
theorem d_Mo_deletes_47 : decode b_Mo_deletes 47 = .ok (.iaload, 1) := by decide +kernel
theorem d_Mo_deletes_48 : decode b_Mo_deletes 48 = .ok (.iastore, 1) := by decide +kernel
theorem d_Mo_deletes_49 : decode b_Mo_deletes 49 = .ok (.iconst 0, 1) := by decide +kernel
theorem d_Mo_deletes_50 : decode b_Mo_deletes 50 = .ok (.istore_n 3, 1) := by decide +kernel
theorem d_Mo_deletes_51 : decode b_Mo_deletes 51 = .ok (.iload_n 3, 1) := by decide +kernel
theorem d_Mo_deletes_52 : decode b_Mo_deletes 52 = .ok (.bipush 6, 2) := by decide +kernel
theorem d_Mo_deletes_54 : decode b_Mo_deletes 54 = .ok (.if_icmp .ge 31, 3) := by decide +kernel
theorem d_Mo_deletes_57 : decode b_Mo_deletes 57 = .ok (.aload_n 0, 1) := by decide +kernel
theorem d_Mo_deletes_58 : decode b_Mo_deletes 58 = .ok (.getfield 16, 3) := by decide +kernel
theorem d_Mo_deletes_61 : decode b_Mo_deletes 61 = .ok (.bipush 6, 2) := by decide +kernel
theorem d_Mo_deletes_63 : decode b_Mo_deletes 63 = .ok (.iload_n 1, 1) := by decide +kernel
theorem d_Mo_deletes_64 : decode b_Mo_deletes 64 = .ok (.imul, 1) := by decide +kernel
theorem d_Mo_deletes_65 : decode b_Mo_deletes 65 = .ok (.iload_n 3, 1) := by decide +kernel
theorem d_Mo_deletes_66 : decode b_Mo_deletes 66 = .ok (.iadd, 1) := by decide +kernel
theorem d_Mo_deletes_67 : decode b_Mo_deletes 67 = .ok (.aload_n 0, 1) := by decide +kernel
theorem d_Mo_deletes_68 : decode b_Mo_deletes 68 = .ok (.getfield 16, 3) := by decide +kernel
theorem d_Mo_deletes_71 : decode b_Mo_deletes 71 = .ok (.bipush 6, 2) := by decide +kernel
theorem d_Mo_deletes_73 : decode b_Mo_deletes 73 = .ok (.iload_n 2, 1) := by decide +kernel
theorem d_Mo_deletes_74 : decode b_Mo_deletes 74 = .ok (.imul, 1) := by decide +kernel
theorem d_Mo_deletes_75 : decode b_Mo_deletes 75 = .ok (.iload_n 3, 1) := by decide +kernel
theorem d_Mo_deletes_76 : decode b_Mo_deletes 76 = .ok (.iadd, 1) := by decide +kernel
theorem d_Mo_deletes_77 : decode b_Mo_deletes 77 = .ok (.iaload, 1) := by decide +kernel
theorem d_Mo_deletes_78 : decode b_Mo_deletes 78 = .ok (.iastore, 1) := by decide +kernel
theorem d_Mo_deletes_79 : decode b_Mo_deletes 79 = .ok (.iinc 3 1, 3) := by decide +kernel
theorem d_Mo_deletes_82 : decode b_Mo_deletes 82 = .ok (.goto (-31), 3) := by decide +kernel
theorem d_Mo_deletes_85 : decode b_Mo_deletes 85 = .ok (.iinc 1 1, 3) := by decide +kernel
theorem d_Mo_deletes_88 : decode b_Mo_deletes 88 = .ok (.iinc 2 1, 3) := by decide +kernel
theorem d_Mo_deletes_91 : decode b_Mo_deletes 91 = .ok (.goto (-87), 3) := by decide +kernel
theorem d_Mo_deletes_94 : decode b_Mo_deletes 94 = .ok (.aload_n 0, 1) := by decide +kernel
theorem d_Mo_deletes_95 : decode b_Mo_deletes 95 = .ok (.iload_n 1, 1) := by decide +kernel
theorem d_Mo_deletes_96 : decode b_Mo_deletes 96 = .ok (.putfield 159, 3) := by decide +kernel
theorem d_Mo_deletes_99 : decode b_Mo_deletes 99 = .ok (.iconst 0, 1) := by decide +kernel
theorem d_Mo_deletes_100 : decode b_Mo_deletes 100 = .ok (.ireturn, 1) := by decide +kernel
end
section
theorem d_Mo_creates_0 : decode b_Mo_creates 0 = .ok (.aload_n 0, 1) := by decide +kernel
theorem d_Mo_creates_1 : decode b_Mo_creates 1 = .ok (.aload_n 0, 1) := by decide +kernel
theorem d_Mo_creates_2 : decode b_Mo_creates 2 = .ok (.getfield 115, 3) := by decide +kernel
theorem d_Mo_creates_5 : decode b_Mo_creates 5 = .ok (.invokevirtual 101, 3) := by decide +kernel
theorem d_Mo_creates_8 : decode b_Mo_creates 8 = .ok (.ifCond .eq 6, 3) := by decide +kernel
theorem d_Mo_creates_11 : decode b_Mo_creates 11 = .ok (.bipush (-3), 2) := by decide +kernel
theorem d_Mo_creates_13 : decode b_Mo_creates 13 = .ok (.ireturn, 1) := by decide +kernel
theorem d_Mo_creates_14 : decode b_Mo_creates 14 = .ok (.aload_n 0, 1) := by decide +kernel
theorem d_Mo_creates_15 : decode b_Mo_creates 15 = .ok (.getfield 7, 3) := by decide +kernel
theorem d_Mo_creates_18 : decode b_Mo_creates 18 = .ok (.aload_n 0, 1) := by decide +kernel
theorem d_Mo_creates_19 : decode b_Mo_creates 19 = .ok (.getfield 115, 3) := by decide +kernel
theorem d_Mo_creates_22 : decode b_Mo_creates 22 = .ok (.aload_n 0, 1) := by decide +kernel
theorem d_Mo_creates_23 : decode b_Mo_creates 23 = .ok (.getfield 28, 3) := by decide +kernel
theorem d_Mo_creates_26 : decode b_Mo_creates 26 = .ok (.iconst 2, 1) := by decide +kernel
theorem d_Mo_creates_27 : decode b_Mo_creates 27 = .ok (.iaload, 1) := by decide +kernel
theorem d_Mo_creates_28 : decode b_Mo_creates 28 = .ok (.iastore, 1) := by decide +kernel
theorem d_Mo_creates_29 : decode b_Mo_creates 29 = .ok (.iconst 0, 1) := by decide +kernel
theorem d_Mo_creates_30 : decode b_Mo_creates 30 = .ok (.ireturn, 1) := by decide +kernel
theorem d_Mo_folds_0 : decode b_Mo_folds 0 = .ok (.aload_n 0, 1) := by decide +kernel
theorem d_Mo_folds_1 : decode b_Mo_folds 1 = .ok (.lconst 0, 1) := by decide +kernel
theorem d_Mo_folds_2 : decode b_Mo_folds 2 = .ok (.putfield 172, 3) := by decide +kernel
theorem d_Mo_folds_5 : decode b_Mo_folds 5 = .ok (.iconst 0, 1) := by decide +kernel
theorem d_Mo_folds_6 : decode b_Mo_folds 6 = .ok (.istore_n 1, 1) := by decide +kernel
theorem d_Mo_folds_7 : decode b_Mo_folds 7 = .ok (.iload_n 1, 1) := by decide +kernel
theorem d_Mo_folds_8 : decode b_Mo_folds 8 = .ok (.aload_n 0, 1) := by decide +kernel
theorem d_Mo_folds_9 : decode b_Mo_folds 9 = .ok (.getfield 159, 3) := by decide +kernel
theorem d_Mo_folds_12 : decode b_Mo_folds 12 = .ok (.if_icmp .ge 137, 3) := by decide +kernel
theorem d_Mo_folds_15 : decode b_Mo_folds 15 = .ok (.iconst 0, 1) := by decide +kernel
theorem d_Mo_folds_16 : decode b_Mo_folds 16 = .ok (.istore_n 2, 1) := by decide +kernel
theorem d_Mo_folds_17 : decode b_Mo_folds 17 = .ok (.iload_n 2, 1) := by decide +kernel
theorem d_Mo_folds_18 : decode b_Mo_folds 18 = .ok (.aload_n 0, 1) := by decide +kernel
theorem d_Mo_folds_19 : decode b_Mo_folds 19 = .ok (.getfield 118, 3) := by decide +kernel
theorem d_Mo_folds_22 : decode b_Mo_folds 22 = .ok (.iconst (-1), 1) := by decide +kernel
theorem d_Mo_folds_23 : decode b_Mo_folds 23 = .ok (.if_icmp .ne 7, 3) := by decide +kernel
theorem d_Mo_folds_26 : decode b_Mo_folds 26 = .ok (.iconst 1, 1) := by decide +kernel
theorem d_Mo_folds_27 : decode b_Mo_folds 27 = .ok (.goto 7, 3) := by decide +kernel
theorem d_Mo_folds_30 : decode b_Mo_folds 30 = .ok (.aload_n 0, 1) := by decide +kernel
theorem d_Mo_folds_31 : decode b_Mo_folds 31 = .ok (.getfield 159, 3) := by decide +kernel
theorem d_Mo_folds_34 : decode b_Mo_folds 34 = .ok (.if_icmp .ge 109, 3) := by decide +kernel
theorem d_Mo_folds_37 : decode b_Mo_folds 37 = .ok (.aload_n 0, 1) := by decide +kernel
theorem d_Mo_folds_38 : decode b_Mo_folds 38 = .ok (.getfield 13, 3) := by decide +kernel
theorem d_Mo_folds_41 : decode b_Mo_folds 41 = .ok (.iload_n 1, 1) := by decide +kernel
theorem d_Mo_folds_42 : decode b_Mo_folds 42 = .ok (.iaload, 1) := by decide +kernel
theorem d_Mo_folds_43 : decode b_Mo_folds 43 = .ok (.aload_n 0, 1) := by decide +kernel
theorem d_Mo_folds_44 : decode b_Mo_folds 44 = .ok (.getfield 115, 3) := by decide +kernel
theorem d_Mo_folds_47 : decode b_Mo_folds 47 = .ok (.if_icmp .ne 96, 3) := by decide +kernel
theorem d_Mo_folds_50 : decode b_Mo_folds 50 = .ok (.aload_n 0, 1) := by decide +kernel
theorem d_Mo_folds_51 : decode b_Mo_folds 51 = .ok (.getfield 118, 3) := by decide +kernel
theorem d_Mo_folds_54 : decode b_Mo_folds 54 = .ok (.iconst (-1), 1) := by decide +kernel
theorem d_Mo_folds_55 : decode b_Mo_folds 55 = .ok (.if_icmp .eq 16, 3) := by decide +kernel
theorem d_Mo_folds_58 : decode b_Mo_folds 58 = .ok (.aload_n 0, 1) := by decide +kernel
theorem d_Mo_folds_59 : decode b_Mo_folds 59 = .ok (.getfield 13, 3) := by decide +kernel
theorem d_Mo_folds_62 : decode b_Mo_folds 62 = .ok (.iload_n 2, 1) := by decide +kernel
theorem d_Mo_folds_63 : decode b_Mo_folds 63 = .ok (.iaload, 1) := by decide +kernel
theorem d_Mo_folds_64 : decode b_Mo_folds 64 = .ok (.aload_n 0, 1) := by decide +kernel
theorem d_Mo_folds_65 : decode b_Mo_folds 65 = .ok (.getfield 118, 3) := by decide +kernel
theorem d_Mo_folds_68 : decode b_Mo_folds 68 = .ok (.if_icmp .ne 28, 3) := by decide +kernel
theorem d_Mo_folds_71 : decode b_Mo_folds 71 = .ok (.aload_n 0, 1) := by decide +kernel
theorem d_Mo_folds_72 : decode b_Mo_folds 72 = .ok (.iload_n 1, 1) := by decide +kernel
theorem d_Mo_folds_73 : decode b_Mo_folds 73 = .ok (.aload_n 0, 1) := by decide +kernel
theorem d_Mo_folds_74 : decode b_Mo_folds 74 = .ok (.getfield 118, 3) := by decide +kernel
theorem d_Mo_folds_77 : decode b_Mo_folds 77 = .ok (.iconst (-1), 1) := by decide +kernel
theorem d_Mo_folds_78 : decode b_Mo_folds 78 = .ok (.if_icmp .ne 7, 3) := by decide +kernel
theorem d_Mo_folds_81 : decode b_Mo_folds 81 = .ok (.iload_n 1, 1) := by decide +kernel
theorem d_Mo_folds_82 : decode b_Mo_folds 82 = .ok (.goto 4, 3) := by decide +kernel
theorem d_Mo_folds_85 : decode b_Mo_folds 85 = .ok (.iload_n 2, 1) := by decide +kernel
theorem d_Mo_folds_86 : decode b_Mo_folds 86 = .ok (.invokevirtual 168, 3) := by decide +kernel
theorem d_Mo_folds_89 : decode b_Mo_folds 89 = .ok (.ifCond .eq 7, 3) := by decide +kernel
theorem d_Mo_folds_92 : decode b_Mo_folds 92 = .ok (.iconst 1, 1) := by decide +kernel
theorem d_Mo_folds_93 : decode b_Mo_folds 93 = .ok (.goto 4, 3) := by decide +kernel
theorem d_Mo_folds_96 : decode b_Mo_folds 96 = .ok (.iconst 0, 1) := by decide +kernel
theorem d_Mo_folds_97 : decode b_Mo_folds 97 = .ok (.istore_n 3, 1) := by decide +kernel
theorem d_Mo_folds_98 : decode b_Mo_folds 98 = .ok (.aload_n 0, 1) := by decide +kernel
theorem d_Mo_folds_99 : decode b_Mo_folds 99 = .ok (.dup, 1) := by decide +kernel
theorem d_Mo_folds_100 : decode b_Mo_folds 100 = .ok (.getfield 172, 3) := by decide +kernel
theorem d_Mo_folds_103 : decode b_Mo_folds 103 = .ok (.iload_n 3, 1) := by decide +kernel
theorem d_Mo_folds_104 : decode b_Mo_folds 104 = .ok (.ifCond .ne 7, 3) := by decide +kernel
theorem d_Mo_folds_107 : decode b_Mo_folds 107 = .ok (.lconst 0, 1) := by decide +kernel
theorem d_Mo_folds_108 : decode b_Mo_folds 108 = .ok (.goto 25, 3) := by decide +kernel
theorem d_Mo_folds_111 : decode b_Mo_folds 111 = .ok (.aload_n 0, 1) := by decide +kernel
theorem d_Mo_folds_112 : decode b_Mo_folds 112 = .ok (.getfield 28, 3) := by decide +kernel
theorem d_Mo_folds_115 : decode b_Mo_folds 115 = .ok (.iconst 1, 1) := by decide +kernel
theorem d_Mo_folds_116 : decode b_Mo_folds 116 = .ok (.iaload, 1) := by decide +kernel
theorem d_Mo_folds_117 : decode b_Mo_folds 117 = .ok (.iconst 5, 1) := by decide +kernel
theorem d_Mo_folds_118 : decode b_Mo_folds 118 = .ok (.if_icmp .ne 7, 3) := by decide +kernel
theorem d_Mo_folds_121 : decode b_Mo_folds 121 = .ok (.lconst 1, 1) := by decide +kernel
theorem d_Mo_folds_122 : decode b_Mo_folds 122 = .ok (.goto 11, 3) := by decide +kernel
theorem d_Mo_folds_125 : decode b_Mo_folds 125 = .ok (.aload_n 0, 1) := by decide +kernel
theorem d_Mo_folds_126 : decode b_Mo_folds 126 = .ok (.iconst 2, 1) := by decide +kernel
theorem d_Mo_folds_127 : decode b_Mo_folds 127 = .ok (.iload_n 1, 1) := by decide +kernel
theorem d_Mo_folds_128 : decode b_Mo_folds 128 = .ok (.iload_n 2, 1) := by decide +kernel
theorem d_Mo_folds_129 : decode b_Mo_folds 129 = .ok (.invokevirtual 155, 3) := by decide +kernel
theorem d_Mo_folds_132 : decode b_Mo_folds 132 = .ok (.i2l, 1) := by decide +kernel
theorem d_Mo_folds_133 : decode b_Mo_folds 133 = .ok (.ladd, 1) := by decide +kernel
theorem d_Mo_folds_134 : decode b_Mo_folds 134 = .ok (.putfield 172, 3) := by decide +kernel
theorem d_Mo_folds_137 : decode b_Mo_folds 137 = .ok (.iinc 2 1, 3) := by decide +kernel
theorem d_Mo_folds_140 : decode b_Mo_folds 140 = .ok (.goto (-123), 3) := by decide +kernel
theorem d_Mo_folds_143 : decode b_Mo_folds 143 = .ok (.iinc 1 1, 3) := by decide +kernel
theorem d_Mo_folds_146 : decode b_Mo_folds 146 = .ok (.goto (-139), 3) := by decide +kernel
theorem d_Mo_folds_149 : decode b_Mo_folds 149 = .ok (.return_, 1) := by decide +kernel
theorem d_Mo_isFold_0 : decode b_Mo_isFold 0 = .ok (.aload_n 0, 1) := by decide +kernel
theorem d_Mo_isFold_1 : decode b_Mo_isFold 1 = .ok (.getfield 25, 3) := by decide +kernel
theorem d_Mo_isFold_4 : decode b_Mo_isFold 4 = .ok (.iconst 1, 1) := by decide +kernel
theorem d_Mo_isFold_5 : decode b_Mo_isFold 5 = .ok (.iaload, 1) := by decide +kernel
theorem d_Mo_isFold_6 : decode b_Mo_isFold 6 = .ok (.ifCond .ne 17, 3) := by decide +kernel
theorem d_Mo_isFold_9 : decode b_Mo_isFold 9 = .ok (.aload_n 0, 1) := by decide +kernel
theorem d_Mo_isFold_10 : decode b_Mo_isFold 10 = .ok (.getfield 28, 3) := by decide +kernel
theorem d_Mo_isFold_13 : decode b_Mo_isFold 13 = .ok (.iconst 1, 1) := by decide +kernel
theorem d_Mo_isFold_14 : decode b_Mo_isFold 14 = .ok (.iaload, 1) := by decide +kernel
theorem d_Mo_isFold_15 : decode b_Mo_isFold 15 = .ok (.iconst 4, 1) := by decide +kernel
theorem d_Mo_isFold_16 : decode b_Mo_isFold 16 = .ok (.if_icmp .eq 7, 3) := by decide +kernel
theorem d_Mo_isFold_19 : decode b_Mo_isFold 19 = .ok (.iconst 1, 1) := by decide +kernel
theorem d_Mo_isFold_20 : decode b_Mo_isFold 20 = .ok (.goto 4, 3) := by decide +kernel
theorem d_Mo_isFold_23 : decode b_Mo_isFold 23 = .ok (.iconst 0, 1) := by decide +kernel
theorem d_Mo_isFold_24 : decode b_Mo_isFold 24 = .ok (.ireturn, 1) := by decide +kernel
theorem d_Mo_selects_0 : decode b_Mo_selects 0 = .ok (.aload_n 0, 1) := by decide +kernel
theorem d_Mo_selects_1 : decode b_Mo_selects 1 = .ok (.invokevirtual 176, 3) := by decide +kernel
theorem d_Mo_selects_4 : decode b_Mo_selects 4 = .ok (.ifCond .eq 29, 3) := by decide +kernel
theorem d_Mo_selects_7 : decode b_Mo_selects 7 = .ok (.aload_n 0, 1) := by decide +kernel
theorem d_Mo_selects_8 : decode b_Mo_selects 8 = .ok (.invokevirtual 179, 3) := by decide +kernel
theorem d_Mo_selects_11 : decode b_Mo_selects 11 = .ok (.aload_n 0, 1) := by decide +kernel
theorem d_Mo_selects_12 : decode b_Mo_selects 12 = .ok (.iconst 1, 1) := by decide +kernel
theorem d_Mo_selects_13 : decode b_Mo_selects 13 = .ok (.putfield 136, 3) := by decide +kernel
theorem d_Mo_selects_16 : decode b_Mo_selects 16 = .ok (.aload_n 0, 1) := by decide +kernel
theorem d_Mo_selects_17 : decode b_Mo_selects 17 = .ok (.iconst 1, 1) := by decide +kernel
theorem d_Mo_selects_18 : decode b_Mo_selects 18 = .ok (.putfield 148, 3) := by decide +kernel
theorem d_Mo_selects_21 : decode b_Mo_selects 21 = .ok (.aload_n 0, 1) := by decide +kernel
theorem d_Mo_selects_22 : decode b_Mo_selects 22 = .ok (.dup, 1) := by decide +kernel
theorem d_Mo_selects_23 : decode b_Mo_selects 23 = .ok (.getfield 139, 3) := by decide +kernel
theorem d_Mo_selects_26 : decode b_Mo_selects 26 = .ok (.iconst 1, 1) := by decide +kernel
theorem d_Mo_selects_27 : decode b_Mo_selects 27 = .ok (.iadd, 1) := by decide +kernel
theorem d_Mo_selects_28 : decode b_Mo_selects 28 = .ok (.putfield 139, 3) := by decide +kernel
theorem d_Mo_selects_31 : decode b_Mo_selects 31 = .ok (.iconst 1, 1) := by decide +kernel
theorem d_Mo_selects_32 : decode b_Mo_selects 32 = .ok (.ireturn, 1) := by decide +kernel
theorem d_Mo_selects_33 : decode b_Mo_selects 33 = .ok (.aload_n 0, 1) := by decide +kernel
theorem d_Mo_selects_34 : decode b_Mo_selects 34 = .ok (.invokevirtual 182, 3) := by decide +kernel
theorem d_Mo_selects_37 : decode b_Mo_selects 37 = .ok (.istore_n 1, 1) := by decide +kernel
theorem d_Mo_selects_38 : decode b_Mo_selects 38 = .ok (.iload_n 1, 1) := by decide +kernel
theorem d_Mo_selects_39 : decode b_Mo_selects 39 = .ok (.ifCond .eq 26, 3) := by decide +kernel
theorem d_Mo_selects_42 : decode b_Mo_selects 42 = .ok (.aload_n 0, 1) := by decide +kernel
theorem d_Mo_selects_43 : decode b_Mo_selects 43 = .ok (.aload_n 0, 1) := by decide +kernel
theorem d_Mo_selects_44 : decode b_Mo_selects 44 = .ok (.getfield 142, 3) := by decide +kernel
theorem d_Mo_selects_47 : decode b_Mo_selects 47 = .ok (.aload_n 0, 1) := by decide +kernel
theorem d_Mo_selects_48 : decode b_Mo_selects 48 = .ok (.getfield 145, 3) := by decide +kernel
theorem d_Mo_selects_51 : decode b_Mo_selects 51 = .ok (.invokevirtual 168, 3) := by decide +kernel
theorem d_Mo_selects_54 : decode b_Mo_selects 54 = .ok (.ifCond .ne 11, 3) := by decide +kernel
theorem d_Mo_selects_57 : decode b_Mo_selects 57 = .ok (.aload_n 0, 1) := by decide +kernel
theorem d_Mo_selects_58 : decode b_Mo_selects 58 = .ok (.invokevirtual 182, 3) := by decide +kernel
theorem d_Mo_selects_61 : decode b_Mo_selects 61 = .ok (.istore_n 1, 1) := by decide +kernel
theorem d_Mo_selects_62 : decode b_Mo_selects 62 = .ok (.goto (-24), 3) := by decide +kernel
theorem d_Mo_selects_65 : decode b_Mo_selects 65 = .ok (.aload_n 0, 1) := by decide +kernel
theorem d_Mo_selects_66 : decode b_Mo_selects 66 = .ok (.iload_n 1, 1) := by decide +kernel
theorem d_Mo_selects_67 : decode b_Mo_selects 67 = .ok (.ifCond .eq 7, 3) := by decide +kernel
theorem d_Mo_selects_70 : decode b_Mo_selects 70 = .ok (.iconst 0, 1) := by decide +kernel
theorem d_Mo_selects_71 : decode b_Mo_selects 71 = .ok (.goto 4, 3) := by decide +kernel
theorem d_Mo_selects_74 : decode b_Mo_selects 74 = .ok (.iconst 1, 1) := by decide +kernel
theorem d_Mo_selects_75 : decode b_Mo_selects 75 = .ok (.putfield 136, 3) := by decide +kernel
theorem d_Mo_selects_78 : decode b_Mo_selects 78 = .ok (.aload_n 0, 1) := by decide +kernel
theorem d_Mo_selects_79 : decode b_Mo_selects 79 = .ok (.iload_n 1, 1) := by decide +kernel
theorem d_Mo_selects_80 : decode b_Mo_selects 80 = .ok (.putfield 148, 3) := by decide +kernel
theorem d_Mo_selects_83 : decode b_Mo_selects 83 = .ok (.aload_n 0, 1) := by decide +kernel
theorem d_Mo_selects_84 : decode b_Mo_selects 84 = .ok (.dup, 1) := by decide +kernel
theorem d_Mo_selects_85 : decode b_Mo_selects 85 = .ok (.getfield 139, 3) := by decide +kernel
theorem d_Mo_selects_88 : decode b_Mo_selects 88 = .ok (.iload_n 1, 1) := by decide +kernel
theorem d_Mo_selects_89 : decode b_Mo_selects 89 = .ok (.ifCond .eq 7, 3) := by decide +kernel
theorem d_Mo_selects_92 : decode b_Mo_selects 92 = .ok (.iconst 1, 1) := by decide +kernel
theorem d_Mo_selects_93 : decode b_Mo_selects 93 = .ok (.goto 4, 3) := by decide +kernel
theorem d_Mo_selects_96 : decode b_Mo_selects 96 = .ok (.iconst 0, 1) := by decide +kernel
theorem d_Mo_selects_97 : decode b_Mo_selects 97 = .ok (.iadd, 1) := by decide +kernel
theorem d_Mo_selects_98 : decode b_Mo_selects 98 = .ok (.putfield 139, 3) := by decide +kernel
theorem d_Mo_selects_101 : decode b_Mo_selects 101 = .ok (.iload_n 1, 1) := by decide +kernel
theorem d_Mo_selects_102 : decode b_Mo_selects 102 = .ok (.ifCond .eq 7, 3) := by decide +kernel
theorem d_Mo_selects_105 : decode b_Mo_selects 105 = .ok (.iconst 1, 1) := by decide +kernel
theorem d_Mo_selects_106 : decode b_Mo_selects 106 = .ok (.goto 4, 3) := by decide +kernel
theorem d_Mo_selects_109 : decode b_Mo_selects 109 = .ok (.iconst 0, 1) := by decide +kernel
theorem d_Mo_selects_110 : decode b_Mo_selects 110 = .ok (.ireturn, 1) := by decide +kernel
theorem d_Mo_step_0 : decode b_Mo_step 0 = .ok (.aload_n 0, 1) := by decide +kernel
theorem d_Mo_step_1 : decode b_Mo_step 1 = .ok (.aload_n 0, 1) := by decide +kernel
theorem d_Mo_step_2 : decode b_Mo_step 2 = .ok (.getfield 130, 3) := by decide +kernel
theorem d_Mo_step_5 : decode b_Mo_step 5 = .ok (.ifCond .eq 7, 3) := by decide +kernel
theorem d_Mo_step_8 : decode b_Mo_step 8 = .ok (.iconst 0, 1) := by decide +kernel
theorem d_Mo_step_9 : decode b_Mo_step 9 = .ok (.goto 4, 3) := by decide +kernel
theorem d_Mo_step_12 : decode b_Mo_step 12 = .ok (.iconst 1, 1) := by decide +kernel
theorem d_Mo_step_13 : decode b_Mo_step 13 = .ok (.putfield 31, 3) := by decide +kernel
theorem d_Mo_step_16 : decode b_Mo_step 16 = .ok (.aload_n 0, 1) := by decide +kernel
theorem d_Mo_step_17 : decode b_Mo_step 17 = .ok (.getfield 130, 3) := by decide +kernel
theorem d_Mo_step_20 : decode b_Mo_step 20 = .ok (.ifCond .ne 5, 3) := by decide +kernel
theorem d_Mo_step_23 : decode b_Mo_step 23 = .ok (.iconst 0, 1) := by decide +kernel
theorem d_Mo_step_24 : decode b_Mo_step 24 = .ok (.ireturn, 1) := by decide +kernel
theorem d_Mo_step_25 : decode b_Mo_step 25 = .ok (.aload_n 0, 1) := by decide +kernel
theorem d_Mo_step_26 : decode b_Mo_step 26 = .ok (.iconst 0, 1) := by decide +kernel
theorem d_Mo_step_27 : decode b_Mo_step 27 = .ok (.putfield 148, 3) := by decide +kernel
theorem d_Mo_step_30 : decode b_Mo_step 30 = .ok (.aload_n 0, 1) := by decide +kernel
theorem d_Mo_step_31 : decode b_Mo_step 31 = .ok (.getfield 136, 3) := by decide +kernel
theorem d_Mo_step_34 : decode b_Mo_step 34 = .ok (.iconst 1, 1) := by decide +kernel
theorem d_Mo_step_35 : decode b_Mo_step 35 = .ok (.if_icmp .ne 5, 3) := by decide +kernel
theorem d_Mo_step_38 : decode b_Mo_step 38 = .ok (.iconst 0, 1) := by decide +kernel
theorem d_Mo_step_39 : decode b_Mo_step 39 = .ok (.ireturn, 1) := by decide +kernel
theorem d_Mo_step_40 : decode b_Mo_step 40 = .ok (.aload_n 0, 1) := by decide +kernel
theorem d_Mo_step_41 : decode b_Mo_step 41 = .ok (.getfield 28, 3) := by decide +kernel
theorem d_Mo_step_44 : decode b_Mo_step 44 = .ok (.iconst 0, 1) := by decide +kernel
theorem d_Mo_step_45 : decode b_Mo_step 45 = .ok (.iaload, 1) := by decide +kernel
theorem d_Mo_step_46 : decode b_Mo_step 46 = .ok (.iconst 3, 1) := by decide +kernel
theorem d_Mo_step_47 : decode b_Mo_step 47 = .ok (.if_icmp .ne 8, 3) := by decide +kernel
theorem d_Mo_step_50 : decode b_Mo_step 50 = .ok (.aload_n 0, 1) := by decide +kernel
theorem d_Mo_step_51 : decode b_Mo_step 51 = .ok (.invokevirtual 185, 3) := by decide +kernel
theorem d_Mo_step_54 : decode b_Mo_step 54 = .ok (.ireturn, 1) := by decide +kernel
theorem d_Mo_step_55 : decode b_Mo_step 55 = .ok (.aload_n 0, 1) := by decide +kernel
theorem d_Mo_step_56 : decode b_Mo_step 56 = .ok (.iconst 1, 1) := by decide +kernel
theorem d_Mo_step_57 : decode b_Mo_step 57 = .ok (.putfield 136, 3) := by decide +kernel
theorem d_Mo_step_60 : decode b_Mo_step 60 = .ok (.aload_n 0, 1) := by decide +kernel
theorem d_Mo_step_61 : decode b_Mo_step 61 = .ok (.getfield 28, 3) := by decide +kernel
theorem d_Mo_step_64 : decode b_Mo_step 64 = .ok (.iconst 0, 1) := by decide +kernel
theorem d_Mo_step_65 : decode b_Mo_step 65 = .ok (.iaload, 1) := by decide +kernel
theorem d_Mo_step_66 : decode b_Mo_step 66 = .ok (.ifCond .ne 10, 3) := by decide +kernel
theorem d_Mo_step_69 : decode b_Mo_step 69 = .ok (.aload_n 0, 1) := by decide +kernel
theorem d_Mo_step_70 : decode b_Mo_step 70 = .ok (.invokevirtual 188, 3) := by decide +kernel
theorem d_Mo_step_73 : decode b_Mo_step 73 = .ok (.goto 24, 3) := by decide +kernel
theorem d_Mo_step_76 : decode b_Mo_step 76 = .ok (.aload_n 0, 1) := by decide +kernel
theorem d_Mo_step_77 : decode b_Mo_step 77 = .ok (.getfield 28, 3) := by decide +kernel
theorem d_Mo_step_80 : decode b_Mo_step 80 = .ok (.iconst 0, 1) := by decide +kernel
theorem d_Mo_step_81 : decode b_Mo_step 81 = .ok (.iaload, 1) := by decide +kernel
theorem d_Mo_step_82 : decode b_Mo_step 82 = .ok (.iconst 1, 1) := by decide +kernel
theorem d_Mo_step_83 : decode b_Mo_step 83 = .ok (.if_icmp .ne 10, 3) := by decide +kernel
theorem d_Mo_step_86 : decode b_Mo_step 86 = .ok (.aload_n 0, 1) := by decide +kernel
theorem d_Mo_step_87 : decode b_Mo_step 87 = .ok (.invokevirtual 191, 3) := by decide +kernel
theorem d_Mo_step_90 : decode b_Mo_step 90 = .ok (.goto 7, 3) := by decide +kernel
theorem d_Mo_step_93 : decode b_Mo_step 93 = .ok (.aload_n 0, 1) := by decide +kernel
theorem d_Mo_step_94 : decode b_Mo_step 94 = .ok (.invokevirtual 194, 3) := by decide +kernel
theorem d_Mo_step_97 : decode b_Mo_step 97 = .ok (.ireturn, 1) := by decide +kernel
theorem d_Mo_reset_0 : decode b_Mo_reset 0 = .ok (.aload_n 0, 1) := by decide +kernel
theorem d_Mo_reset_1 : decode b_Mo_reset 1 = .ok (.aload_n 0, 1) := by decide +kernel
theorem d_Mo_reset_2 : decode b_Mo_reset 2 = .ok (.getfield 130, 3) := by decide +kernel
theorem d_Mo_reset_5 : decode b_Mo_reset 5 = .ok (.ifCond .eq 7, 3) := by decide +kernel
theorem d_Mo_reset_8 : decode b_Mo_reset 8 = .ok (.iconst 0, 1) := by decide +kernel
theorem d_Mo_reset_9 : decode b_Mo_reset 9 = .ok (.goto 4, 3) := by decide +kernel
theorem d_Mo_reset_12 : decode b_Mo_reset 12 = .ok (.iconst 1, 1) := by decide +kernel
theorem d_Mo_reset_13 : decode b_Mo_reset 13 = .ok (.putfield 31, 3) := by decide +kernel
theorem d_Mo_reset_16 : decode b_Mo_reset 16 = .ok (.aload_n 0, 1) := by decide +kernel
theorem d_Mo_reset_17 : decode b_Mo_reset 17 = .ok (.getfield 130, 3) := by decide +kernel
theorem d_Mo_reset_20 : decode b_Mo_reset 20 = .ok (.ifCond .ne 5, 3) := by decide +kernel
theorem d_Mo_reset_23 : decode b_Mo_reset 23 = .ok (.iconst 0, 1) := by decide +kernel
theorem d_Mo_reset_24 : decode b_Mo_reset 24 = .ok (.ireturn, 1) := by decide +kernel
theorem d_Mo_reset_25 : decode b_Mo_reset 25 = .ok (.aload_n 0, 1) := by decide +kernel
theorem d_Mo_reset_26 : decode b_Mo_reset 26 = .ok (.getfield 139, 3) := by decide +kernel
theorem d_Mo_reset_29 : decode b_Mo_reset 29 = .ok (.istore_n 1, 1) := by decide +kernel
theorem d_Mo_reset_30 : decode b_Mo_reset 30 = .ok (.aload_n 0, 1) := by decide +kernel
theorem d_Mo_reset_31 : decode b_Mo_reset 31 = .ok (.invokevirtual 133, 3) := by decide +kernel
theorem d_Mo_reset_34 : decode b_Mo_reset 34 = .ok (.iload_n 1, 1) := by decide +kernel
theorem d_Mo_reset_35 : decode b_Mo_reset 35 = .ok (.ireturn, 1) := by decide +kernel
theorem d_Mo_listed_0 : decode b_Mo_listed 0 = .ok (.iconst 0, 1) := by decide +kernel
theorem d_Mo_listed_1 : decode b_Mo_listed 1 = .ok (.istore_n 1, 1) := by decide +kernel
theorem d_Mo_listed_2 : decode b_Mo_listed 2 = .ok (.aload_n 0, 1) := by decide +kernel
theorem d_Mo_listed_3 : decode b_Mo_listed 3 = .ok (.getfield 25, 3) := by decide +kernel
theorem d_Mo_listed_6 : decode b_Mo_listed 6 = .ok (.iconst 1, 1) := by decide +kernel
theorem d_Mo_listed_7 : decode b_Mo_listed 7 = .ok (.iload_n 1, 1) := by decide +kernel
theorem d_Mo_listed_8 : decode b_Mo_listed 8 = .ok (.iadd, 1) := by decide +kernel
theorem d_Mo_listed_9 : decode b_Mo_listed 9 = .ok (.iaload, 1) := by decide +kernel
theorem d_Mo_listed_10 : decode b_Mo_listed 10 = .ok (.iconst 2, 1) := by decide +kernel
theorem d_Mo_listed_11 : decode b_Mo_listed 11 = .ok (.if_icmp .ne 9, 3) := by decide +kernel
theorem d_Mo_listed_14 : decode b_Mo_listed 14 = .ok (.iinc 1 1, 3) := by decide +kernel
theorem d_Mo_listed_17 : decode b_Mo_listed 17 = .ok (.goto (-15), 3) := by decide +kernel
theorem d_Mo_listed_20 : decode b_Mo_listed 20 = .ok (.iload_n 1, 1) := by decide +kernel
theorem d_Mo_listed_21 : decode b_Mo_listed 21 = .ok (.ireturn, 1) := by decide +kernel
theorem d_Mo_wide_0 : decode b_Mo_wide 0 = .ok (.aload_n 0, 1) := by decide +kernel
theorem d_Mo_wide_1 : decode b_Mo_wide 1 = .ok (.getfield 28, 3) := by decide +kernel
theorem d_Mo_wide_4 : decode b_Mo_wide 4 = .ok (.iconst 0, 1) := by decide +kernel
theorem d_Mo_wide_5 : decode b_Mo_wide 5 = .ok (.iaload, 1) := by decide +kernel
theorem d_Mo_wide_6 : decode b_Mo_wide 6 = .ok (.iconst 3, 1) := by decide +kernel
theorem d_Mo_wide_7 : decode b_Mo_wide 7 = .ok (.if_icmp .eq 5, 3) := by decide +kernel
theorem d_Mo_wide_10 : decode b_Mo_wide 10 = .ok (.iconst 0, 1) := by decide +kernel
theorem d_Mo_wide_11 : decode b_Mo_wide 11 = .ok (.ireturn, 1) := by decide +kernel
theorem d_Mo_wide_12 : decode b_Mo_wide 12 = .ok (.aload_n 0, 1) := by decide +kernel
theorem d_Mo_wide_13 : decode b_Mo_wide 13 = .ok (.invokevirtual 176, 3) := by decide +kernel
theorem d_Mo_wide_16 : decode b_Mo_wide 16 = .ok (.ifCond .eq 5, 3) := by decide +kernel
theorem d_Mo_wide_19 : decode b_Mo_wide 19 = .ok (.iconst 1, 1) := by decide +kernel
theorem d_Mo_wide_20 : decode b_Mo_wide 20 = .ok (.ireturn, 1) := by decide +kernel
theorem d_Mo_wide_21 : decode b_Mo_wide 21 = .ok (.aload_n 0, 1) := by decide +kernel
theorem d_Mo_wide_22 : decode b_Mo_wide 22 = .ok (.getfield 25, 3) := by decide +kernel
theorem d_Mo_wide_25 : decode b_Mo_wide 25 = .ok (.iconst 1, 1) := by decide +kernel
theorem d_Mo_wide_26 : decode b_Mo_wide 26 = .ok (.iaload, 1) := by decide +kernel
theorem d_Mo_wide_27 : decode b_Mo_wide 27 = .ok (.ifCond .ne 37, 3) := by decide +kernel
theorem d_Mo_wide_30 : decode b_Mo_wide 30 = .ok (.aload_n 0, 1) := by decide +kernel
theorem d_Mo_wide_31 : decode b_Mo_wide 31 = .ok (.getfield 7, 3) := by decide +kernel
theorem d_Mo_wide_34 : decode b_Mo_wide 34 = .ok (.aload_n 0, 1) := by decide +kernel
theorem d_Mo_wide_35 : decode b_Mo_wide 35 = .ok (.getfield 115, 3) := by decide +kernel
theorem d_Mo_wide_38 : decode b_Mo_wide 38 = .ok (.iaload, 1) := by decide +kernel
theorem d_Mo_wide_39 : decode b_Mo_wide 39 = .ok (.aload_n 0, 1) := by decide +kernel
theorem d_Mo_wide_40 : decode b_Mo_wide 40 = .ok (.getfield 118, 3) := by decide +kernel
theorem d_Mo_wide_43 : decode b_Mo_wide 43 = .ok (.iconst (-1), 1) := by decide +kernel
theorem d_Mo_wide_44 : decode b_Mo_wide 44 = .ok (.if_icmp .ne 7, 3) := by decide +kernel
theorem d_Mo_wide_47 : decode b_Mo_wide 47 = .ok (.iconst 0, 1) := by decide +kernel
theorem d_Mo_wide_48 : decode b_Mo_wide 48 = .ok (.goto 12, 3) := by decide +kernel
theorem d_Mo_wide_51 : decode b_Mo_wide 51 = .ok (.aload_n 0, 1) := by decide +kernel
theorem d_Mo_wide_52 : decode b_Mo_wide 52 = .ok (.getfield 7, 3) := by decide +kernel
theorem d_Mo_wide_55 : decode b_Mo_wide 55 = .ok (.aload_n 0, 1) := by decide +kernel
theorem d_Mo_wide_56 : decode b_Mo_wide 56 = .ok (.getfield 118, 3) := by decide +kernel
theorem d_Mo_wide_59 : decode b_Mo_wide 59 = .ok (.iaload, 1) := by decide +kernel
theorem d_Mo_wide_60 : decode b_Mo_wide 60 = .ok (.iadd, 1) := by decide +kernel
theorem d_Mo_wide_61 : decode b_Mo_wide 61 = .ok (.goto 7, 3) := by decide +kernel
theorem d_Mo_wide_64 : decode b_Mo_wide 64 = .ok (.aload_n 0, 1) := by decide +kernel
theorem d_Mo_wide_65 : decode b_Mo_wide 65 = .ok (.invokevirtual 197, 3) := by decide +kernel
theorem d_Mo_wide_68 : decode b_Mo_wide 68 = .ok (.ireturn, 1) := by decide +kernel
theorem d_Mo_width_0 : decode b_Mo_width 0 = .ok (.aload_n 0, 1) := by decide +kernel
theorem d_Mo_width_1 : decode b_Mo_width 1 = .ok (.aload_n 0, 1) := by decide +kernel
theorem d_Mo_width_2 : decode b_Mo_width 2 = .ok (.getfield 130, 3) := by decide +kernel
theorem d_Mo_width_5 : decode b_Mo_width 5 = .ok (.ifCond .eq 7, 3) := by decide +kernel
theorem d_Mo_width_8 : decode b_Mo_width 8 = .ok (.iconst 0, 1) := by decide +kernel
theorem d_Mo_width_9 : decode b_Mo_width 9 = .ok (.goto 4, 3) := by decide +kernel
theorem d_Mo_width_12 : decode b_Mo_width 12 = .ok (.iconst 1, 1) := by decide +kernel
theorem d_Mo_width_13 : decode b_Mo_width 13 = .ok (.putfield 31, 3) := by decide +kernel
theorem d_Mo_width_16 : decode b_Mo_width 16 = .ok (.aload_n 0, 1) := by decide +kernel
theorem d_Mo_width_17 : decode b_Mo_width 17 = .ok (.getfield 130, 3) := by decide +kernel
theorem d_Mo_width_20 : decode b_Mo_width 20 = .ok (.ifCond .eq 10, 3) := by decide +kernel
theorem d_Mo_width_23 : decode b_Mo_width 23 = .ok (.aload_n 0, 1) := by decide +kernel
theorem d_Mo_width_24 : decode b_Mo_width 24 = .ok (.invokevirtual 200, 3) := by decide +kernel
theorem d_Mo_width_27 : decode b_Mo_width 27 = .ok (.goto 4, 3) := by decide +kernel
theorem d_Mo_width_30 : decode b_Mo_width 30 = .ok (.iconst 0, 1) := by decide +kernel
theorem d_Mo_width_31 : decode b_Mo_width 31 = .ok (.ireturn, 1) := by decide +kernel
theorem d_Mo_column_0 : decode b_Mo_column 0 = .ok (.aload_n 0, 1) := by decide +kernel
theorem d_Mo_column_1 : decode b_Mo_column 1 = .ok (.getfield 130, 3) := by decide +kernel
theorem d_Mo_column_4 : decode b_Mo_column 4 = .ok (.ifCond .eq 10, 3) := by decide +kernel
theorem d_Mo_column_7 : decode b_Mo_column 7 = .ok (.aload_n 0, 1) := by decide +kernel
theorem d_Mo_column_8 : decode b_Mo_column 8 = .ok (.getfield 148, 3) := by decide +kernel
theorem d_Mo_column_11 : decode b_Mo_column 11 = .ok (.ifCond .ne 7, 3) := by decide +kernel
theorem d_Mo_column_14 : decode b_Mo_column 14 = .ok (.iconst 1, 1) := by decide +kernel
theorem d_Mo_column_15 : decode b_Mo_column 15 = .ok (.goto 4, 3) := by decide +kernel
theorem d_Mo_column_18 : decode b_Mo_column 18 = .ok (.iconst 0, 1) := by decide +kernel
theorem d_Mo_column_19 : decode b_Mo_column 19 = .ok (.istore_n 2, 1) := by decide +kernel
theorem d_Mo_column_20 : decode b_Mo_column 20 = .ok (.aload_n 0, 1) := by decide +kernel
theorem d_Mo_column_21 : decode b_Mo_column 21 = .ok (.iload_n 2, 1) := by decide +kernel
theorem d_Mo_column_22 : decode b_Mo_column 22 = .ok (.ifCond .eq 7, 3) := by decide +kernel
theorem d_Mo_column_25 : decode b_Mo_column 25 = .ok (.iconst 1, 1) := by decide +kernel
theorem d_Mo_column_26 : decode b_Mo_column 26 = .ok (.goto 20, 3) := by decide +kernel
theorem d_Mo_column_29 : decode b_Mo_column 29 = .ok (.iload_n 1, 1) := by decide +kernel
theorem d_Mo_column_30 : decode b_Mo_column 30 = .ok (.ifCond .lt 11, 3) := by decide +kernel
theorem d_Mo_column_33 : decode b_Mo_column 33 = .ok (.iload_n 1, 1) := by decide +kernel
theorem d_Mo_column_34 : decode b_Mo_column 34 = .ok (.aload_n 0, 1) := by decide +kernel
theorem d_Mo_column_35 : decode b_Mo_column 35 = .ok (.invokevirtual 200, 3) := by decide +kernel
theorem d_Mo_column_38 : decode b_Mo_column 38 = .ok (.if_icmp .lt 7, 3) := by decide +kernel
theorem d_Mo_column_41 : decode b_Mo_column 41 = .ok (.iconst 2, 1) := by decide +kernel
theorem d_Mo_column_42 : decode b_Mo_column 42 = .ok (.goto 4, 3) := by decide +kernel
theorem d_Mo_column_45 : decode b_Mo_column 45 = .ok (.iconst 0, 1) := by decide +kernel
theorem d_Mo_column_46 : decode b_Mo_column 46 = .ok (.putfield 31, 3) := by decide +kernel
theorem d_Mo_column_49 : decode b_Mo_column 49 = .ok (.aload_n 0, 1) := by decide +kernel
theorem d_Mo_column_50 : decode b_Mo_column 50 = .ok (.getfield 31, 3) := by decide +kernel
theorem d_Mo_column_53 : decode b_Mo_column 53 = .ok (.ifCond .le 5, 3) := by decide +kernel
theorem d_Mo_column_56 : decode b_Mo_column 56 = .ok (.lconst 0, 1) := by decide +kernel
theorem d_Mo_column_57 : decode b_Mo_column 57 = .ok (.lreturn, 1) := by decide +kernel
theorem d_Mo_column_58 : decode b_Mo_column 58 = .ok (.aload_n 0, 1) := by decide +kernel
theorem d_Mo_column_59 : decode b_Mo_column 59 = .ok (.invokevirtual 176, 3) := by decide +kernel
theorem d_Mo_column_62 : decode b_Mo_column 62 = .ok (.ifCond .eq 8, 3) := by decide +kernel
theorem d_Mo_column_65 : decode b_Mo_column 65 = .ok (.aload_n 0, 1) := by decide +kernel
theorem d_Mo_column_66 : decode b_Mo_column 66 = .ok (.getfield 172, 3) := by decide +kernel
theorem d_Mo_column_69 : decode b_Mo_column 69 = .ok (.lreturn, 1) := by decide +kernel
theorem d_Mo_column_70 : decode b_Mo_column 70 = .ok (.aload_n 0, 1) := by decide +kernel
theorem d_Mo_column_71 : decode b_Mo_column 71 = .ok (.getfield 25, 3) := by decide +kernel
theorem d_Mo_column_74 : decode b_Mo_column 74 = .ok (.iconst 1, 1) := by decide +kernel
theorem d_Mo_column_75 : decode b_Mo_column 75 = .ok (.iaload, 1) := by decide +kernel
theorem d_Mo_column_76 : decode b_Mo_column 76 = .ok (.iconst 2, 1) := by decide +kernel
theorem d_Mo_column_77 : decode b_Mo_column 77 = .ok (.if_icmp .ne 20, 3) := by decide +kernel
theorem d_Mo_column_80 : decode b_Mo_column 80 = .ok (.aload_n 0, 1) := by decide +kernel
theorem d_Mo_column_81 : decode b_Mo_column 81 = .ok (.iconst 1, 1) := by decide +kernel
theorem d_Mo_column_82 : decode b_Mo_column 82 = .ok (.iload_n 1, 1) := by decide +kernel
theorem d_Mo_column_83 : decode b_Mo_column 83 = .ok (.iadd, 1) := by decide +kernel
theorem d_Mo_column_84 : decode b_Mo_column 84 = .ok (.aload_n 0, 1) := by decide +kernel
theorem d_Mo_column_85 : decode b_Mo_column 85 = .ok (.getfield 142, 3) := by decide +kernel
theorem d_Mo_column_88 : decode b_Mo_column 88 = .ok (.aload_n 0, 1) := by decide +kernel
theorem d_Mo_column_89 : decode b_Mo_column 89 = .ok (.getfield 145, 3) := by decide +kernel
theorem d_Mo_column_92 : decode b_Mo_column 92 = .ok (.invokevirtual 155, 3) := by decide +kernel
theorem d_Mo_column_95 : decode b_Mo_column 95 = .ok (.i2l, 1) := by decide +kernel
theorem d_Mo_column_96 : decode b_Mo_column 96 = .ok (.lreturn, 1) := by decide +kernel
theorem d_Mo_column_97 : decode b_Mo_column 97 = .ok (.iload_n 1, 1) := by decide +kernel
theorem d_Mo_column_98 : decode b_Mo_column 98 = .ok (.aload_n 0, 1) := by decide +kernel
theorem d_Mo_column_99 : decode b_Mo_column 99 = .ok (.getfield 7, 3) := by decide +kernel
theorem d_Mo_column_102 : decode b_Mo_column 102 = .ok (.aload_n 0, 1) := by decide +kernel
theorem d_Mo_column_103 : decode b_Mo_column 103 = .ok (.getfield 115, 3) := by decide +kernel
theorem d_Mo_column_106 : decode b_Mo_column 106 = .ok (.iaload, 1) := by decide +kernel
theorem d_Mo_column_107 : decode b_Mo_column 107 = .ok (.if_icmp .ge 16, 3) := by decide +kernel
theorem d_Mo_column_110 : decode b_Mo_column 110 = .ok (.aload_n 0, 1) := by decide +kernel
theorem d_Mo_column_111 : decode b_Mo_column 111 = .ok (.aload_n 0, 1) := by decide +kernel
theorem d_Mo_column_112 : decode b_Mo_column 112 = .ok (.getfield 142, 3) := by decide +kernel
theorem d_Mo_column_115 : decode b_Mo_column 115 = .ok (.iload_n 1, 1) := by decide +kernel
theorem d_Mo_column_116 : decode b_Mo_column 116 = .ok (.invokevirtual 151, 3) := by decide +kernel
theorem d_Mo_column_119 : decode b_Mo_column 119 = .ok (.i2l, 1) := by decide +kernel
theorem d_Mo_column_120 : decode b_Mo_column 120 = .ok (.goto 23, 3) := by decide +kernel
theorem d_Mo_column_123 : decode b_Mo_column 123 = .ok (.aload_n 0, 1) := by decide +kernel
theorem d_Mo_column_124 : decode b_Mo_column 124 = .ok (.aload_n 0, 1) := by decide +kernel
theorem d_Mo_column_125 : decode b_Mo_column 125 = .ok (.getfield 145, 3) := by decide +kernel
theorem d_Mo_column_128 : decode b_Mo_column 128 = .ok (.iload_n 1, 1) := by decide +kernel
theorem d_Mo_column_129 : decode b_Mo_column 129 = .ok (.aload_n 0, 1) := by decide +kernel
theorem d_Mo_column_130 : decode b_Mo_column 130 = .ok (.getfield 7, 3) := by decide +kernel
theorem d_Mo_column_133 : decode b_Mo_column 133 = .ok (.aload_n 0, 1) := by decide +kernel
theorem d_Mo_column_134 : decode b_Mo_column 134 = .ok (.getfield 115, 3) := by decide +kernel
theorem d_Mo_column_137 : decode b_Mo_column 137 = .ok (.iaload, 1) := by decide +kernel
theorem d_Mo_column_138 : decode b_Mo_column 138 = .ok (.isub, 1) := by decide +kernel
theorem d_Mo_column_139 : decode b_Mo_column 139 = .ok (.invokevirtual 151, 3) := by decide +kernel
theorem d_Mo_column_142 : decode b_Mo_column 142 = .ok (.i2l, 1) := by decide +kernel
theorem d_Mo_column_143 : decode b_Mo_column 143 = .ok (.lreturn, 1) := by decide +kernel
theorem d_Mo_rows_0 : decode b_Mo_rows 0 = .ok (.aload_n 0, 1) := by decide +kernel
theorem d_Mo_rows_1 : decode b_Mo_rows 1 = .ok (.iload_n 1, 1) := by decide +kernel
theorem d_Mo_rows_2 : decode b_Mo_rows 2 = .ok (.i2l, 1) := by decide +kernel
theorem d_Mo_rows_3 : decode b_Mo_rows 3 = .ok (.lconst 0, 1) := by decide +kernel
theorem d_Mo_rows_4 : decode b_Mo_rows 4 = .ok (.ldc2_w 41, 3) := by decide +kernel
theorem d_Mo_rows_7 : decode b_Mo_rows 7 = .ok (.invokestatic 37, 3) := by decide +kernel
theorem d_Mo_rows_10 : decode b_Mo_rows 10 = .ok (.ifCond .eq 7, 3) := by decide +kernel
theorem d_Mo_rows_13 : decode b_Mo_rows 13 = .ok (.iconst 0, 1) := by decide +kernel
theorem d_Mo_rows_14 : decode b_Mo_rows 14 = .ok (.goto 4, 3) := by decide +kernel
theorem d_Mo_rows_17 : decode b_Mo_rows 17 = .ok (.iconst 1, 1) := by decide +kernel
theorem d_Mo_rows_18 : decode b_Mo_rows 18 = .ok (.putfield 31, 3) := by decide +kernel
theorem d_Mo_rows_21 : decode b_Mo_rows 21 = .ok (.aload_n 0, 1) := by decide +kernel
theorem d_Mo_rows_22 : decode b_Mo_rows 22 = .ok (.getfield 31, 3) := by decide +kernel
theorem d_Mo_rows_25 : decode b_Mo_rows 25 = .ok (.ifCond .le 5, 3) := by decide +kernel
theorem d_Mo_rows_28 : decode b_Mo_rows 28 = .ok (.iconst 0, 1) := by decide +kernel
theorem d_Mo_rows_29 : decode b_Mo_rows 29 = .ok (.ireturn, 1) := by decide +kernel
theorem d_Mo_rows_30 : decode b_Mo_rows 30 = .ok (.iconst 0, 1) := by decide +kernel
theorem d_Mo_rows_31 : decode b_Mo_rows 31 = .ok (.istore_n 2, 1) := by decide +kernel
theorem d_Mo_rows_32 : decode b_Mo_rows 32 = .ok (.iconst 0, 1) := by decide +kernel
theorem d_Mo_rows_33 : decode b_Mo_rows 33 = .ok (.istore_n 3, 1) := by decide +kernel
theorem d_Mo_rows_34 : decode b_Mo_rows 34 = .ok (.iload_n 3, 1) := by decide +kernel
theorem d_Mo_rows_35 : decode b_Mo_rows 35 = .ok (.aload_n 0, 1) := by decide +kernel
theorem d_Mo_rows_36 : decode b_Mo_rows 36 = .ok (.getfield 159, 3) := by decide +kernel
theorem d_Mo_rows_39 : decode b_Mo_rows 39 = .ok (.if_icmp .ge 27, 3) := by decide +kernel
theorem d_Mo_rows_42 : decode b_Mo_rows 42 = .ok (.iload_n 2, 1) := by decide +kernel
theorem d_Mo_rows_43 : decode b_Mo_rows 43 = .ok (.aload_n 0, 1) := by decide +kernel
theorem d_Mo_rows_44 : decode b_Mo_rows 44 = .ok (.getfield 13, 3) := by decide +kernel
theorem d_Mo_rows_47 : decode b_Mo_rows 47 = .ok (.iload_n 3, 1) := by decide +kernel
theorem d_Mo_rows_48 : decode b_Mo_rows 48 = .ok (.iaload, 1) := by decide +kernel
theorem d_Mo_rows_49 : decode b_Mo_rows 49 = .ok (.iload_n 1, 1) := by decide +kernel
theorem d_Mo_rows_50 : decode b_Mo_rows 50 = .ok (.if_icmp .ne 7, 3) := by decide +kernel
theorem d_Mo_rows_53 : decode b_Mo_rows 53 = .ok (.iconst 1, 1) := by decide +kernel
theorem d_Mo_rows_54 : decode b_Mo_rows 54 = .ok (.goto 4, 3) := by decide +kernel
theorem d_Mo_rows_57 : decode b_Mo_rows 57 = .ok (.iconst 0, 1) := by decide +kernel
theorem d_Mo_rows_58 : decode b_Mo_rows 58 = .ok (.iadd, 1) := by decide +kernel
theorem d_Mo_rows_59 : decode b_Mo_rows 59 = .ok (.istore_n 2, 1) := by decide +kernel
theorem d_Mo_rows_60 : decode b_Mo_rows 60 = .ok (.iinc 3 1, 3) := by decide +kernel
theorem d_Mo_rows_63 : decode b_Mo_rows 63 = .ok (.goto (-29), 3) := by decide +kernel
theorem d_Mo_rows_66 : decode b_Mo_rows 66 = .ok (.aload_n 0, 1) := by decide +kernel
theorem d_Mo_rows_67 : decode b_Mo_rows 67 = .ok (.iload_n 1, 1) := by decide +kernel
theorem d_Mo_rows_68 : decode b_Mo_rows 68 = .ok (.invokevirtual 101, 3) := by decide +kernel
theorem d_Mo_rows_71 : decode b_Mo_rows 71 = .ok (.ifCond .eq 7, 3) := by decide +kernel
theorem d_Mo_rows_74 : decode b_Mo_rows 74 = .ok (.iload_n 2, 1) := by decide +kernel
theorem d_Mo_rows_75 : decode b_Mo_rows 75 = .ok (.goto 4, 3) := by decide +kernel
theorem d_Mo_rows_78 : decode b_Mo_rows 78 = .ok (.iconst (-1), 1) := by decide +kernel
theorem d_Mo_rows_79 : decode b_Mo_rows 79 = .ok (.ireturn, 1) := by decide +kernel
theorem d_Mo_all_0 : decode b_Mo_all 0 = .ok (.aload_n 0, 1) := by decide +kernel
theorem d_Mo_all_1 : decode b_Mo_all 1 = .ok (.iconst 0, 1) := by decide +kernel
theorem d_Mo_all_2 : decode b_Mo_all 2 = .ok (.putfield 31, 3) := by decide +kernel
theorem d_Mo_all_5 : decode b_Mo_all 5 = .ok (.aload_n 0, 1) := by decide +kernel
theorem d_Mo_all_6 : decode b_Mo_all 6 = .ok (.getfield 159, 3) := by decide +kernel
theorem d_Mo_all_9 : decode b_Mo_all 9 = .ok (.ireturn, 1) := by decide +kernel
theorem d_Mo_nearest_0 : decode b_Mo_nearest 0 = .ok (.iload_n 1, 1) := by decide +kernel
theorem d_Mo_nearest_1 : decode b_Mo_nearest 1 = .ok (.i2l, 1) := by decide +kernel
theorem d_Mo_nearest_2 : decode b_Mo_nearest 2 = .ok (.lconst 0, 1) := by decide +kernel
theorem d_Mo_nearest_3 : decode b_Mo_nearest 3 = .ok (.ldc2_w 41, 3) := by decide +kernel
theorem d_Mo_nearest_6 : decode b_Mo_nearest 6 = .ok (.invokestatic 37, 3) := by decide +kernel
theorem d_Mo_nearest_9 : decode b_Mo_nearest 9 = .ok (.ifCond .eq 15, 3) := by decide +kernel
theorem d_Mo_nearest_12 : decode b_Mo_nearest 12 = .ok (.aload_n 0, 1) := by decide +kernel
theorem d_Mo_nearest_13 : decode b_Mo_nearest 13 = .ok (.iload_n 1, 1) := by decide +kernel
theorem d_Mo_nearest_14 : decode b_Mo_nearest 14 = .ok (.invokevirtual 101, 3) := by decide +kernel
theorem d_Mo_nearest_17 : decode b_Mo_nearest 17 = .ok (.ifCond .eq 7, 3) := by decide +kernel
theorem d_Mo_nearest_20 : decode b_Mo_nearest 20 = .ok (.iconst 1, 1) := by decide +kernel
theorem d_Mo_nearest_21 : decode b_Mo_nearest 21 = .ok (.goto 4, 3) := by decide +kernel
theorem d_Mo_nearest_24 : decode b_Mo_nearest 24 = .ok (.iconst 0, 1) := by decide +kernel
theorem d_Mo_nearest_25 : decode b_Mo_nearest 25 = .ok (.istore 4, 2) := by decide +kernel
theorem d_Mo_nearest_27 : decode b_Mo_nearest 27 = .ok (.iconst (-1), 1) := by decide +kernel
theorem d_Mo_nearest_28 : decode b_Mo_nearest 28 = .ok (.istore 5, 2) := by decide +kernel
theorem d_Mo_nearest_30 : decode b_Mo_nearest 30 = .ok (.iconst 0, 1) := by decide +kernel
theorem d_Mo_nearest_31 : decode b_Mo_nearest 31 = .ok (.istore 6, 2) := by decide +kernel
theorem d_Mo_nearest_33 : decode b_Mo_nearest 33 = .ok (.iload 6, 2) := by decide +kernel
theorem d_Mo_nearest_35 : decode b_Mo_nearest 35 = .ok (.aload_n 0, 1) := by decide +kernel
theorem d_Mo_nearest_36 : decode b_Mo_nearest 36 = .ok (.getfield 159, 3) := by decide +kernel
theorem d_Mo_nearest_39 : decode b_Mo_nearest 39 = .ok (.if_icmp .ge 99, 3) := by decide +kernel
theorem d_Mo_nearest_42 : decode b_Mo_nearest 42 = .ok (.iload 4, 2) := by decide +kernel
theorem d_Mo_nearest_44 : decode b_Mo_nearest 44 = .ok (.ifCond .eq 94, 3) := by decide +kernel
theorem d_Mo_nearest_47 : decode b_Mo_nearest 47 = .ok (.aload_n 0, 1) := by decide +kernel
theorem d_Mo_nearest_48 : decode b_Mo_nearest 48 = .ok (.iload 6, 2) := by decide +kernel
theorem d_Mo_nearest_50 : decode b_Mo_nearest 50 = .ok (.iconst 0, 1) := by decide +kernel
theorem d_Mo_nearest_51 : decode b_Mo_nearest 51 = .ok (.invokevirtual 151, 3) := by decide +kernel
theorem d_Mo_nearest_54 : decode b_Mo_nearest 54 = .ok (.istore 7, 2) := by decide +kernel
theorem d_Mo_nearest_56 : decode b_Mo_nearest 56 = .ok (.aload_n 0, 1) := by decide +kernel
theorem d_Mo_nearest_57 : decode b_Mo_nearest 57 = .ok (.getfield 13, 3) := by decide +kernel
theorem d_Mo_nearest_60 : decode b_Mo_nearest 60 = .ok (.iload 6, 2) := by decide +kernel
theorem d_Mo_nearest_62 : decode b_Mo_nearest 62 = .ok (.iaload, 1) := by decide +kernel
theorem d_Mo_nearest_63 : decode b_Mo_nearest 63 = .ok (.iload_n 1, 1) := by decide +kernel
theorem d_Mo_nearest_64 : decode b_Mo_nearest 64 = .ok (.if_icmp .ne 68, 3) := by decide +kernel
theorem d_Mo_nearest_67 : decode b_Mo_nearest 67 = .ok (.iload_n 3, 1) := by decide +kernel
theorem d_Mo_nearest_68 : decode b_Mo_nearest 68 = .ok (.ifCond .eq 12, 3) := by decide +kernel
theorem d_Mo_nearest_71 : decode b_Mo_nearest 71 = .ok (.iload 7, 2) := by decide +kernel
theorem d_Mo_nearest_73 : decode b_Mo_nearest 73 = .ok (.iload_n 2, 1) := by decide +kernel
theorem d_Mo_nearest_74 : decode b_Mo_nearest 74 = .ok (.if_icmp .lt 58, 3) := by decide +kernel
theorem d_Mo_nearest_77 : decode b_Mo_nearest 77 = .ok (.goto 9, 3) := by decide +kernel
theorem d_Mo_nearest_80 : decode b_Mo_nearest 80 = .ok (.iload 7, 2) := by decide +kernel
theorem d_Mo_nearest_82 : decode b_Mo_nearest 82 = .ok (.iload_n 2, 1) := by decide +kernel
theorem d_Mo_nearest_83 : decode b_Mo_nearest 83 = .ok (.if_icmp .gt 49, 3) := by decide +kernel
theorem d_Mo_nearest_86 : decode b_Mo_nearest 86 = .ok (.iload 5, 2) := by decide +kernel
theorem d_Mo_nearest_88 : decode b_Mo_nearest 88 = .ok (.iconst (-1), 1) := by decide +kernel
theorem d_Mo_nearest_89 : decode b_Mo_nearest 89 = .ok (.if_icmp .eq 34, 3) := by decide +kernel
theorem d_Mo_nearest_92 : decode b_Mo_nearest 92 = .ok (.iload_n 3, 1) := by decide +kernel
theorem d_Mo_nearest_93 : decode b_Mo_nearest 93 = .ok (.ifCond .eq 18, 3) := by decide +kernel
theorem d_Mo_nearest_96 : decode b_Mo_nearest 96 = .ok (.iload 7, 2) := by decide +kernel
theorem d_Mo_nearest_98 : decode b_Mo_nearest 98 = .ok (.aload_n 0, 1) := by decide +kernel
theorem d_Mo_nearest_99 : decode b_Mo_nearest 99 = .ok (.iload 5, 2) := by decide +kernel
theorem d_Mo_nearest_101 : decode b_Mo_nearest 101 = .ok (.iconst 0, 1) := by decide +kernel
theorem d_Mo_nearest_102 : decode b_Mo_nearest 102 = .ok (.invokevirtual 151, 3) := by decide +kernel
theorem d_Mo_nearest_105 : decode b_Mo_nearest 105 = .ok (.if_icmp .ge 23, 3) := by decide +kernel
theorem d_Mo_nearest_108 : decode b_Mo_nearest 108 = .ok (.goto 15, 3) := by decide +kernel
theorem d_Mo_nearest_111 : decode b_Mo_nearest 111 = .ok (.iload 7, 2) := by decide +kernel
theorem d_Mo_nearest_113 : decode b_Mo_nearest 113 = .ok (.aload_n 0, 1) := by decide +kernel
theorem d_Mo_nearest_114 : decode b_Mo_nearest 114 = .ok (.iload 5, 2) := by decide +kernel
theorem d_Mo_nearest_116 : decode b_Mo_nearest 116 = .ok (.iconst 0, 1) := by decide +kernel
theorem d_Mo_nearest_117 : decode b_Mo_nearest 117 = .ok (.invokevirtual 151, 3) := by decide +kernel
theorem d_Mo_nearest_120 : decode b_Mo_nearest 120 = .ok (.if_icmp .le 8, 3) := by decide +kernel
theorem d_Mo_nearest_123 : decode b_Mo_nearest 123 = .ok (.iload 6, 2) := by decide +kernel
theorem d_Mo_nearest_125 : decode b_Mo_nearest 125 = .ok (.goto 5, 3) := by decide +kernel
theorem d_Mo_nearest_128 : decode b_Mo_nearest 128 = .ok (.iload 5, 2) := by decide +kernel
theorem d_Mo_nearest_130 : decode b_Mo_nearest 130 = .ok (.istore 5, 2) := by decide +kernel
theorem d_Mo_nearest_132 : decode b_Mo_nearest 132 = .ok (.iinc 6 1, 3) := by decide +kernel
theorem d_Mo_nearest_135 : decode b_Mo_nearest 135 = .ok (.goto (-102), 3) := by decide +kernel
theorem d_Mo_nearest_138 : decode b_Mo_nearest 138 = .ok (.aload_n 0, 1) := by decide +kernel
theorem d_Mo_nearest_139 : decode b_Mo_nearest 139 = .ok (.iload 4, 2) := by decide +kernel
theorem d_Mo_nearest_141 : decode b_Mo_nearest 141 = .ok (.ifCond .ne 7, 3) := by decide +kernel
theorem d_Mo_nearest_144 : decode b_Mo_nearest 144 = .ok (.iconst 1, 1) := by decide +kernel
theorem d_Mo_nearest_145 : decode b_Mo_nearest 145 = .ok (.goto 14, 3) := by decide +kernel
theorem d_Mo_nearest_148 : decode b_Mo_nearest 148 = .ok (.iload 5, 2) := by decide +kernel
theorem d_Mo_nearest_150 : decode b_Mo_nearest 150 = .ok (.iconst (-1), 1) := by decide +kernel
theorem d_Mo_nearest_151 : decode b_Mo_nearest 151 = .ok (.if_icmp .ne 7, 3) := by decide +kernel
theorem d_Mo_nearest_154 : decode b_Mo_nearest 154 = .ok (.iconst 2, 1) := by decide +kernel
theorem d_Mo_nearest_155 : decode b_Mo_nearest 155 = .ok (.goto 4, 3) := by decide +kernel
theorem d_Mo_nearest_158 : decode b_Mo_nearest 158 = .ok (.iconst 0, 1) := by decide +kernel
theorem d_Mo_nearest_159 : decode b_Mo_nearest 159 = .ok (.putfield 31, 3) := by decide +kernel
theorem d_Mo_nearest_162 : decode b_Mo_nearest 162 = .ok (.aload_n 0, 1) := by decide +kernel
theorem d_Mo_nearest_163 : decode b_Mo_nearest 163 = .ok (.getfield 31, 3) := by decide +kernel
theorem d_Mo_nearest_166 : decode b_Mo_nearest 166 = .ok (.ifCond .le 7, 3) := by decide +kernel
theorem d_Mo_nearest_169 : decode b_Mo_nearest 169 = .ok (.iconst 0, 1) := by decide +kernel
theorem d_Mo_nearest_170 : decode b_Mo_nearest 170 = .ok (.goto 10, 3) := by decide +kernel
theorem d_Mo_nearest_173 : decode b_Mo_nearest 173 = .ok (.aload_n 0, 1) := by decide +kernel
theorem d_Mo_nearest_174 : decode b_Mo_nearest 174 = .ok (.iload 5, 2) := by decide +kernel
theorem d_Mo_nearest_176 : decode b_Mo_nearest 176 = .ok (.iconst 0, 1) := by decide +kernel
theorem d_Mo_nearest_177 : decode b_Mo_nearest 177 = .ok (.invokevirtual 151, 3) := by decide +kernel
theorem d_Mo_nearest_180 : decode b_Mo_nearest 180 = .ok (.ireturn, 1) := by decide +kernel
theorem d_Mo_clear_0 : decode b_Mo_clear 0 = .ok (.aload_n 0, 1) := by decide +kernel
theorem d_Mo_clear_1 : decode b_Mo_clear 1 = .ok (.iconst 0, 1) := by decide +kernel
theorem d_Mo_clear_2 : decode b_Mo_clear 2 = .ok (.putfield 31, 3) := by decide +kernel
theorem d_Mo_clear_5 : decode b_Mo_clear 5 = .ok (.aload_n 0, 1) := by decide +kernel
theorem d_Mo_clear_6 : decode b_Mo_clear 6 = .ok (.iconst 0, 1) := by decide +kernel
theorem d_Mo_clear_7 : decode b_Mo_clear 7 = .ok (.putfield 159, 3) := by decide +kernel
theorem d_Mo_clear_10 : decode b_Mo_clear 10 = .ok (.aload_n 0, 1) := by decide +kernel
theorem d_Mo_clear_11 : decode b_Mo_clear 11 = .ok (.iconst 0, 1) := by decide +kernel
theorem d_Mo_clear_12 : decode b_Mo_clear 12 = .ok (.putfield 49, 3) := by decide +kernel
theorem d_Mo_clear_15 : decode b_Mo_clear 15 = .ok (.aload_n 0, 1) := by decide +kernel
theorem d_Mo_clear_16 : decode b_Mo_clear 16 = .ok (.iconst 0, 1) := by decide +kernel
theorem d_Mo_clear_17 : decode b_Mo_clear 17 = .ok (.putfield 130, 3) := by decide +kernel
theorem d_Mo_clear_20 : decode b_Mo_clear 20 = .ok (.iconst 0, 1) := by decide +kernel
theorem d_Mo_clear_21 : decode b_Mo_clear 21 = .ok (.istore_n 1, 1) := by decide +kernel
theorem d_Mo_clear_22 : decode b_Mo_clear 22 = .ok (.iload_n 1, 1) := by decide +kernel
theorem d_Mo_clear_23 : decode b_Mo_clear 23 = .ok (.bipush 10, 2) := by decide +kernel
theorem d_Mo_clear_25 : decode b_Mo_clear 25 = .ok (.if_icmp .ge 16, 3) := by decide +kernel
theorem d_Mo_clear_28 : decode b_Mo_clear 28 = .ok (.aload_n 0, 1) := by decide +kernel
theorem d_Mo_clear_29 : decode b_Mo_clear 29 = .ok (.getfield 7, 3) := by decide +kernel
theorem d_Mo_clear_32 : decode b_Mo_clear 32 = .ok (.iload_n 1, 1) := by decide +kernel
theorem d_Mo_clear_33 : decode b_Mo_clear 33 = .ok (.iconst 0, 1) := by decide +kernel
theorem d_Mo_clear_34 : decode b_Mo_clear 34 = .ok (.iastore, 1) := by decide +kernel
theorem d_Mo_clear_35 : decode b_Mo_clear 35 = .ok (.iinc 1 1, 3) := by decide +kernel
theorem d_Mo_clear_38 : decode b_Mo_clear 38 = .ok (.goto (-16), 3) := by decide +kernel
theorem d_Mo_clear_41 : decode b_Mo_clear 41 = .ok (.aload_n 0, 1) := by decide +kernel
theorem d_Mo_clear_42 : decode b_Mo_clear 42 = .ok (.invokevirtual 133, 3) := by decide +kernel
theorem d_Mo_clear_45 : decode b_Mo_clear 45 = .ok (.return_, 1) := by decide +kernel
theorem d_Cn_init_0 : decode b_Cn_init 0 = .ok (.aload_n 0, 1) := by decide +kernel
theorem d_Cn_init_1 : decode b_Cn_init 1 = .ok (.invokespecial 3, 3) := by decide +kernel
theorem d_Cn_init_4 : decode b_Cn_init 4 = .ok (.aload_n 0, 1) := by decide +kernel
theorem d_Cn_init_5 : decode b_Cn_init 5 = .ok (.aload_n 1, 1) := by decide +kernel
theorem d_Cn_init_6 : decode b_Cn_init 6 = .ok (.putfield 9, 3) := by decide +kernel
theorem d_Cn_init_9 : decode b_Cn_init 9 = .ok (.aload_n 0, 1) := by decide +kernel
theorem d_Cn_init_10 : decode b_Cn_init 10 = .ok (.iload_n 2, 1) := by decide +kernel
theorem d_Cn_init_11 : decode b_Cn_init 11 = .ok (.putfield 15, 3) := by decide +kernel
theorem d_Cn_init_14 : decode b_Cn_init 14 = .ok (.aload_n 0, 1) := by decide +kernel
theorem d_Cn_init_15 : decode b_Cn_init 15 = .ok (.aload_n 3, 1) := by decide +kernel
theorem d_Cn_init_16 : decode b_Cn_init 16 = .ok (.putfield 19, 3) := by decide +kernel
theorem d_Cn_init_19 : decode b_Cn_init 19 = .ok (.return_, 1) := by decide +kernel
theorem d_Cn_isThere_0 : decode b_Cn_isThere 0 = .ok (.aload_n 0, 1) := by decide +kernel
theorem d_Cn_isThere_1 : decode b_Cn_isThere 1 = .ok (.getfield 9, 3) := by decide +kernel
theorem d_Cn_isThere_4 : decode b_Cn_isThere 4 = .ok (.iload_n 1, 1) := by decide +kernel
theorem d_Cn_isThere_5 : decode b_Cn_isThere 5 = .ok (.iload_n 2, 1) := by decide +kernel
theorem d_Cn_isThere_6 : decode b_Cn_isThere 6 = .ok (.invokevirtual 22, 3) := by decide +kernel
theorem d_Cn_isThere_9 : decode b_Cn_isThere 9 = .ok (.ifCond .eq 19, 3) := by decide +kernel
theorem d_Cn_isThere_12 : decode b_Cn_isThere 12 = .ok (.aload_n 0, 1) := by decide +kernel
theorem d_Cn_isThere_13 : decode b_Cn_isThere 13 = .ok (.getfield 19, 3) := by decide +kernel
theorem d_Cn_isThere_16 : decode b_Cn_isThere 16 = .ok (.iload_n 1, 1) := by decide +kernel
theorem d_Cn_isThere_17 : decode b_Cn_isThere 17 = .ok (.iload_n 2, 1) := by decide +kernel
theorem d_Cn_isThere_18 : decode b_Cn_isThere 18 = .ok (.invokevirtual 22, 3) := by decide +kernel
theorem d_Cn_isThere_21 : decode b_Cn_isThere 21 = .ok (.ifCond .eq 7, 3) := by decide +kernel
theorem d_Cn_isThere_24 : decode b_Cn_isThere 24 = .ok (.iconst 1, 1) := by decide +kernel
theorem d_Cn_isThere_25 : decode b_Cn_isThere 25 = .ok (.goto 4, 3) := by decide +kernel
theorem d_Cn_isThere_28 : decode b_Cn_isThere 28 = .ok (.iconst 0, 1) := by decide +kernel
theorem d_Cn_isThere_29 : decode b_Cn_isThere 29 = .ok (.ireturn, 1) := by decide +kernel
theorem d_Cn_holds_0 : decode b_Cn_holds 0 = .ok (.aload_n 0, 1) := by decide +kernel
theorem d_Cn_holds_1 : decode b_Cn_holds 1 = .ok (.getfield 9, 3) := by decide +kernel
theorem d_Cn_holds_4 : decode b_Cn_holds 4 = .ok (.aload_n 1, 1) := by decide +kernel
theorem d_Cn_holds_5 : decode b_Cn_holds 5 = .ok (.invokevirtual 28, 3) := by decide +kernel
theorem d_Cn_holds_8 : decode b_Cn_holds 8 = .ok (.istore_n 2, 1) := by decide +kernel
theorem d_Cn_holds_9 : decode b_Cn_holds 9 = .ok (.aload_n 0, 1) := by decide +kernel
theorem d_Cn_holds_10 : decode b_Cn_holds 10 = .ok (.getfield 19, 3) := by decide +kernel
theorem d_Cn_holds_13 : decode b_Cn_holds 13 = .ok (.aload_n 1, 1) := by decide +kernel
theorem d_Cn_holds_14 : decode b_Cn_holds 14 = .ok (.invokevirtual 28, 3) := by decide +kernel
theorem d_Cn_holds_17 : decode b_Cn_holds 17 = .ok (.istore_n 3, 1) := by decide +kernel
theorem d_Cn_holds_18 : decode b_Cn_holds 18 = .ok (.aload_n 0, 1) := by decide +kernel
theorem d_Cn_holds_19 : decode b_Cn_holds 19 = .ok (.getfield 15, 3) := by decide +kernel
theorem d_Cn_holds_22 : decode b_Cn_holds 22 = .ok (.lookupswitch 48 #[(10, 26), (11, 37)], 26) := by decide +kernel
theorem d_Cn_holds_48 : decode b_Cn_holds 48 = .ok (.iload_n 2, 1) := by decide +kernel
theorem d_Cn_holds_49 : decode b_Cn_holds 49 = .ok (.iload_n 3, 1) := by decide +kernel
theorem d_Cn_holds_50 : decode b_Cn_holds 50 = .ok (.if_icmp .ne 7, 3) := by decide +kernel
theorem d_Cn_holds_53 : decode b_Cn_holds 53 = .ok (.iconst 1, 1) := by decide +kernel
theorem d_Cn_holds_54 : decode b_Cn_holds 54 = .ok (.goto 4, 3) := by decide +kernel
theorem d_Cn_holds_57 : decode b_Cn_holds 57 = .ok (.iconst 0, 1) := by decide +kernel
theorem d_Cn_holds_58 : decode b_Cn_holds 58 = .ok (.ireturn, 1) := by decide +kernel
theorem d_Cn_holds_59 : decode b_Cn_holds 59 = .ok (.iload_n 2, 1) := by decide +kernel
theorem d_Cn_holds_60 : decode b_Cn_holds 60 = .ok (.iload_n 3, 1) := by decide +kernel
theorem d_Cn_holds_61 : decode b_Cn_holds 61 = .ok (.if_icmp .ge 7, 3) := by decide +kernel
theorem d_Cn_holds_64 : decode b_Cn_holds 64 = .ok (.iconst 1, 1) := by decide +kernel
theorem d_Cn_holds_65 : decode b_Cn_holds 65 = .ok (.goto 4, 3) := by decide +kernel
theorem d_Cn_holds_68 : decode b_Cn_holds 68 = .ok (.iconst 0, 1) := by decide +kernel
theorem d_Cn_holds_69 : decode b_Cn_holds 69 = .ok (.ireturn, 1) := by decide +kernel
theorem d_Cn_holds_70 : decode b_Cn_holds 70 = .ok (.iload_n 2, 1) := by decide +kernel
theorem d_Cn_holds_71 : decode b_Cn_holds 71 = .ok (.iload_n 3, 1) := by decide +kernel
theorem d_Cn_holds_72 : decode b_Cn_holds 72 = .ok (.if_icmp .le 7, 3) := by decide +kernel
theorem d_Cn_holds_75 : decode b_Cn_holds 75 = .ok (.iconst 1, 1) := by decide +kernel
theorem d_Cn_holds_76 : decode b_Cn_holds 76 = .ok (.goto 4, 3) := by decide +kernel
theorem d_Cn_holds_79 : decode b_Cn_holds 79 = .ok (.iconst 0, 1) := by decide +kernel
theorem d_Cn_holds_80 : decode b_Cn_holds 80 = .ok (.ireturn, 1) := by decide +kernel
end
section
theorem d_Op_init_0 : decode b_Op_init 0 = .ok (.aload_n 0, 1) := by decide +kernel
theorem d_Op_init_1 : decode b_Op_init 1 = .ok (.invokespecial 3, 3) := by decide +kernel
theorem d_Op_init_4 : decode b_Op_init 4 = .ok (.aload_n 0, 1) := by decide +kernel
theorem d_Op_init_5 : decode b_Op_init 5 = .ok (.iload_n 1, 1) := by decide +kernel
theorem d_Op_init_6 : decode b_Op_init 6 = .ok (.putfield 9, 3) := by decide +kernel
theorem d_Op_init_9 : decode b_Op_init 9 = .ok (.aload_n 0, 1) := by decide +kernel
theorem d_Op_init_10 : decode b_Op_init 10 = .ok (.iload_n 2, 1) := by decide +kernel
theorem d_Op_init_11 : decode b_Op_init 11 = .ok (.putfield 15, 3) := by decide +kernel
theorem d_Op_init_14 : decode b_Op_init 14 = .ok (.return_, 1) := by decide +kernel
theorem d_Op_isThere_0 : decode b_Op_isThere 0 = .ok (.aload_n 0, 1) := by decide +kernel
theorem d_Op_isThere_1 : decode b_Op_isThere 1 = .ok (.getfield 9, 3) := by decide +kernel
theorem d_Op_isThere_4 : decode b_Op_isThere 4 = .ok (.iconst 3, 1) := by decide +kernel
theorem d_Op_isThere_5 : decode b_Op_isThere 5 = .ok (.if_icmp .ne 5, 3) := by decide +kernel
theorem d_Op_isThere_8 : decode b_Op_isThere 8 = .ok (.iconst 1, 1) := by decide +kernel
theorem d_Op_isThere_9 : decode b_Op_isThere 9 = .ok (.ireturn, 1) := by decide +kernel
theorem d_Op_isThere_10 : decode b_Op_isThere 10 = .ok (.aload_n 0, 1) := by decide +kernel
theorem d_Op_isThere_11 : decode b_Op_isThere 11 = .ok (.getfield 15, 3) := by decide +kernel
theorem d_Op_isThere_14 : decode b_Op_isThere 14 = .ok (.bipush 10, 2) := by decide +kernel
theorem d_Op_isThere_16 : decode b_Op_isThere 16 = .ok (.if_icmp .ge 19, 3) := by decide +kernel
theorem d_Op_isThere_19 : decode b_Op_isThere 19 = .ok (.aload_n 0, 1) := by decide +kernel
theorem d_Op_isThere_20 : decode b_Op_isThere 20 = .ok (.getfield 15, 3) := by decide +kernel
theorem d_Op_isThere_23 : decode b_Op_isThere 23 = .ok (.iload_n 1, 1) := by decide +kernel
theorem d_Op_isThere_24 : decode b_Op_isThere 24 = .ok (.if_icmp .ge 7, 3) := by decide +kernel
theorem d_Op_isThere_27 : decode b_Op_isThere 27 = .ok (.iconst 1, 1) := by decide +kernel
theorem d_Op_isThere_28 : decode b_Op_isThere 28 = .ok (.goto 23, 3) := by decide +kernel
theorem d_Op_isThere_31 : decode b_Op_isThere 31 = .ok (.iconst 0, 1) := by decide +kernel
theorem d_Op_isThere_32 : decode b_Op_isThere 32 = .ok (.goto 19, 3) := by decide +kernel
theorem d_Op_isThere_35 : decode b_Op_isThere 35 = .ok (.aload_n 0, 1) := by decide +kernel
theorem d_Op_isThere_36 : decode b_Op_isThere 36 = .ok (.getfield 15, 3) := by decide +kernel
theorem d_Op_isThere_39 : decode b_Op_isThere 39 = .ok (.bipush 10, 2) := by decide +kernel
theorem d_Op_isThere_41 : decode b_Op_isThere 41 = .ok (.isub, 1) := by decide +kernel
theorem d_Op_isThere_42 : decode b_Op_isThere 42 = .ok (.iload_n 2, 1) := by decide +kernel
theorem d_Op_isThere_43 : decode b_Op_isThere 43 = .ok (.if_icmp .ge 7, 3) := by decide +kernel
theorem d_Op_isThere_46 : decode b_Op_isThere 46 = .ok (.iconst 1, 1) := by decide +kernel
theorem d_Op_isThere_47 : decode b_Op_isThere 47 = .ok (.goto 4, 3) := by decide +kernel
theorem d_Op_isThere_50 : decode b_Op_isThere 50 = .ok (.iconst 0, 1) := by decide +kernel
theorem d_Op_isThere_51 : decode b_Op_isThere 51 = .ok (.ireturn, 1) := by decide +kernel
theorem d_Op_value_0 : decode b_Op_value 0 = .ok (.aload_n 0, 1) := by decide +kernel
theorem d_Op_value_1 : decode b_Op_value 1 = .ok (.getfield 9, 3) := by decide +kernel
theorem d_Op_value_4 : decode b_Op_value 4 = .ok (.iconst 3, 1) := by decide +kernel
theorem d_Op_value_5 : decode b_Op_value 5 = .ok (.if_icmp .ne 10, 3) := by decide +kernel
theorem d_Op_value_8 : decode b_Op_value 8 = .ok (.aload_n 0, 1) := by decide +kernel
theorem d_Op_value_9 : decode b_Op_value 9 = .ok (.getfield 15, 3) := by decide +kernel
theorem d_Op_value_12 : decode b_Op_value 12 = .ok (.goto 9, 3) := by decide +kernel
theorem d_Op_value_15 : decode b_Op_value 15 = .ok (.aload_n 1, 1) := by decide +kernel
theorem d_Op_value_16 : decode b_Op_value 16 = .ok (.aload_n 0, 1) := by decide +kernel
theorem d_Op_value_17 : decode b_Op_value 17 = .ok (.getfield 15, 3) := by decide +kernel
theorem d_Op_value_20 : decode b_Op_value 20 = .ok (.iaload, 1) := by decide +kernel
theorem d_Op_value_21 : decode b_Op_value 21 = .ok (.ireturn, 1) := by decide +kernel
theorem d_Pa_init_0 : decode b_Pa_init 0 = .ok (.aload_n 0, 1) := by decide +kernel
theorem d_Pa_init_1 : decode b_Pa_init 1 = .ok (.invokespecial 3, 3) := by decide +kernel
theorem d_Pa_init_4 : decode b_Pa_init 4 = .ok (.aload_n 0, 1) := by decide +kernel
theorem d_Pa_init_5 : decode b_Pa_init 5 = .ok (.new 9, 3) := by decide +kernel
theorem d_Pa_init_8 : decode b_Pa_init 8 = .ok (.dup, 1) := by decide +kernel
theorem d_Pa_init_9 : decode b_Pa_init 9 = .ok (.invokespecial 11, 3) := by decide +kernel
theorem d_Pa_init_12 : decode b_Pa_init 12 = .ok (.putfield 12, 3) := by decide +kernel
theorem d_Pa_init_15 : decode b_Pa_init 15 = .ok (.aload_n 0, 1) := by decide +kernel
theorem d_Pa_init_16 : decode b_Pa_init 16 = .ok (.aload_n 1, 1) := by decide +kernel
theorem d_Pa_init_17 : decode b_Pa_init 17 = .ok (.putfield 18, 3) := by decide +kernel
theorem d_Pa_init_20 : decode b_Pa_init 20 = .ok (.return_, 1) := by decide +kernel
theorem d_Pa_parse_0 : decode b_Pa_parse 0 = .ok (.aload_n 0, 1) := by decide +kernel
theorem d_Pa_parse_1 : decode b_Pa_parse 1 = .ok (.getfield 12, 3) := by decide +kernel
theorem d_Pa_parse_4 : decode b_Pa_parse 4 = .ok (.aload_n 0, 1) := by decide +kernel
theorem d_Pa_parse_5 : decode b_Pa_parse 5 = .ok (.iconst 0, 1) := by decide +kernel
theorem d_Pa_parse_6 : decode b_Pa_parse 6 = .ok (.iconst 3, 1) := by decide +kernel
theorem d_Pa_parse_7 : decode b_Pa_parse 7 = .ok (.invokevirtual 22, 3) := by decide +kernel
theorem d_Pa_parse_10 : decode b_Pa_parse 10 = .ok (.putfield 26, 3) := by decide +kernel
theorem d_Pa_parse_13 : decode b_Pa_parse 13 = .ok (.iconst 0, 1) := by decide +kernel
theorem d_Pa_parse_14 : decode b_Pa_parse 14 = .ok (.istore_n 1, 1) := by decide +kernel
theorem d_Pa_parse_15 : decode b_Pa_parse 15 = .ok (.aload_n 0, 1) := by decide +kernel
theorem d_Pa_parse_16 : decode b_Pa_parse 16 = .ok (.getfield 12, 3) := by decide +kernel
theorem d_Pa_parse_19 : decode b_Pa_parse 19 = .ok (.getfield 26, 3) := by decide +kernel
theorem d_Pa_parse_22 : decode b_Pa_parse 22 = .ok (.tableswitch 136 0 3 #[30, 53, 76, 99], 30) := by decide +kernel
theorem d_Pa_parse_52 : decode b_Pa_parse 52 = .ok (.aload_n 0, 1) := by decide +kernel
theorem d_Pa_parse_53 : decode b_Pa_parse 53 = .ok (.invokevirtual 30, 3) := by decide +kernel
theorem d_Pa_parse_56 : decode b_Pa_parse 56 = .ok (.ifCond .eq 14, 3) := by decide +kernel
theorem d_Pa_parse_59 : decode b_Pa_parse 59 = .ok (.aload_n 0, 1) := by decide +kernel
theorem d_Pa_parse_60 : decode b_Pa_parse 60 = .ok (.invokevirtual 34, 3) := by decide +kernel
theorem d_Pa_parse_63 : decode b_Pa_parse 63 = .ok (.ifCond .eq 7, 3) := by decide +kernel
theorem d_Pa_parse_66 : decode b_Pa_parse 66 = .ok (.iconst 1, 1) := by decide +kernel
theorem d_Pa_parse_67 : decode b_Pa_parse 67 = .ok (.goto 4, 3) := by decide +kernel
theorem d_Pa_parse_70 : decode b_Pa_parse 70 = .ok (.iconst 0, 1) := by decide +kernel
theorem d_Pa_parse_71 : decode b_Pa_parse 71 = .ok (.istore_n 1, 1) := by decide +kernel
theorem d_Pa_parse_72 : decode b_Pa_parse 72 = .ok (.goto 86, 3) := by decide +kernel
theorem d_Pa_parse_75 : decode b_Pa_parse 75 = .ok (.aload_n 0, 1) := by decide +kernel
theorem d_Pa_parse_76 : decode b_Pa_parse 76 = .ok (.invokevirtual 30, 3) := by decide +kernel
theorem d_Pa_parse_79 : decode b_Pa_parse 79 = .ok (.ifCond .eq 14, 3) := by decide +kernel
theorem d_Pa_parse_82 : decode b_Pa_parse 82 = .ok (.aload_n 0, 1) := by decide +kernel
theorem d_Pa_parse_83 : decode b_Pa_parse 83 = .ok (.invokevirtual 37, 3) := by decide +kernel
theorem d_Pa_parse_86 : decode b_Pa_parse 86 = .ok (.ifCond .eq 7, 3) := by decide +kernel
theorem d_Pa_parse_89 : decode b_Pa_parse 89 = .ok (.iconst 1, 1) := by decide +kernel
theorem d_Pa_parse_90 : decode b_Pa_parse 90 = .ok (.goto 4, 3) := by decide +kernel
theorem d_Pa_parse_93 : decode b_Pa_parse 93 = .ok (.iconst 0, 1) := by decide +kernel
theorem d_Pa_parse_94 : decode b_Pa_parse 94 = .ok (.istore_n 1, 1) := by decide +kernel
theorem d_Pa_parse_95 : decode b_Pa_parse 95 = .ok (.goto 63, 3) := by decide +kernel
theorem d_Pa_parse_98 : decode b_Pa_parse 98 = .ok (.aload_n 0, 1) := by decide +kernel
theorem d_Pa_parse_99 : decode b_Pa_parse 99 = .ok (.invokevirtual 30, 3) := by decide +kernel
theorem d_Pa_parse_102 : decode b_Pa_parse 102 = .ok (.ifCond .eq 14, 3) := by decide +kernel
theorem d_Pa_parse_105 : decode b_Pa_parse 105 = .ok (.aload_n 0, 1) := by decide +kernel
theorem d_Pa_parse_106 : decode b_Pa_parse 106 = .ok (.invokevirtual 40, 3) := by decide +kernel
theorem d_Pa_parse_109 : decode b_Pa_parse 109 = .ok (.ifCond .eq 7, 3) := by decide +kernel
theorem d_Pa_parse_112 : decode b_Pa_parse 112 = .ok (.iconst 1, 1) := by decide +kernel
theorem d_Pa_parse_113 : decode b_Pa_parse 113 = .ok (.goto 4, 3) := by decide +kernel
theorem d_Pa_parse_116 : decode b_Pa_parse 116 = .ok (.iconst 0, 1) := by decide +kernel
theorem d_Pa_parse_117 : decode b_Pa_parse 117 = .ok (.istore_n 1, 1) := by decide +kernel
theorem d_Pa_parse_118 : decode b_Pa_parse 118 = .ok (.goto 40, 3) := by decide +kernel
theorem d_Pa_parse_121 : decode b_Pa_parse 121 = .ok (.aload_n 0, 1) := by decide +kernel
theorem d_Pa_parse_122 : decode b_Pa_parse 122 = .ok (.invokevirtual 43, 3) := by decide +kernel
theorem d_Pa_parse_125 : decode b_Pa_parse 125 = .ok (.ifCond .eq 28, 3) := by decide +kernel
theorem d_Pa_parse_128 : decode b_Pa_parse 128 = .ok (.aload_n 0, 1) := by decide +kernel
theorem d_Pa_parse_129 : decode b_Pa_parse 129 = .ok (.invokevirtual 46, 3) := by decide +kernel
theorem d_Pa_parse_132 : decode b_Pa_parse 132 = .ok (.ifCond .eq 21, 3) := by decide +kernel
theorem d_Pa_parse_135 : decode b_Pa_parse 135 = .ok (.aload_n 0, 1) := by decide +kernel
theorem d_Pa_parse_136 : decode b_Pa_parse 136 = .ok (.invokevirtual 40, 3) := by decide +kernel
theorem d_Pa_parse_139 : decode b_Pa_parse 139 = .ok (.ifCond .eq 14, 3) := by decide +kernel
theorem d_Pa_parse_142 : decode b_Pa_parse 142 = .ok (.aload_n 0, 1) := by decide +kernel
theorem d_Pa_parse_143 : decode b_Pa_parse 143 = .ok (.invokevirtual 49, 3) := by decide +kernel
theorem d_Pa_parse_146 : decode b_Pa_parse 146 = .ok (.ifCond .eq 7, 3) := by decide +kernel
theorem d_Pa_parse_149 : decode b_Pa_parse 149 = .ok (.iconst 1, 1) := by decide +kernel
theorem d_Pa_parse_150 : decode b_Pa_parse 150 = .ok (.goto 4, 3) := by decide +kernel
theorem d_Pa_parse_153 : decode b_Pa_parse 153 = .ok (.iconst 0, 1) := by decide +kernel
theorem d_Pa_parse_154 : decode b_Pa_parse 154 = .ok (.istore_n 1, 1) := by decide +kernel
theorem d_Pa_parse_155 : decode b_Pa_parse 155 = .ok (.goto 3, 3) := by decide +kernel
theorem d_Pa_parse_158 : decode b_Pa_parse 158 = .ok (.iload_n 1, 1) := by decide +kernel
theorem d_Pa_parse_159 : decode b_Pa_parse 159 = .ok (.ifCond .eq 24, 3) := by decide +kernel
theorem d_Pa_parse_162 : decode b_Pa_parse 162 = .ok (.aload_n 0, 1) := by decide +kernel
theorem d_Pa_parse_163 : decode b_Pa_parse 163 = .ok (.getfield 52, 3) := by decide +kernel
theorem d_Pa_parse_166 : decode b_Pa_parse 166 = .ok (.aload_n 0, 1) := by decide +kernel
theorem d_Pa_parse_167 : decode b_Pa_parse 167 = .ok (.getfield 18, 3) := by decide +kernel
theorem d_Pa_parse_170 : decode b_Pa_parse 170 = .ok (.getfield 55, 3) := by decide +kernel
theorem d_Pa_parse_173 : decode b_Pa_parse 173 = .ok (.if_icmp .ne 10, 3) := by decide +kernel
theorem d_Pa_parse_176 : decode b_Pa_parse 176 = .ok (.aload_n 0, 1) := by decide +kernel
theorem d_Pa_parse_177 : decode b_Pa_parse 177 = .ok (.getfield 12, 3) := by decide +kernel
theorem d_Pa_parse_180 : decode b_Pa_parse 180 = .ok (.goto 4, 3) := by decide +kernel
theorem d_Pa_parse_183 : decode b_Pa_parse 183 = .ok (.aconst_null, 1) := by decide +kernel
theorem d_Pa_parse_184 : decode b_Pa_parse 184 = .ok (.areturn, 1) := by decide +kernel
theorem d_Pa_takeFrom_0 : decode b_Pa_takeFrom 0 = .ok (.aload_n 0, 1) := by decide +kernel
theorem d_Pa_takeFrom_1 : decode b_Pa_takeFrom 1 = .ok (.bipush 7, 2) := by decide +kernel
theorem d_Pa_takeFrom_3 : decode b_Pa_takeFrom 3 = .ok (.invokevirtual 60, 3) := by decide +kernel
theorem d_Pa_takeFrom_6 : decode b_Pa_takeFrom 6 = .ok (.ifCond .eq 10, 3) := by decide +kernel
theorem d_Pa_takeFrom_9 : decode b_Pa_takeFrom 9 = .ok (.aload_n 0, 1) := by decide +kernel
theorem d_Pa_takeFrom_10 : decode b_Pa_takeFrom 10 = .ok (.invokevirtual 30, 3) := by decide +kernel
theorem d_Pa_takeFrom_13 : decode b_Pa_takeFrom 13 = .ok (.ifCond .ne 5, 3) := by decide +kernel
theorem d_Pa_takeFrom_16 : decode b_Pa_takeFrom 16 = .ok (.iconst 0, 1) := by decide +kernel
theorem d_Pa_takeFrom_17 : decode b_Pa_takeFrom 17 = .ok (.ireturn, 1) := by decide +kernel
theorem d_Pa_takeFrom_18 : decode b_Pa_takeFrom 18 = .ok (.aload_n 0, 1) := by decide +kernel
theorem d_Pa_takeFrom_19 : decode b_Pa_takeFrom 19 = .ok (.getfield 12, 3) := by decide +kernel
theorem d_Pa_takeFrom_22 : decode b_Pa_takeFrom 22 = .ok (.aload_n 0, 1) := by decide +kernel
theorem d_Pa_takeFrom_23 : decode b_Pa_takeFrom 23 = .ok (.invokevirtual 64, 3) := by decide +kernel
theorem d_Pa_takeFrom_26 : decode b_Pa_takeFrom 26 = .ok (.putfield 68, 3) := by decide +kernel
theorem d_Pa_takeFrom_29 : decode b_Pa_takeFrom 29 = .ok (.iconst 1, 1) := by decide +kernel
theorem d_Pa_takeFrom_30 : decode b_Pa_takeFrom 30 = .ok (.ireturn, 1) := by decide +kernel
theorem d_Pa_takeOrder_0 : decode b_Pa_takeOrder 0 = .ok (.aload_n 0, 1) := by decide +kernel
theorem d_Pa_takeOrder_1 : decode b_Pa_takeOrder 1 = .ok (.getfield 12, 3) := by decide +kernel
theorem d_Pa_takeOrder_4 : decode b_Pa_takeOrder 4 = .ok (.aload_n 0, 1) := by decide +kernel
theorem d_Pa_takeOrder_5 : decode b_Pa_takeOrder 5 = .ok (.bipush 13, 2) := by decide +kernel
theorem d_Pa_takeOrder_7 : decode b_Pa_takeOrder 7 = .ok (.invokevirtual 60, 3) := by decide +kernel
theorem d_Pa_takeOrder_10 : decode b_Pa_takeOrder 10 = .ok (.putfield 71, 3) := by decide +kernel
theorem d_Pa_takeOrder_13 : decode b_Pa_takeOrder 13 = .ok (.iconst 1, 1) := by decide +kernel
theorem d_Pa_takeOrder_14 : decode b_Pa_takeOrder 14 = .ok (.ireturn, 1) := by decide +kernel
theorem d_Pa_takeWord_0 : decode b_Pa_takeWord 0 = .ok (.aload_n 0, 1) := by decide +kernel
theorem d_Pa_takeWord_1 : decode b_Pa_takeWord 1 = .ok (.iload_n 1, 1) := by decide +kernel
theorem d_Pa_takeWord_2 : decode b_Pa_takeWord 2 = .ok (.iload_n 1, 1) := by decide +kernel
theorem d_Pa_takeWord_3 : decode b_Pa_takeWord 3 = .ok (.invokevirtual 22, 3) := by decide +kernel
theorem d_Pa_takeWord_6 : decode b_Pa_takeWord 6 = .ok (.iload_n 1, 1) := by decide +kernel
theorem d_Pa_takeWord_7 : decode b_Pa_takeWord 7 = .ok (.if_icmp .ne 7, 3) := by decide +kernel
theorem d_Pa_takeWord_10 : decode b_Pa_takeWord 10 = .ok (.iconst 1, 1) := by decide +kernel
theorem d_Pa_takeWord_11 : decode b_Pa_takeWord 11 = .ok (.goto 4, 3) := by decide +kernel
theorem d_Pa_takeWord_14 : decode b_Pa_takeWord 14 = .ok (.iconst 0, 1) := by decide +kernel
theorem d_Pa_takeWord_15 : decode b_Pa_takeWord 15 = .ok (.ireturn, 1) := by decide +kernel
theorem d_Pa_takeWordBetween_0 : decode b_Pa_takeWordBetween 0 = .ok (.aload_n 0, 1) := by decide +kernel
theorem d_Pa_takeWordBetween_1 : decode b_Pa_takeWordBetween 1 = .ok (.getfield 18, 3) := by decide +kernel
theorem d_Pa_takeWordBetween_4 : decode b_Pa_takeWordBetween 4 = .ok (.aload_n 0, 1) := by decide +kernel
theorem d_Pa_takeWordBetween_5 : decode b_Pa_takeWordBetween 5 = .ok (.getfield 52, 3) := by decide +kernel
theorem d_Pa_takeWordBetween_8 : decode b_Pa_takeWordBetween 8 = .ok (.iconst 0, 1) := by decide +kernel
theorem d_Pa_takeWordBetween_9 : decode b_Pa_takeWordBetween 9 = .ok (.invokevirtual 75, 3) := by decide +kernel
theorem d_Pa_takeWordBetween_12 : decode b_Pa_takeWordBetween 12 = .ok (.ifCond .eq 35, 3) := by decide +kernel
theorem d_Pa_takeWordBetween_15 : decode b_Pa_takeWordBetween 15 = .ok (.aload_n 0, 1) := by decide +kernel
theorem d_Pa_takeWordBetween_16 : decode b_Pa_takeWordBetween 16 = .ok (.getfield 18, 3) := by decide +kernel
theorem d_Pa_takeWordBetween_19 : decode b_Pa_takeWordBetween 19 = .ok (.getfield 79, 3) := by decide +kernel
theorem d_Pa_takeWordBetween_22 : decode b_Pa_takeWordBetween 22 = .ok (.aload_n 0, 1) := by decide +kernel
theorem d_Pa_takeWordBetween_23 : decode b_Pa_takeWordBetween 23 = .ok (.getfield 52, 3) := by decide +kernel
theorem d_Pa_takeWordBetween_26 : decode b_Pa_takeWordBetween 26 = .ok (.iaload, 1) := by decide +kernel
theorem d_Pa_takeWordBetween_27 : decode b_Pa_takeWordBetween 27 = .ok (.iload_n 1, 1) := by decide +kernel
theorem d_Pa_takeWordBetween_28 : decode b_Pa_takeWordBetween 28 = .ok (.if_icmp .lt 19, 3) := by decide +kernel
theorem d_Pa_takeWordBetween_31 : decode b_Pa_takeWordBetween 31 = .ok (.aload_n 0, 1) := by decide +kernel
theorem d_Pa_takeWordBetween_32 : decode b_Pa_takeWordBetween 32 = .ok (.getfield 18, 3) := by decide +kernel
theorem d_Pa_takeWordBetween_35 : decode b_Pa_takeWordBetween 35 = .ok (.getfield 79, 3) := by decide +kernel
theorem d_Pa_takeWordBetween_38 : decode b_Pa_takeWordBetween 38 = .ok (.aload_n 0, 1) := by decide +kernel
theorem d_Pa_takeWordBetween_39 : decode b_Pa_takeWordBetween 39 = .ok (.getfield 52, 3) := by decide +kernel
theorem d_Pa_takeWordBetween_42 : decode b_Pa_takeWordBetween 42 = .ok (.iaload, 1) := by decide +kernel
theorem d_Pa_takeWordBetween_43 : decode b_Pa_takeWordBetween 43 = .ok (.iload_n 2, 1) := by decide +kernel
theorem d_Pa_takeWordBetween_44 : decode b_Pa_takeWordBetween 44 = .ok (.if_icmp .le 5, 3) := by decide +kernel
theorem d_Pa_takeWordBetween_47 : decode b_Pa_takeWordBetween 47 = .ok (.iconst (-1), 1) := by decide +kernel
theorem d_Pa_takeWordBetween_48 : decode b_Pa_takeWordBetween 48 = .ok (.ireturn, 1) := by decide +kernel
theorem d_Pa_takeWordBetween_49 : decode b_Pa_takeWordBetween 49 = .ok (.aload_n 0, 1) := by decide +kernel
theorem d_Pa_takeWordBetween_50 : decode b_Pa_takeWordBetween 50 = .ok (.dup, 1) := by decide +kernel
theorem d_Pa_takeWordBetween_51 : decode b_Pa_takeWordBetween 51 = .ok (.getfield 52, 3) := by decide +kernel
theorem d_Pa_takeWordBetween_54 : decode b_Pa_takeWordBetween 54 = .ok (.iconst 1, 1) := by decide +kernel
theorem d_Pa_takeWordBetween_55 : decode b_Pa_takeWordBetween 55 = .ok (.iadd, 1) := by decide +kernel
theorem d_Pa_takeWordBetween_56 : decode b_Pa_takeWordBetween 56 = .ok (.putfield 52, 3) := by decide +kernel
theorem d_Pa_takeWordBetween_59 : decode b_Pa_takeWordBetween 59 = .ok (.aload_n 0, 1) := by decide +kernel
theorem d_Pa_takeWordBetween_60 : decode b_Pa_takeWordBetween 60 = .ok (.getfield 18, 3) := by decide +kernel
theorem d_Pa_takeWordBetween_63 : decode b_Pa_takeWordBetween 63 = .ok (.getfield 79, 3) := by decide +kernel
theorem d_Pa_takeWordBetween_66 : decode b_Pa_takeWordBetween 66 = .ok (.aload_n 0, 1) := by decide +kernel
theorem d_Pa_takeWordBetween_67 : decode b_Pa_takeWordBetween 67 = .ok (.getfield 52, 3) := by decide +kernel
theorem d_Pa_takeWordBetween_70 : decode b_Pa_takeWordBetween 70 = .ok (.iconst 1, 1) := by decide +kernel
theorem d_Pa_takeWordBetween_71 : decode b_Pa_takeWordBetween 71 = .ok (.isub, 1) := by decide +kernel
theorem d_Pa_takeWordBetween_72 : decode b_Pa_takeWordBetween 72 = .ok (.iaload, 1) := by decide +kernel
theorem d_Pa_takeWordBetween_73 : decode b_Pa_takeWordBetween 73 = .ok (.ireturn, 1) := by decide +kernel
theorem d_Pa_takeTable_0 : decode b_Pa_takeTable 0 = .ok (.aload_n 0, 1) := by decide +kernel
theorem d_Pa_takeTable_1 : decode b_Pa_takeTable 1 = .ok (.getfield 18, 3) := by decide +kernel
theorem d_Pa_takeTable_4 : decode b_Pa_takeTable 4 = .ok (.aload_n 0, 1) := by decide +kernel
theorem d_Pa_takeTable_5 : decode b_Pa_takeTable 5 = .ok (.getfield 52, 3) := by decide +kernel
theorem d_Pa_takeTable_8 : decode b_Pa_takeTable 8 = .ok (.iconst 1, 1) := by decide +kernel
theorem d_Pa_takeTable_9 : decode b_Pa_takeTable 9 = .ok (.invokevirtual 75, 3) := by decide +kernel
theorem d_Pa_takeTable_12 : decode b_Pa_takeTable 12 = .ok (.ifCond .ne 5, 3) := by decide +kernel
theorem d_Pa_takeTable_15 : decode b_Pa_takeTable 15 = .ok (.iconst (-1), 1) := by decide +kernel
theorem d_Pa_takeTable_16 : decode b_Pa_takeTable 16 = .ok (.ireturn, 1) := by decide +kernel
theorem d_Pa_takeTable_17 : decode b_Pa_takeTable 17 = .ok (.aload_n 0, 1) := by decide +kernel
theorem d_Pa_takeTable_18 : decode b_Pa_takeTable 18 = .ok (.dup, 1) := by decide +kernel
theorem d_Pa_takeTable_19 : decode b_Pa_takeTable 19 = .ok (.getfield 52, 3) := by decide +kernel
theorem d_Pa_takeTable_22 : decode b_Pa_takeTable 22 = .ok (.iconst 1, 1) := by decide +kernel
theorem d_Pa_takeTable_23 : decode b_Pa_takeTable 23 = .ok (.iadd, 1) := by decide +kernel
theorem d_Pa_takeTable_24 : decode b_Pa_takeTable 24 = .ok (.putfield 52, 3) := by decide +kernel
theorem d_Pa_takeTable_27 : decode b_Pa_takeTable 27 = .ok (.aload_n 0, 1) := by decide +kernel
theorem d_Pa_takeTable_28 : decode b_Pa_takeTable 28 = .ok (.getfield 18, 3) := by decide +kernel
theorem d_Pa_takeTable_31 : decode b_Pa_takeTable 31 = .ok (.getfield 79, 3) := by decide +kernel
theorem d_Pa_takeTable_34 : decode b_Pa_takeTable 34 = .ok (.aload_n 0, 1) := by decide +kernel
theorem d_Pa_takeTable_35 : decode b_Pa_takeTable 35 = .ok (.getfield 52, 3) := by decide +kernel
theorem d_Pa_takeTable_38 : decode b_Pa_takeTable 38 = .ok (.iconst 1, 1) := by decide +kernel
theorem d_Pa_takeTable_39 : decode b_Pa_takeTable 39 = .ok (.isub, 1) := by decide +kernel
theorem d_Pa_takeTable_40 : decode b_Pa_takeTable 40 = .ok (.iaload, 1) := by decide +kernel
theorem d_Pa_takeTable_41 : decode b_Pa_takeTable 41 = .ok (.ireturn, 1) := by decide +kernel
theorem d_Pa_takeFirstTable_0 : decode b_Pa_takeFirstTable 0 = .ok (.aload_n 0, 1) := by decide +kernel
theorem d_Pa_takeFirstTable_1 : decode b_Pa_takeFirstTable 1 = .ok (.getfield 12, 3) := by decide +kernel
theorem d_Pa_takeFirstTable_4 : decode b_Pa_takeFirstTable 4 = .ok (.aload_n 0, 1) := by decide +kernel
theorem d_Pa_takeFirstTable_5 : decode b_Pa_takeFirstTable 5 = .ok (.invokevirtual 64, 3) := by decide +kernel
theorem d_Pa_takeFirstTable_8 : decode b_Pa_takeFirstTable 8 = .ok (.putfield 83, 3) := by decide +kernel
theorem d_Pa_takeFirstTable_11 : decode b_Pa_takeFirstTable 11 = .ok (.aload_n 0, 1) := by decide +kernel
theorem d_Pa_takeFirstTable_12 : decode b_Pa_takeFirstTable 12 = .ok (.getfield 12, 3) := by decide +kernel
theorem d_Pa_takeFirstTable_15 : decode b_Pa_takeFirstTable 15 = .ok (.getfield 83, 3) := by decide +kernel
theorem d_Pa_takeFirstTable_18 : decode b_Pa_takeFirstTable 18 = .ok (.iconst (-1), 1) := by decide +kernel
theorem d_Pa_takeFirstTable_19 : decode b_Pa_takeFirstTable 19 = .ok (.if_icmp .eq 7, 3) := by decide +kernel
theorem d_Pa_takeFirstTable_22 : decode b_Pa_takeFirstTable 22 = .ok (.iconst 1, 1) := by decide +kernel
theorem d_Pa_takeFirstTable_23 : decode b_Pa_takeFirstTable 23 = .ok (.goto 4, 3) := by decide +kernel
theorem d_Pa_takeFirstTable_26 : decode b_Pa_takeFirstTable 26 = .ok (.iconst 0, 1) := by decide +kernel
theorem d_Pa_takeFirstTable_27 : decode b_Pa_takeFirstTable 27 = .ok (.ireturn, 1) := by decide +kernel
theorem d_Pa_takeNumber_0 : decode b_Pa_takeNumber 0 = .ok (.aload_n 0, 1) := by decide +kernel
theorem d_Pa_takeNumber_1 : decode b_Pa_takeNumber 1 = .ok (.getfield 18, 3) := by decide +kernel
theorem d_Pa_takeNumber_4 : decode b_Pa_takeNumber 4 = .ok (.aload_n 0, 1) := by decide +kernel
theorem d_Pa_takeNumber_5 : decode b_Pa_takeNumber 5 = .ok (.getfield 52, 3) := by decide +kernel
theorem d_Pa_takeNumber_8 : decode b_Pa_takeNumber 8 = .ok (.iconst 3, 1) := by decide +kernel
theorem d_Pa_takeNumber_9 : decode b_Pa_takeNumber 9 = .ok (.invokevirtual 75, 3) := by decide +kernel
theorem d_Pa_takeNumber_12 : decode b_Pa_takeNumber 12 = .ok (.ifCond .ne 5, 3) := by decide +kernel
theorem d_Pa_takeNumber_15 : decode b_Pa_takeNumber 15 = .ok (.iconst 0, 1) := by decide +kernel
theorem d_Pa_takeNumber_16 : decode b_Pa_takeNumber 16 = .ok (.ireturn, 1) := by decide +kernel
theorem d_Pa_takeNumber_17 : decode b_Pa_takeNumber 17 = .ok (.aload_n 0, 1) := by decide +kernel
theorem d_Pa_takeNumber_18 : decode b_Pa_takeNumber 18 = .ok (.getfield 12, 3) := by decide +kernel
theorem d_Pa_takeNumber_21 : decode b_Pa_takeNumber 21 = .ok (.aload_n 0, 1) := by decide +kernel
theorem d_Pa_takeNumber_22 : decode b_Pa_takeNumber 22 = .ok (.getfield 18, 3) := by decide +kernel
theorem d_Pa_takeNumber_25 : decode b_Pa_takeNumber 25 = .ok (.getfield 79, 3) := by decide +kernel
theorem d_Pa_takeNumber_28 : decode b_Pa_takeNumber 28 = .ok (.aload_n 0, 1) := by decide +kernel
theorem d_Pa_takeNumber_29 : decode b_Pa_takeNumber 29 = .ok (.getfield 52, 3) := by decide +kernel
theorem d_Pa_takeNumber_32 : decode b_Pa_takeNumber 32 = .ok (.iaload, 1) := by decide +kernel
theorem d_Pa_takeNumber_33 : decode b_Pa_takeNumber 33 = .ok (.invokevirtual 86, 3) := by decide +kernel
theorem d_Pa_takeNumber_36 : decode b_Pa_takeNumber 36 = .ok (.aload_n 0, 1) := by decide +kernel
theorem d_Pa_takeNumber_37 : decode b_Pa_takeNumber 37 = .ok (.dup, 1) := by decide +kernel
theorem d_Pa_takeNumber_38 : decode b_Pa_takeNumber 38 = .ok (.getfield 52, 3) := by decide +kernel
theorem d_Pa_takeNumber_41 : decode b_Pa_takeNumber 41 = .ok (.iconst 1, 1) := by decide +kernel
theorem d_Pa_takeNumber_42 : decode b_Pa_takeNumber 42 = .ok (.iadd, 1) := by decide +kernel
theorem d_Pa_takeNumber_43 : decode b_Pa_takeNumber 43 = .ok (.putfield 52, 3) := by decide +kernel
theorem d_Pa_takeNumber_46 : decode b_Pa_takeNumber 46 = .ok (.iconst 1, 1) := by decide +kernel
theorem d_Pa_takeNumber_47 : decode b_Pa_takeNumber 47 = .ok (.ireturn, 1) := by decide +kernel
theorem d_Pa_takeNumbers_0 : decode b_Pa_takeNumbers 0 = .ok (.aload_n 0, 1) := by decide +kernel
theorem d_Pa_takeNumbers_1 : decode b_Pa_takeNumbers 1 = .ok (.invokevirtual 34, 3) := by decide +kernel
theorem d_Pa_takeNumbers_4 : decode b_Pa_takeNumbers 4 = .ok (.istore_n 1, 1) := by decide +kernel
theorem d_Pa_takeNumbers_5 : decode b_Pa_takeNumbers 5 = .ok (.iconst 1, 1) := by decide +kernel
theorem d_Pa_takeNumbers_6 : decode b_Pa_takeNumbers 6 = .ok (.istore_n 2, 1) := by decide +kernel
theorem d_Pa_takeNumbers_7 : decode b_Pa_takeNumbers 7 = .ok (.iload_n 2, 1) := by decide +kernel
theorem d_Pa_takeNumbers_8 : decode b_Pa_takeNumbers 8 = .ok (.bipush 60, 2) := by decide +kernel
theorem d_Pa_takeNumbers_10 : decode b_Pa_takeNumbers 10 = .ok (.if_icmp .ge 18, 3) := by decide +kernel
theorem d_Pa_takeNumbers_13 : decode b_Pa_takeNumbers 13 = .ok (.iload_n 1, 1) := by decide +kernel
theorem d_Pa_takeNumbers_14 : decode b_Pa_takeNumbers 14 = .ok (.ifCond .eq 14, 3) := by decide +kernel
theorem d_Pa_takeNumbers_17 : decode b_Pa_takeNumbers 17 = .ok (.aload_n 0, 1) := by decide +kernel
theorem d_Pa_takeNumbers_18 : decode b_Pa_takeNumbers 18 = .ok (.invokevirtual 34, 3) := by decide +kernel
theorem d_Pa_takeNumbers_21 : decode b_Pa_takeNumbers 21 = .ok (.istore_n 1, 1) := by decide +kernel
theorem d_Pa_takeNumbers_22 : decode b_Pa_takeNumbers 22 = .ok (.iinc 2 1, 3) := by decide +kernel
theorem d_Pa_takeNumbers_25 : decode b_Pa_takeNumbers 25 = .ok (.goto (-18), 3) := by decide +kernel
theorem d_Pa_takeNumbers_28 : decode b_Pa_takeNumbers 28 = .ok (.aload_n 0, 1) := by decide +kernel
theorem d_Pa_takeNumbers_29 : decode b_Pa_takeNumbers 29 = .ok (.getfield 12, 3) := by decide +kernel
theorem d_Pa_takeNumbers_32 : decode b_Pa_takeNumbers 32 = .ok (.getfield 90, 3) := by decide +kernel
theorem d_Pa_takeNumbers_35 : decode b_Pa_takeNumbers 35 = .ok (.ifCond .le 7, 3) := by decide +kernel
theorem d_Pa_takeNumbers_38 : decode b_Pa_takeNumbers 38 = .ok (.iconst 1, 1) := by decide +kernel
theorem d_Pa_takeNumbers_39 : decode b_Pa_takeNumbers 39 = .ok (.goto 4, 3) := by decide +kernel
theorem d_Pa_takeNumbers_42 : decode b_Pa_takeNumbers 42 = .ok (.iconst 0, 1) := by decide +kernel
theorem d_Pa_takeNumbers_43 : decode b_Pa_takeNumbers 43 = .ok (.ireturn, 1) := by decide +kernel
theorem d_Pa_takeList_0 : decode b_Pa_takeList 0 = .ok (.aload_n 0, 1) := by decide +kernel
theorem d_Pa_takeList_1 : decode b_Pa_takeList 1 = .ok (.iconst 4, 1) := by decide +kernel
theorem d_Pa_takeList_2 : decode b_Pa_takeList 2 = .ok (.invokevirtual 60, 3) := by decide +kernel
theorem d_Pa_takeList_5 : decode b_Pa_takeList 5 = .ok (.ifCond .eq 13, 3) := by decide +kernel
theorem d_Pa_takeList_8 : decode b_Pa_takeList 8 = .ok (.aload_n 0, 1) := by decide +kernel
theorem d_Pa_takeList_9 : decode b_Pa_takeList 9 = .ok (.getfield 12, 3) := by decide +kernel
theorem d_Pa_takeList_12 : decode b_Pa_takeList 12 = .ok (.iconst 4, 1) := by decide +kernel
theorem d_Pa_takeList_13 : decode b_Pa_takeList 13 = .ok (.putfield 93, 3) := by decide +kernel
theorem d_Pa_takeList_16 : decode b_Pa_takeList 16 = .ok (.iconst 1, 1) := by decide +kernel
theorem d_Pa_takeList_17 : decode b_Pa_takeList 17 = .ok (.ireturn, 1) := by decide +kernel
theorem d_Pa_takeList_18 : decode b_Pa_takeList 18 = .ok (.aload_n 0, 1) := by decide +kernel
theorem d_Pa_takeList_19 : decode b_Pa_takeList 19 = .ok (.iconst 5, 1) := by decide +kernel
theorem d_Pa_takeList_20 : decode b_Pa_takeList 20 = .ok (.invokevirtual 60, 3) := by decide +kernel
theorem d_Pa_takeList_23 : decode b_Pa_takeList 23 = .ok (.ifCond .eq 13, 3) := by decide +kernel
theorem d_Pa_takeList_26 : decode b_Pa_takeList 26 = .ok (.aload_n 0, 1) := by decide +kernel
theorem d_Pa_takeList_27 : decode b_Pa_takeList 27 = .ok (.getfield 12, 3) := by decide +kernel
theorem d_Pa_takeList_30 : decode b_Pa_takeList 30 = .ok (.iconst 5, 1) := by decide +kernel
theorem d_Pa_takeList_31 : decode b_Pa_takeList 31 = .ok (.putfield 93, 3) := by decide +kernel
theorem d_Pa_takeList_34 : decode b_Pa_takeList 34 = .ok (.iconst 1, 1) := by decide +kernel
theorem d_Pa_takeList_35 : decode b_Pa_takeList 35 = .ok (.ireturn, 1) := by decide +kernel
theorem d_Pa_takeList_36 : decode b_Pa_takeList 36 = .ok (.aload_n 0, 1) := by decide +kernel
theorem d_Pa_takeList_37 : decode b_Pa_takeList 37 = .ok (.bipush 6, 2) := by decide +kernel
theorem d_Pa_takeList_39 : decode b_Pa_takeList 39 = .ok (.invokevirtual 60, 3) := by decide +kernel
theorem d_Pa_takeList_42 : decode b_Pa_takeList 42 = .ok (.ifCond .eq 18, 3) := by decide +kernel
theorem d_Pa_takeList_45 : decode b_Pa_takeList 45 = .ok (.aload_n 0, 1) := by decide +kernel
theorem d_Pa_takeList_46 : decode b_Pa_takeList 46 = .ok (.getfield 12, 3) := by decide +kernel
theorem d_Pa_takeList_49 : decode b_Pa_takeList 49 = .ok (.bipush 6, 2) := by decide +kernel
theorem d_Pa_takeList_51 : decode b_Pa_takeList 51 = .ok (.putfield 93, 3) := by decide +kernel
theorem d_Pa_takeList_54 : decode b_Pa_takeList 54 = .ok (.aload_n 0, 1) := by decide +kernel
theorem d_Pa_takeList_55 : decode b_Pa_takeList 55 = .ok (.iconst 1, 1) := by decide +kernel
theorem d_Pa_takeList_56 : decode b_Pa_takeList 56 = .ok (.invokevirtual 96, 3) := by decide +kernel
theorem d_Pa_takeList_59 : decode b_Pa_takeList 59 = .ok (.ireturn, 1) := by decide +kernel
theorem d_Pa_takeList_60 : decode b_Pa_takeList 60 = .ok (.aload_n 0, 1) := by decide +kernel
theorem d_Pa_takeList_61 : decode b_Pa_takeList 61 = .ok (.bipush 8, 2) := by decide +kernel
theorem d_Pa_takeList_63 : decode b_Pa_takeList 63 = .ok (.invokevirtual 96, 3) := by decide +kernel
theorem d_Pa_takeList_66 : decode b_Pa_takeList 66 = .ok (.ireturn, 1) := by decide +kernel
theorem d_Pa_takeColumns_0 : decode b_Pa_takeColumns 0 = .ok (.iconst 0, 1) := by decide +kernel
theorem d_Pa_takeColumns_1 : decode b_Pa_takeColumns 1 = .ok (.istore_n 2, 1) := by decide +kernel
theorem d_Pa_takeColumns_2 : decode b_Pa_takeColumns 2 = .ok (.iload_n 2, 1) := by decide +kernel
theorem d_Pa_takeColumns_3 : decode b_Pa_takeColumns 3 = .ok (.iload_n 1, 1) := by decide +kernel
theorem d_Pa_takeColumns_4 : decode b_Pa_takeColumns 4 = .ok (.if_icmp .ge 53, 3) := by decide +kernel
theorem d_Pa_takeColumns_7 : decode b_Pa_takeColumns 7 = .ok (.aload_n 0, 1) := by decide +kernel
theorem d_Pa_takeColumns_8 : decode b_Pa_takeColumns 8 = .ok (.getfield 18, 3) := by decide +kernel
theorem d_Pa_takeColumns_11 : decode b_Pa_takeColumns 11 = .ok (.aload_n 0, 1) := by decide +kernel
theorem d_Pa_takeColumns_12 : decode b_Pa_takeColumns 12 = .ok (.getfield 52, 3) := by decide +kernel
theorem d_Pa_takeColumns_15 : decode b_Pa_takeColumns 15 = .ok (.iconst 2, 1) := by decide +kernel
theorem d_Pa_takeColumns_16 : decode b_Pa_takeColumns 16 = .ok (.invokevirtual 75, 3) := by decide +kernel
theorem d_Pa_takeColumns_19 : decode b_Pa_takeColumns 19 = .ok (.ifCond .eq 38, 3) := by decide +kernel
theorem d_Pa_takeColumns_22 : decode b_Pa_takeColumns 22 = .ok (.aload_n 0, 1) := by decide +kernel
theorem d_Pa_takeColumns_23 : decode b_Pa_takeColumns 23 = .ok (.getfield 12, 3) := by decide +kernel
theorem d_Pa_takeColumns_26 : decode b_Pa_takeColumns 26 = .ok (.aload_n 0, 1) := by decide +kernel
theorem d_Pa_takeColumns_27 : decode b_Pa_takeColumns 27 = .ok (.getfield 18, 3) := by decide +kernel
theorem d_Pa_takeColumns_30 : decode b_Pa_takeColumns 30 = .ok (.getfield 79, 3) := by decide +kernel
theorem d_Pa_takeColumns_33 : decode b_Pa_takeColumns 33 = .ok (.aload_n 0, 1) := by decide +kernel
theorem d_Pa_takeColumns_34 : decode b_Pa_takeColumns 34 = .ok (.getfield 52, 3) := by decide +kernel
theorem d_Pa_takeColumns_37 : decode b_Pa_takeColumns 37 = .ok (.iaload, 1) := by decide +kernel
theorem d_Pa_takeColumns_38 : decode b_Pa_takeColumns 38 = .ok (.invokevirtual 99, 3) := by decide +kernel
theorem d_Pa_takeColumns_41 : decode b_Pa_takeColumns 41 = .ok (.aload_n 0, 1) := by decide +kernel
theorem d_Pa_takeColumns_42 : decode b_Pa_takeColumns 42 = .ok (.dup, 1) := by decide +kernel
theorem d_Pa_takeColumns_43 : decode b_Pa_takeColumns 43 = .ok (.getfield 52, 3) := by decide +kernel
theorem d_Pa_takeColumns_46 : decode b_Pa_takeColumns 46 = .ok (.iconst 1, 1) := by decide +kernel
theorem d_Pa_takeColumns_47 : decode b_Pa_takeColumns 47 = .ok (.iadd, 1) := by decide +kernel
theorem d_Pa_takeColumns_48 : decode b_Pa_takeColumns 48 = .ok (.putfield 52, 3) := by decide +kernel
theorem d_Pa_takeColumns_51 : decode b_Pa_takeColumns 51 = .ok (.iinc 2 1, 3) := by decide +kernel
theorem d_Pa_takeColumns_54 : decode b_Pa_takeColumns 54 = .ok (.goto (-52), 3) := by decide +kernel
theorem d_Pa_takeColumns_57 : decode b_Pa_takeColumns 57 = .ok (.aload_n 0, 1) := by decide +kernel
theorem d_Pa_takeColumns_58 : decode b_Pa_takeColumns 58 = .ok (.getfield 12, 3) := by decide +kernel
theorem d_Pa_takeColumns_61 : decode b_Pa_takeColumns 61 = .ok (.getfield 102, 3) := by decide +kernel
theorem d_Pa_takeColumns_64 : decode b_Pa_takeColumns 64 = .ok (.ifCond .le 7, 3) := by decide +kernel
theorem d_Pa_takeColumns_67 : decode b_Pa_takeColumns 67 = .ok (.iconst 1, 1) := by decide +kernel
theorem d_Pa_takeColumns_68 : decode b_Pa_takeColumns 68 = .ok (.goto 4, 3) := by decide +kernel
theorem d_Pa_takeColumns_71 : decode b_Pa_takeColumns 71 = .ok (.iconst 0, 1) := by decide +kernel
theorem d_Pa_takeColumns_72 : decode b_Pa_takeColumns 72 = .ok (.ireturn, 1) := by decide +kernel
theorem d_Pa_takeConditions_0 : decode b_Pa_takeConditions 0 = .ok (.bipush 8, 2) := by decide +kernel
theorem d_Pa_takeConditions_2 : decode b_Pa_takeConditions 2 = .ok (.istore_n 1, 1) := by decide +kernel
theorem d_Pa_takeConditions_3 : decode b_Pa_takeConditions 3 = .ok (.iconst 0, 1) := by decide +kernel
theorem d_Pa_takeConditions_4 : decode b_Pa_takeConditions 4 = .ok (.istore_n 2, 1) := by decide +kernel
theorem d_Pa_takeConditions_5 : decode b_Pa_takeConditions 5 = .ok (.iload_n 2, 1) := by decide +kernel
theorem d_Pa_takeConditions_6 : decode b_Pa_takeConditions 6 = .ok (.bipush 8, 2) := by decide +kernel
theorem d_Pa_takeConditions_8 : decode b_Pa_takeConditions 8 = .ok (.if_icmp .ge 39, 3) := by decide +kernel
theorem d_Pa_takeConditions_11 : decode b_Pa_takeConditions 11 = .ok (.aload_n 0, 1) := by decide +kernel
theorem d_Pa_takeConditions_12 : decode b_Pa_takeConditions 12 = .ok (.iload_n 1, 1) := by decide +kernel
theorem d_Pa_takeConditions_13 : decode b_Pa_takeConditions 13 = .ok (.invokevirtual 60, 3) := by decide +kernel
theorem d_Pa_takeConditions_16 : decode b_Pa_takeConditions 16 = .ok (.ifCond .eq 31, 3) := by decide +kernel
theorem d_Pa_takeConditions_19 : decode b_Pa_takeConditions 19 = .ok (.aload_n 0, 1) := by decide +kernel
theorem d_Pa_takeConditions_20 : decode b_Pa_takeConditions 20 = .ok (.invokevirtual 105, 3) := by decide +kernel
theorem d_Pa_takeConditions_23 : decode b_Pa_takeConditions 23 = .ok (.astore_n 3, 1) := by decide +kernel
theorem d_Pa_takeConditions_24 : decode b_Pa_takeConditions 24 = .ok (.aload_n 3, 1) := by decide +kernel
theorem d_Pa_takeConditions_25 : decode b_Pa_takeConditions 25 = .ok (.ifnonnull 5, 3) := by decide +kernel
theorem d_Pa_takeConditions_28 : decode b_Pa_takeConditions 28 = .ok (.iconst 0, 1) := by decide +kernel
theorem d_Pa_takeConditions_29 : decode b_Pa_takeConditions 29 = .ok (.ireturn, 1) := by decide +kernel
theorem d_Pa_takeConditions_30 : decode b_Pa_takeConditions 30 = .ok (.aload_n 0, 1) := by decide +kernel
theorem d_Pa_takeConditions_31 : decode b_Pa_takeConditions 31 = .ok (.getfield 12, 3) := by decide +kernel
theorem d_Pa_takeConditions_34 : decode b_Pa_takeConditions 34 = .ok (.aload_n 3, 1) := by decide +kernel
theorem d_Pa_takeConditions_35 : decode b_Pa_takeConditions 35 = .ok (.invokevirtual 109, 3) := by decide +kernel
theorem d_Pa_takeConditions_38 : decode b_Pa_takeConditions 38 = .ok (.bipush 9, 2) := by decide +kernel
theorem d_Pa_takeConditions_40 : decode b_Pa_takeConditions 40 = .ok (.istore_n 1, 1) := by decide +kernel
theorem d_Pa_takeConditions_41 : decode b_Pa_takeConditions 41 = .ok (.iinc 2 1, 3) := by decide +kernel
theorem d_Pa_takeConditions_44 : decode b_Pa_takeConditions 44 = .ok (.goto (-39), 3) := by decide +kernel
theorem d_Pa_takeConditions_47 : decode b_Pa_takeConditions 47 = .ok (.iconst 1, 1) := by decide +kernel
theorem d_Pa_takeConditions_48 : decode b_Pa_takeConditions 48 = .ok (.ireturn, 1) := by decide +kernel
theorem d_Pa_takeCondition_0 : decode b_Pa_takeCondition 0 = .ok (.aload_n 0, 1) := by decide +kernel
theorem d_Pa_takeCondition_1 : decode b_Pa_takeCondition 1 = .ok (.invokevirtual 113, 3) := by decide +kernel
theorem d_Pa_takeCondition_4 : decode b_Pa_takeCondition 4 = .ok (.astore_n 1, 1) := by decide +kernel
theorem d_Pa_takeCondition_5 : decode b_Pa_takeCondition 5 = .ok (.aload_n 0, 1) := by decide +kernel
theorem d_Pa_takeCondition_6 : decode b_Pa_takeCondition 6 = .ok (.bipush 10, 2) := by decide +kernel
theorem d_Pa_takeCondition_8 : decode b_Pa_takeCondition 8 = .ok (.bipush 12, 2) := by decide +kernel
theorem d_Pa_takeCondition_10 : decode b_Pa_takeCondition 10 = .ok (.invokevirtual 22, 3) := by decide +kernel
theorem d_Pa_takeCondition_13 : decode b_Pa_takeCondition 13 = .ok (.istore_n 2, 1) := by decide +kernel
theorem d_Pa_takeCondition_14 : decode b_Pa_takeCondition 14 = .ok (.aload_n 0, 1) := by decide +kernel
theorem d_Pa_takeCondition_15 : decode b_Pa_takeCondition 15 = .ok (.invokevirtual 113, 3) := by decide +kernel
theorem d_Pa_takeCondition_18 : decode b_Pa_takeCondition 18 = .ok (.astore_n 3, 1) := by decide +kernel
theorem d_Pa_takeCondition_19 : decode b_Pa_takeCondition 19 = .ok (.aload_n 1, 1) := by decide +kernel
theorem d_Pa_takeCondition_20 : decode b_Pa_takeCondition 20 = .ok (.ifnull 12, 3) := by decide +kernel
theorem d_Pa_takeCondition_23 : decode b_Pa_takeCondition 23 = .ok (.iload_n 2, 1) := by decide +kernel
theorem d_Pa_takeCondition_24 : decode b_Pa_takeCondition 24 = .ok (.iconst (-1), 1) := by decide +kernel
theorem d_Pa_takeCondition_25 : decode b_Pa_takeCondition 25 = .ok (.if_icmp .eq 7, 3) := by decide +kernel
theorem d_Pa_takeCondition_28 : decode b_Pa_takeCondition 28 = .ok (.aload_n 3, 1) := by decide +kernel
theorem d_Pa_takeCondition_29 : decode b_Pa_takeCondition 29 = .ok (.ifnonnull 5, 3) := by decide +kernel
theorem d_Pa_takeCondition_32 : decode b_Pa_takeCondition 32 = .ok (.aconst_null, 1) := by decide +kernel
theorem d_Pa_takeCondition_33 : decode b_Pa_takeCondition 33 = .ok (.areturn, 1) := by decide +kernel
theorem d_Pa_takeCondition_34 : decode b_Pa_takeCondition 34 = .ok (.new 117, 3) := by decide +kernel
theorem d_Pa_takeCondition_37 : decode b_Pa_takeCondition 37 = .ok (.dup, 1) := by decide +kernel
theorem d_Pa_takeCondition_38 : decode b_Pa_takeCondition 38 = .ok (.aload_n 1, 1) := by decide +kernel
theorem d_Pa_takeCondition_39 : decode b_Pa_takeCondition 39 = .ok (.iload_n 2, 1) := by decide +kernel
theorem d_Pa_takeCondition_40 : decode b_Pa_takeCondition 40 = .ok (.aload_n 3, 1) := by decide +kernel
theorem d_Pa_takeCondition_41 : decode b_Pa_takeCondition 41 = .ok (.invokespecial 119, 3) := by decide +kernel
theorem d_Pa_takeCondition_44 : decode b_Pa_takeCondition 44 = .ok (.areturn, 1) := by decide +kernel
theorem d_Pa_takeOperand_0 : decode b_Pa_takeOperand 0 = .ok (.aload_n 0, 1) := by decide +kernel
theorem d_Pa_takeOperand_1 : decode b_Pa_takeOperand 1 = .ok (.getfield 18, 3) := by decide +kernel
theorem d_Pa_takeOperand_4 : decode b_Pa_takeOperand 4 = .ok (.aload_n 0, 1) := by decide +kernel
theorem d_Pa_takeOperand_5 : decode b_Pa_takeOperand 5 = .ok (.getfield 52, 3) := by decide +kernel
theorem d_Pa_takeOperand_8 : decode b_Pa_takeOperand 8 = .ok (.iconst 2, 1) := by decide +kernel
theorem d_Pa_takeOperand_9 : decode b_Pa_takeOperand 9 = .ok (.invokevirtual 75, 3) := by decide +kernel
theorem d_Pa_takeOperand_12 : decode b_Pa_takeOperand 12 = .ok (.ifCond .ne 20, 3) := by decide +kernel
theorem d_Pa_takeOperand_15 : decode b_Pa_takeOperand 15 = .ok (.aload_n 0, 1) := by decide +kernel
theorem d_Pa_takeOperand_16 : decode b_Pa_takeOperand 16 = .ok (.getfield 18, 3) := by decide +kernel
theorem d_Pa_takeOperand_19 : decode b_Pa_takeOperand 19 = .ok (.aload_n 0, 1) := by decide +kernel
theorem d_Pa_takeOperand_20 : decode b_Pa_takeOperand 20 = .ok (.getfield 52, 3) := by decide +kernel
theorem d_Pa_takeOperand_23 : decode b_Pa_takeOperand 23 = .ok (.iconst 3, 1) := by decide +kernel
theorem d_Pa_takeOperand_24 : decode b_Pa_takeOperand 24 = .ok (.invokevirtual 75, 3) := by decide +kernel
theorem d_Pa_takeOperand_27 : decode b_Pa_takeOperand 27 = .ok (.ifCond .ne 5, 3) := by decide +kernel
theorem d_Pa_takeOperand_30 : decode b_Pa_takeOperand 30 = .ok (.aconst_null, 1) := by decide +kernel
theorem d_Pa_takeOperand_31 : decode b_Pa_takeOperand 31 = .ok (.areturn, 1) := by decide +kernel
theorem d_Pa_takeOperand_32 : decode b_Pa_takeOperand 32 = .ok (.aload_n 0, 1) := by decide +kernel
theorem d_Pa_takeOperand_33 : decode b_Pa_takeOperand 33 = .ok (.dup, 1) := by decide +kernel
theorem d_Pa_takeOperand_34 : decode b_Pa_takeOperand 34 = .ok (.getfield 52, 3) := by decide +kernel
theorem d_Pa_takeOperand_37 : decode b_Pa_takeOperand 37 = .ok (.iconst 1, 1) := by decide +kernel
theorem d_Pa_takeOperand_38 : decode b_Pa_takeOperand 38 = .ok (.iadd, 1) := by decide +kernel
theorem d_Pa_takeOperand_39 : decode b_Pa_takeOperand 39 = .ok (.putfield 52, 3) := by decide +kernel
theorem d_Pa_takeOperand_42 : decode b_Pa_takeOperand 42 = .ok (.new 122, 3) := by decide +kernel
theorem d_Pa_takeOperand_45 : decode b_Pa_takeOperand 45 = .ok (.dup, 1) := by decide +kernel
theorem d_Pa_takeOperand_46 : decode b_Pa_takeOperand 46 = .ok (.aload_n 0, 1) := by decide +kernel
theorem d_Pa_takeOperand_47 : decode b_Pa_takeOperand 47 = .ok (.getfield 18, 3) := by decide +kernel
theorem d_Pa_takeOperand_50 : decode b_Pa_takeOperand 50 = .ok (.getfield 124, 3) := by decide +kernel
theorem d_Pa_takeOperand_53 : decode b_Pa_takeOperand 53 = .ok (.aload_n 0, 1) := by decide +kernel
theorem d_Pa_takeOperand_54 : decode b_Pa_takeOperand 54 = .ok (.getfield 52, 3) := by decide +kernel
theorem d_Pa_takeOperand_57 : decode b_Pa_takeOperand 57 = .ok (.iconst 1, 1) := by decide +kernel
theorem d_Pa_takeOperand_58 : decode b_Pa_takeOperand 58 = .ok (.isub, 1) := by decide +kernel
theorem d_Pa_takeOperand_59 : decode b_Pa_takeOperand 59 = .ok (.iaload, 1) := by decide +kernel
theorem d_Pa_takeOperand_60 : decode b_Pa_takeOperand 60 = .ok (.aload_n 0, 1) := by decide +kernel
theorem d_Pa_takeOperand_61 : decode b_Pa_takeOperand 61 = .ok (.getfield 18, 3) := by decide +kernel
theorem d_Pa_takeOperand_64 : decode b_Pa_takeOperand 64 = .ok (.getfield 79, 3) := by decide +kernel
theorem d_Pa_takeOperand_67 : decode b_Pa_takeOperand 67 = .ok (.aload_n 0, 1) := by decide +kernel
theorem d_Pa_takeOperand_68 : decode b_Pa_takeOperand 68 = .ok (.getfield 52, 3) := by decide +kernel
theorem d_Pa_takeOperand_71 : decode b_Pa_takeOperand 71 = .ok (.iconst 1, 1) := by decide +kernel
theorem d_Pa_takeOperand_72 : decode b_Pa_takeOperand 72 = .ok (.isub, 1) := by decide +kernel
theorem d_Pa_takeOperand_73 : decode b_Pa_takeOperand 73 = .ok (.iaload, 1) := by decide +kernel
theorem d_Pa_takeOperand_74 : decode b_Pa_takeOperand 74 = .ok (.invokespecial 127, 3) := by decide +kernel
theorem d_Pa_takeOperand_77 : decode b_Pa_takeOperand 77 = .ok (.areturn, 1) := by decide +kernel
theorem d_Ru_init_0 : decode b_Ru_init 0 = .ok (.aload_n 0, 1) := by decide +kernel
theorem d_Ru_init_1 : decode b_Ru_init 1 = .ok (.invokespecial 3, 3) := by decide +kernel
theorem d_Ru_init_4 : decode b_Ru_init 4 = .ok (.aload_n 0, 1) := by decide +kernel
theorem d_Ru_init_5 : decode b_Ru_init 5 = .ok (.bipush 16, 2) := by decide +kernel
theorem d_Ru_init_7 : decode b_Ru_init 7 = .ok (.newarray .int, 2) := by decide +kernel
theorem d_Ru_init_9 : decode b_Ru_init 9 = .ok (.putfield 9, 3) := by decide +kernel
theorem d_Ru_init_12 : decode b_Ru_init 12 = .ok (.return_, 1) := by decide +kernel
theorem d_Ru_begin_0 : decode b_Ru_begin 0 = .ok (.aload_n 0, 1) := by decide +kernel
theorem d_Ru_begin_1 : decode b_Ru_begin 1 = .ok (.aload_n 1, 1) := by decide +kernel
theorem d_Ru_begin_2 : decode b_Ru_begin 2 = .ok (.putfield 15, 3) := by decide +kernel
theorem d_Ru_begin_5 : decode b_Ru_begin 5 = .ok (.aload_n 0, 1) := by decide +kernel
theorem d_Ru_begin_6 : decode b_Ru_begin 6 = .ok (.iconst 0, 1) := by decide +kernel
theorem d_Ru_begin_7 : decode b_Ru_begin 7 = .ok (.putfield 19, 3) := by decide +kernel
theorem d_Ru_begin_10 : decode b_Ru_begin 10 = .ok (.aload_n 0, 1) := by decide +kernel
theorem d_Ru_begin_11 : decode b_Ru_begin 11 = .ok (.iconst 0, 1) := by decide +kernel
theorem d_Ru_begin_12 : decode b_Ru_begin 12 = .ok (.putfield 23, 3) := by decide +kernel
theorem d_Ru_begin_15 : decode b_Ru_begin 15 = .ok (.aload_n 0, 1) := by decide +kernel
theorem d_Ru_begin_16 : decode b_Ru_begin 16 = .ok (.iconst 0, 1) := by decide +kernel
theorem d_Ru_begin_17 : decode b_Ru_begin 17 = .ok (.putfield 27, 3) := by decide +kernel
theorem d_Ru_begin_20 : decode b_Ru_begin 20 = .ok (.aload_n 0, 1) := by decide +kernel
theorem d_Ru_begin_21 : decode b_Ru_begin 21 = .ok (.iconst 0, 1) := by decide +kernel
theorem d_Ru_begin_22 : decode b_Ru_begin 22 = .ok (.putfield 30, 3) := by decide +kernel
theorem d_Ru_begin_25 : decode b_Ru_begin 25 = .ok (.aload_n 0, 1) := by decide +kernel
theorem d_Ru_begin_26 : decode b_Ru_begin 26 = .ok (.iconst 0, 1) := by decide +kernel
theorem d_Ru_begin_27 : decode b_Ru_begin 27 = .ok (.putfield 33, 3) := by decide +kernel
theorem d_Ru_begin_30 : decode b_Ru_begin 30 = .ok (.return_, 1) := by decide +kernel
theorem d_Ru_advance_0 : decode b_Ru_advance 0 = .ok (.aload_n 0, 1) := by decide +kernel
theorem d_Ru_advance_1 : decode b_Ru_advance 1 = .ok (.getfield 27, 3) := by decide +kernel
theorem d_Ru_advance_4 : decode b_Ru_advance 4 = .ok (.ifCond .eq 5, 3) := by decide +kernel
theorem d_Ru_advance_7 : decode b_Ru_advance 7 = .ok (.iconst 0, 1) := by decide +kernel
theorem d_Ru_advance_8 : decode b_Ru_advance 8 = .ok (.ireturn, 1) := by decide +kernel
theorem d_Ru_advance_9 : decode b_Ru_advance 9 = .ok (.iconst 0, 1) := by decide +kernel
theorem d_Ru_advance_10 : decode b_Ru_advance 10 = .ok (.istore_n 2, 1) := by decide +kernel
theorem d_Ru_advance_11 : decode b_Ru_advance 11 = .ok (.aload_n 0, 1) := by decide +kernel
theorem d_Ru_advance_12 : decode b_Ru_advance 12 = .ok (.getfield 15, 3) := by decide +kernel
theorem d_Ru_advance_15 : decode b_Ru_advance 15 = .ok (.getfield 36, 3) := by decide +kernel
theorem d_Ru_advance_18 : decode b_Ru_advance 18 = .ok (.tableswitch 80 0 2 #[26, 50, 72], 26) := by decide +kernel
theorem d_Ru_advance_44 : decode b_Ru_advance 44 = .ok (.aload_n 1, 1) := by decide +kernel
theorem d_Ru_advance_45 : decode b_Ru_advance 45 = .ok (.aload_n 0, 1) := by decide +kernel
theorem d_Ru_advance_46 : decode b_Ru_advance 46 = .ok (.getfield 15, 3) := by decide +kernel
theorem d_Ru_advance_49 : decode b_Ru_advance 49 = .ok (.getfield 41, 3) := by decide +kernel
theorem d_Ru_advance_52 : decode b_Ru_advance 52 = .ok (.aload_n 0, 1) := by decide +kernel
theorem d_Ru_advance_53 : decode b_Ru_advance 53 = .ok (.getfield 15, 3) := by decide +kernel
theorem d_Ru_advance_56 : decode b_Ru_advance 56 = .ok (.getfield 44, 3) := by decide +kernel
theorem d_Ru_advance_59 : decode b_Ru_advance 59 = .ok (.iconst 0, 1) := by decide +kernel
theorem d_Ru_advance_60 : decode b_Ru_advance 60 = .ok (.iaload, 1) := by decide +kernel
theorem d_Ru_advance_61 : decode b_Ru_advance 61 = .ok (.invokevirtual 47, 3) := by decide +kernel
theorem d_Ru_advance_64 : decode b_Ru_advance 64 = .ok (.istore_n 2, 1) := by decide +kernel
theorem d_Ru_advance_65 : decode b_Ru_advance 65 = .ok (.goto 57, 3) := by decide +kernel
theorem d_Ru_advance_68 : decode b_Ru_advance 68 = .ok (.aload_n 1, 1) := by decide +kernel
theorem d_Ru_advance_69 : decode b_Ru_advance 69 = .ok (.aload_n 0, 1) := by decide +kernel
theorem d_Ru_advance_70 : decode b_Ru_advance 70 = .ok (.getfield 15, 3) := by decide +kernel
theorem d_Ru_advance_73 : decode b_Ru_advance 73 = .ok (.getfield 41, 3) := by decide +kernel
theorem d_Ru_advance_76 : decode b_Ru_advance 76 = .ok (.aload_n 0, 1) := by decide +kernel
theorem d_Ru_advance_77 : decode b_Ru_advance 77 = .ok (.getfield 15, 3) := by decide +kernel
theorem d_Ru_advance_80 : decode b_Ru_advance 80 = .ok (.getfield 44, 3) := by decide +kernel
theorem d_Ru_advance_83 : decode b_Ru_advance 83 = .ok (.invokevirtual 53, 3) := by decide +kernel
theorem d_Ru_advance_86 : decode b_Ru_advance 86 = .ok (.istore_n 2, 1) := by decide +kernel
theorem d_Ru_advance_87 : decode b_Ru_advance 87 = .ok (.goto 35, 3) := by decide +kernel
theorem d_Ru_advance_90 : decode b_Ru_advance 90 = .ok (.aload_n 0, 1) := by decide +kernel
theorem d_Ru_advance_91 : decode b_Ru_advance 91 = .ok (.aload_n 1, 1) := by decide +kernel
theorem d_Ru_advance_92 : decode b_Ru_advance 92 = .ok (.invokevirtual 57, 3) := by decide +kernel
theorem d_Ru_advance_95 : decode b_Ru_advance 95 = .ok (.goto 27, 3) := by decide +kernel
theorem d_Ru_advance_98 : decode b_Ru_advance 98 = .ok (.aload_n 0, 1) := by decide +kernel
theorem d_Ru_advance_99 : decode b_Ru_advance 99 = .ok (.getfield 15, 3) := by decide +kernel
theorem d_Ru_advance_102 : decode b_Ru_advance 102 = .ok (.invokevirtual 61, 3) := by decide +kernel
theorem d_Ru_advance_105 : decode b_Ru_advance 105 = .ok (.ifCond .eq 11, 3) := by decide +kernel
theorem d_Ru_advance_108 : decode b_Ru_advance 108 = .ok (.aload_n 0, 1) := by decide +kernel
theorem d_Ru_advance_109 : decode b_Ru_advance 109 = .ok (.aload_n 1, 1) := by decide +kernel
theorem d_Ru_advance_110 : decode b_Ru_advance 110 = .ok (.invokevirtual 65, 3) := by decide +kernel
theorem d_Ru_advance_113 : decode b_Ru_advance 113 = .ok (.goto 8, 3) := by decide +kernel
theorem d_Ru_advance_116 : decode b_Ru_advance 116 = .ok (.aload_n 0, 1) := by decide +kernel
theorem d_Ru_advance_117 : decode b_Ru_advance 117 = .ok (.aload_n 1, 1) := by decide +kernel
theorem d_Ru_advance_118 : decode b_Ru_advance 118 = .ok (.invokevirtual 69, 3) := by decide +kernel
theorem d_Ru_advance_121 : decode b_Ru_advance 121 = .ok (.istore_n 2, 1) := by decide +kernel
theorem d_Ru_advance_122 : decode b_Ru_advance 122 = .ok (.aload_n 0, 1) := by decide +kernel
theorem d_Ru_advance_123 : decode b_Ru_advance 123 = .ok (.iload_n 2, 1) := by decide +kernel
theorem d_Ru_advance_124 : decode b_Ru_advance 124 = .ok (.invokevirtual 72, 3) := by decide +kernel
theorem d_Ru_advance_127 : decode b_Ru_advance 127 = .ok (.iload_n 2, 1) := by decide +kernel
theorem d_Ru_advance_128 : decode b_Ru_advance 128 = .ok (.ireturn, 1) := by decide +kernel
theorem d_Ru_note_0 : decode b_Ru_note 0 = .ok (.aload_n 0, 1) := by decide +kernel
theorem d_Ru_note_1 : decode b_Ru_note 1 = .ok (.iload_n 1, 1) := by decide +kernel
theorem d_Ru_note_2 : decode b_Ru_note 2 = .ok (.iconst 1, 1) := by decide +kernel
theorem d_Ru_note_3 : decode b_Ru_note 3 = .ok (.if_icmp .ne 7, 3) := by decide +kernel
theorem d_Ru_note_6 : decode b_Ru_note 6 = .ok (.iconst 1, 1) := by decide +kernel
theorem d_Ru_note_7 : decode b_Ru_note 7 = .ok (.goto 4, 3) := by decide +kernel
theorem d_Ru_note_10 : decode b_Ru_note 10 = .ok (.iconst 0, 1) := by decide +kernel
theorem d_Ru_note_11 : decode b_Ru_note 11 = .ok (.putfield 23, 3) := by decide +kernel
theorem d_Ru_note_14 : decode b_Ru_note 14 = .ok (.aload_n 0, 1) := by decide +kernel
theorem d_Ru_note_15 : decode b_Ru_note 15 = .ok (.aload_n 0, 1) := by decide +kernel
theorem d_Ru_note_16 : decode b_Ru_note 16 = .ok (.getfield 23, 3) := by decide +kernel
theorem d_Ru_note_19 : decode b_Ru_note 19 = .ok (.ifCond .ne 7, 3) := by decide +kernel
theorem d_Ru_note_22 : decode b_Ru_note 22 = .ok (.iconst 1, 1) := by decide +kernel
theorem d_Ru_note_23 : decode b_Ru_note 23 = .ok (.goto 4, 3) := by decide +kernel
theorem d_Ru_note_26 : decode b_Ru_note 26 = .ok (.iconst 0, 1) := by decide +kernel
theorem d_Ru_note_27 : decode b_Ru_note 27 = .ok (.putfield 27, 3) := by decide +kernel
theorem d_Ru_note_30 : decode b_Ru_note 30 = .ok (.aload_n 0, 1) := by decide +kernel
theorem d_Ru_note_31 : decode b_Ru_note 31 = .ok (.getfield 23, 3) := by decide +kernel
theorem d_Ru_note_34 : decode b_Ru_note 34 = .ok (.ifCond .eq 13, 3) := by decide +kernel
theorem d_Ru_note_37 : decode b_Ru_note 37 = .ok (.aload_n 0, 1) := by decide +kernel
theorem d_Ru_note_38 : decode b_Ru_note 38 = .ok (.dup, 1) := by decide +kernel
theorem d_Ru_note_39 : decode b_Ru_note 39 = .ok (.getfield 19, 3) := by decide +kernel
theorem d_Ru_note_42 : decode b_Ru_note 42 = .ok (.iconst 1, 1) := by decide +kernel
theorem d_Ru_note_43 : decode b_Ru_note 43 = .ok (.iadd, 1) := by decide +kernel
theorem d_Ru_note_44 : decode b_Ru_note 44 = .ok (.putfield 19, 3) := by decide +kernel
theorem d_Ru_note_47 : decode b_Ru_note 47 = .ok (.return_, 1) := by decide +kernel
theorem d_Ru_deleteRows_0 : decode b_Ru_deleteRows 0 = .ok (.aload_n 1, 1) := by decide +kernel
theorem d_Ru_deleteRows_1 : decode b_Ru_deleteRows 1 = .ok (.aload_n 0, 1) := by decide +kernel
theorem d_Ru_deleteRows_2 : decode b_Ru_deleteRows 2 = .ok (.getfield 15, 3) := by decide +kernel
theorem d_Ru_deleteRows_5 : decode b_Ru_deleteRows 5 = .ok (.getfield 41, 3) := by decide +kernel
theorem d_Ru_deleteRows_8 : decode b_Ru_deleteRows 8 = .ok (.invokevirtual 76, 3) := by decide +kernel
theorem d_Ru_deleteRows_11 : decode b_Ru_deleteRows 11 = .ok (.iconst 1, 1) := by decide +kernel
theorem d_Ru_deleteRows_12 : decode b_Ru_deleteRows 12 = .ok (.isub, 1) := by decide +kernel
theorem d_Ru_deleteRows_13 : decode b_Ru_deleteRows 13 = .ok (.istore_n 2, 1) := by decide +kernel
theorem d_Ru_deleteRows_14 : decode b_Ru_deleteRows 14 = .ok (.iload_n 2, 1) := by decide +kernel
theorem d_Ru_deleteRows_15 : decode b_Ru_deleteRows 15 = .ok (.ifCond .lt 52, 3) := by decide +kernel
theorem d_Ru_deleteRows_18 : decode b_Ru_deleteRows 18 = .ok (.aload_n 1, 1) := by decide +kernel
theorem d_Ru_deleteRows_19 : decode b_Ru_deleteRows 19 = .ok (.aload_n 0, 1) := by decide +kernel
theorem d_Ru_deleteRows_20 : decode b_Ru_deleteRows 20 = .ok (.getfield 15, 3) := by decide +kernel
theorem d_Ru_deleteRows_23 : decode b_Ru_deleteRows 23 = .ok (.getfield 41, 3) := by decide +kernel
theorem d_Ru_deleteRows_26 : decode b_Ru_deleteRows 26 = .ok (.iload_n 2, 1) := by decide +kernel
theorem d_Ru_deleteRows_27 : decode b_Ru_deleteRows 27 = .ok (.aload_n 0, 1) := by decide +kernel
theorem d_Ru_deleteRows_28 : decode b_Ru_deleteRows 28 = .ok (.getfield 9, 3) := by decide +kernel
theorem d_Ru_deleteRows_31 : decode b_Ru_deleteRows 31 = .ok (.iconst 0, 1) := by decide +kernel
theorem d_Ru_deleteRows_32 : decode b_Ru_deleteRows 32 = .ok (.invokevirtual 80, 3) := by decide +kernel
theorem d_Ru_deleteRows_35 : decode b_Ru_deleteRows 35 = .ok (.aload_n 0, 1) := by decide +kernel
theorem d_Ru_deleteRows_36 : decode b_Ru_deleteRows 36 = .ok (.getfield 15, 3) := by decide +kernel
theorem d_Ru_deleteRows_39 : decode b_Ru_deleteRows 39 = .ok (.aload_n 0, 1) := by decide +kernel
theorem d_Ru_deleteRows_40 : decode b_Ru_deleteRows 40 = .ok (.getfield 9, 3) := by decide +kernel
theorem d_Ru_deleteRows_43 : decode b_Ru_deleteRows 43 = .ok (.invokevirtual 83, 3) := by decide +kernel
theorem d_Ru_deleteRows_46 : decode b_Ru_deleteRows 46 = .ok (.ifCond .eq 15, 3) := by decide +kernel
theorem d_Ru_deleteRows_49 : decode b_Ru_deleteRows 49 = .ok (.aload_n 1, 1) := by decide +kernel
theorem d_Ru_deleteRows_50 : decode b_Ru_deleteRows 50 = .ok (.aload_n 0, 1) := by decide +kernel
theorem d_Ru_deleteRows_51 : decode b_Ru_deleteRows 51 = .ok (.getfield 15, 3) := by decide +kernel
theorem d_Ru_deleteRows_54 : decode b_Ru_deleteRows 54 = .ok (.getfield 41, 3) := by decide +kernel
theorem d_Ru_deleteRows_57 : decode b_Ru_deleteRows 57 = .ok (.iload_n 2, 1) := by decide +kernel
theorem d_Ru_deleteRows_58 : decode b_Ru_deleteRows 58 = .ok (.invokevirtual 87, 3) := by decide +kernel
theorem d_Ru_deleteRows_61 : decode b_Ru_deleteRows 61 = .ok (.iinc 2 (-1), 3) := by decide +kernel
theorem d_Ru_deleteRows_64 : decode b_Ru_deleteRows 64 = .ok (.goto (-50), 3) := by decide +kernel
theorem d_Ru_deleteRows_67 : decode b_Ru_deleteRows 67 = .ok (.return_, 1) := by decide +kernel
end
section
theorem d_Ru_giveRow_0 : decode b_Ru_giveRow 0 = .ok (.aload_n 0, 1) := by decide +kernel
theorem d_Ru_giveRow_1 : decode b_Ru_giveRow 1 = .ok (.aload_n 1, 1) := by decide +kernel
theorem d_Ru_giveRow_2 : decode b_Ru_giveRow 2 = .ok (.invokevirtual 91, 3) := by decide +kernel
theorem d_Ru_giveRow_5 : decode b_Ru_giveRow 5 = .ok (.ifCond .eq 7, 3) := by decide +kernel
theorem d_Ru_giveRow_8 : decode b_Ru_giveRow 8 = .ok (.iconst 1, 1) := by decide +kernel
theorem d_Ru_giveRow_9 : decode b_Ru_giveRow 9 = .ok (.goto 4, 3) := by decide +kernel
theorem d_Ru_giveRow_12 : decode b_Ru_giveRow 12 = .ok (.iconst 0, 1) := by decide +kernel
theorem d_Ru_giveRow_13 : decode b_Ru_giveRow 13 = .ok (.ireturn, 1) := by decide +kernel
theorem d_Ru_giveTotal_0 : decode b_Ru_giveTotal 0 = .ok (.aload_n 0, 1) := by decide +kernel
theorem d_Ru_giveTotal_1 : decode b_Ru_giveTotal 1 = .ok (.getfield 19, 3) := by decide +kernel
theorem d_Ru_giveTotal_4 : decode b_Ru_giveTotal 4 = .ok (.ifCond .le 5, 3) := by decide +kernel
theorem d_Ru_giveTotal_7 : decode b_Ru_giveTotal 7 = .ok (.iconst 0, 1) := by decide +kernel
theorem d_Ru_giveTotal_8 : decode b_Ru_giveTotal 8 = .ok (.ireturn, 1) := by decide +kernel
theorem d_Ru_giveTotal_9 : decode b_Ru_giveTotal 9 = .ok (.aload_n 0, 1) := by decide +kernel
theorem d_Ru_giveTotal_10 : decode b_Ru_giveTotal 10 = .ok (.lconst 0, 1) := by decide +kernel
theorem d_Ru_giveTotal_11 : decode b_Ru_giveTotal 11 = .ok (.putfield 95, 3) := by decide +kernel
theorem d_Ru_giveTotal_14 : decode b_Ru_giveTotal 14 = .ok (.iconst 0, 1) := by decide +kernel
theorem d_Ru_giveTotal_15 : decode b_Ru_giveTotal 15 = .ok (.istore_n 2, 1) := by decide +kernel
theorem d_Ru_giveTotal_16 : decode b_Ru_giveTotal 16 = .ok (.iload_n 2, 1) := by decide +kernel
theorem d_Ru_giveTotal_17 : decode b_Ru_giveTotal 17 = .ok (.ldc 99, 2) := by decide +kernel
theorem d_Ru_giveTotal_19 : decode b_Ru_giveTotal 19 = .ok (.if_icmp .ge 58, 3) := by decide +kernel
theorem d_Ru_giveTotal_22 : decode b_Ru_giveTotal 22 = .ok (.aload_n 0, 1) := by decide +kernel
theorem d_Ru_giveTotal_23 : decode b_Ru_giveTotal 23 = .ok (.aload_n 1, 1) := by decide +kernel
theorem d_Ru_giveTotal_24 : decode b_Ru_giveTotal 24 = .ok (.invokevirtual 91, 3) := by decide +kernel
theorem d_Ru_giveTotal_27 : decode b_Ru_giveTotal 27 = .ok (.ifCond .eq 50, 3) := by decide +kernel
theorem d_Ru_giveTotal_30 : decode b_Ru_giveTotal 30 = .ok (.aload_n 0, 1) := by decide +kernel
theorem d_Ru_giveTotal_31 : decode b_Ru_giveTotal 31 = .ok (.dup, 1) := by decide +kernel
theorem d_Ru_giveTotal_32 : decode b_Ru_giveTotal 32 = .ok (.getfield 95, 3) := by decide +kernel
theorem d_Ru_giveTotal_35 : decode b_Ru_giveTotal 35 = .ok (.aload_n 0, 1) := by decide +kernel
theorem d_Ru_giveTotal_36 : decode b_Ru_giveTotal 36 = .ok (.getfield 15, 3) := by decide +kernel
theorem d_Ru_giveTotal_39 : decode b_Ru_giveTotal 39 = .ok (.getfield 100, 3) := by decide +kernel
theorem d_Ru_giveTotal_42 : decode b_Ru_giveTotal 42 = .ok (.iconst 5, 1) := by decide +kernel
theorem d_Ru_giveTotal_43 : decode b_Ru_giveTotal 43 = .ok (.if_icmp .ne 7, 3) := by decide +kernel
theorem d_Ru_giveTotal_46 : decode b_Ru_giveTotal 46 = .ok (.lconst 1, 1) := by decide +kernel
theorem d_Ru_giveTotal_47 : decode b_Ru_giveTotal 47 = .ok (.goto 20, 3) := by decide +kernel
theorem d_Ru_giveTotal_50 : decode b_Ru_giveTotal 50 = .ok (.aload_n 0, 1) := by decide +kernel
theorem d_Ru_giveTotal_51 : decode b_Ru_giveTotal 51 = .ok (.getfield 15, 3) := by decide +kernel
theorem d_Ru_giveTotal_54 : decode b_Ru_giveTotal 54 = .ok (.getfield 103, 3) := by decide +kernel
theorem d_Ru_giveTotal_57 : decode b_Ru_giveTotal 57 = .ok (.iconst 0, 1) := by decide +kernel
theorem d_Ru_giveTotal_58 : decode b_Ru_giveTotal 58 = .ok (.aaload, 1) := by decide +kernel
theorem d_Ru_giveTotal_59 : decode b_Ru_giveTotal 59 = .ok (.aload_n 0, 1) := by decide +kernel
theorem d_Ru_giveTotal_60 : decode b_Ru_giveTotal 60 = .ok (.getfield 9, 3) := by decide +kernel
theorem d_Ru_giveTotal_63 : decode b_Ru_giveTotal 63 = .ok (.invokevirtual 107, 3) := by decide +kernel
theorem d_Ru_giveTotal_66 : decode b_Ru_giveTotal 66 = .ok (.i2l, 1) := by decide +kernel
theorem d_Ru_giveTotal_67 : decode b_Ru_giveTotal 67 = .ok (.ladd, 1) := by decide +kernel
theorem d_Ru_giveTotal_68 : decode b_Ru_giveTotal 68 = .ok (.putfield 95, 3) := by decide +kernel
theorem d_Ru_giveTotal_71 : decode b_Ru_giveTotal 71 = .ok (.iinc 2 1, 3) := by decide +kernel
theorem d_Ru_giveTotal_74 : decode b_Ru_giveTotal 74 = .ok (.goto (-58), 3) := by decide +kernel
theorem d_Ru_giveTotal_77 : decode b_Ru_giveTotal 77 = .ok (.iconst 1, 1) := by decide +kernel
theorem d_Ru_giveTotal_78 : decode b_Ru_giveTotal 78 = .ok (.ireturn, 1) := by decide +kernel
theorem d_Ru_findRow_0 : decode b_Ru_findRow 0 = .ok (.aload_n 1, 1) := by decide +kernel
theorem d_Ru_findRow_1 : decode b_Ru_findRow 1 = .ok (.aload_n 0, 1) := by decide +kernel
theorem d_Ru_findRow_2 : decode b_Ru_findRow 2 = .ok (.getfield 15, 3) := by decide +kernel
theorem d_Ru_findRow_5 : decode b_Ru_findRow 5 = .ok (.getfield 41, 3) := by decide +kernel
theorem d_Ru_findRow_8 : decode b_Ru_findRow 8 = .ok (.invokevirtual 76, 3) := by decide +kernel
theorem d_Ru_findRow_11 : decode b_Ru_findRow 11 = .ok (.istore_n 2, 1) := by decide +kernel
theorem d_Ru_findRow_12 : decode b_Ru_findRow 12 = .ok (.aload_n 0, 1) := by decide +kernel
theorem d_Ru_findRow_13 : decode b_Ru_findRow 13 = .ok (.getfield 15, 3) := by decide +kernel
theorem d_Ru_findRow_16 : decode b_Ru_findRow 16 = .ok (.getfield 113, 3) := by decide +kernel
theorem d_Ru_findRow_19 : decode b_Ru_findRow 19 = .ok (.iconst (-1), 1) := by decide +kernel
theorem d_Ru_findRow_20 : decode b_Ru_findRow 20 = .ok (.if_icmp .ne 7, 3) := by decide +kernel
theorem d_Ru_findRow_23 : decode b_Ru_findRow 23 = .ok (.iconst 1, 1) := by decide +kernel
theorem d_Ru_findRow_24 : decode b_Ru_findRow 24 = .ok (.goto 14, 3) := by decide +kernel
theorem d_Ru_findRow_27 : decode b_Ru_findRow 27 = .ok (.aload_n 1, 1) := by decide +kernel
theorem d_Ru_findRow_28 : decode b_Ru_findRow 28 = .ok (.aload_n 0, 1) := by decide +kernel
theorem d_Ru_findRow_29 : decode b_Ru_findRow 29 = .ok (.getfield 15, 3) := by decide +kernel
theorem d_Ru_findRow_32 : decode b_Ru_findRow 32 = .ok (.getfield 113, 3) := by decide +kernel
theorem d_Ru_findRow_35 : decode b_Ru_findRow 35 = .ok (.invokevirtual 76, 3) := by decide +kernel
theorem d_Ru_findRow_38 : decode b_Ru_findRow 38 = .ok (.istore_n 3, 1) := by decide +kernel
theorem d_Ru_findRow_39 : decode b_Ru_findRow 39 = .ok (.aload_n 0, 1) := by decide +kernel
theorem d_Ru_findRow_40 : decode b_Ru_findRow 40 = .ok (.getfield 30, 3) := by decide +kernel
theorem d_Ru_findRow_43 : decode b_Ru_findRow 43 = .ok (.iload_n 2, 1) := by decide +kernel
theorem d_Ru_findRow_44 : decode b_Ru_findRow 44 = .ok (.if_icmp .ge 117, 3) := by decide +kernel
theorem d_Ru_findRow_47 : decode b_Ru_findRow 47 = .ok (.aload_n 1, 1) := by decide +kernel
theorem d_Ru_findRow_48 : decode b_Ru_findRow 48 = .ok (.aload_n 0, 1) := by decide +kernel
theorem d_Ru_findRow_49 : decode b_Ru_findRow 49 = .ok (.getfield 15, 3) := by decide +kernel
theorem d_Ru_findRow_52 : decode b_Ru_findRow 52 = .ok (.getfield 41, 3) := by decide +kernel
theorem d_Ru_findRow_55 : decode b_Ru_findRow 55 = .ok (.aload_n 0, 1) := by decide +kernel
theorem d_Ru_findRow_56 : decode b_Ru_findRow 56 = .ok (.aload_n 0, 1) := by decide +kernel
theorem d_Ru_findRow_57 : decode b_Ru_findRow 57 = .ok (.getfield 30, 3) := by decide +kernel
theorem d_Ru_findRow_60 : decode b_Ru_findRow 60 = .ok (.iload_n 2, 1) := by decide +kernel
theorem d_Ru_findRow_61 : decode b_Ru_findRow 61 = .ok (.invokevirtual 116, 3) := by decide +kernel
theorem d_Ru_findRow_64 : decode b_Ru_findRow 64 = .ok (.aload_n 0, 1) := by decide +kernel
theorem d_Ru_findRow_65 : decode b_Ru_findRow 65 = .ok (.getfield 9, 3) := by decide +kernel
theorem d_Ru_findRow_68 : decode b_Ru_findRow 68 = .ok (.iconst 0, 1) := by decide +kernel
theorem d_Ru_findRow_69 : decode b_Ru_findRow 69 = .ok (.invokevirtual 80, 3) := by decide +kernel
theorem d_Ru_findRow_72 : decode b_Ru_findRow 72 = .ok (.aload_n 0, 1) := by decide +kernel
theorem d_Ru_findRow_73 : decode b_Ru_findRow 73 = .ok (.getfield 33, 3) := by decide +kernel
theorem d_Ru_findRow_76 : decode b_Ru_findRow 76 = .ok (.iload_n 3, 1) := by decide +kernel
theorem d_Ru_findRow_77 : decode b_Ru_findRow 77 = .ok (.if_icmp .ge 66, 3) := by decide +kernel
theorem d_Ru_findRow_80 : decode b_Ru_findRow 80 = .ok (.aload_n 0, 1) := by decide +kernel
theorem d_Ru_findRow_81 : decode b_Ru_findRow 81 = .ok (.getfield 15, 3) := by decide +kernel
theorem d_Ru_findRow_84 : decode b_Ru_findRow 84 = .ok (.getfield 113, 3) := by decide +kernel
theorem d_Ru_findRow_87 : decode b_Ru_findRow 87 = .ok (.iconst (-1), 1) := by decide +kernel
theorem d_Ru_findRow_88 : decode b_Ru_findRow 88 = .ok (.if_icmp .eq 29, 3) := by decide +kernel
theorem d_Ru_findRow_91 : decode b_Ru_findRow 91 = .ok (.aload_n 1, 1) := by decide +kernel
theorem d_Ru_findRow_92 : decode b_Ru_findRow 92 = .ok (.aload_n 0, 1) := by decide +kernel
theorem d_Ru_findRow_93 : decode b_Ru_findRow 93 = .ok (.getfield 15, 3) := by decide +kernel
theorem d_Ru_findRow_96 : decode b_Ru_findRow 96 = .ok (.getfield 113, 3) := by decide +kernel
theorem d_Ru_findRow_99 : decode b_Ru_findRow 99 = .ok (.aload_n 0, 1) := by decide +kernel
theorem d_Ru_findRow_100 : decode b_Ru_findRow 100 = .ok (.aload_n 0, 1) := by decide +kernel
theorem d_Ru_findRow_101 : decode b_Ru_findRow 101 = .ok (.getfield 33, 3) := by decide +kernel
theorem d_Ru_findRow_104 : decode b_Ru_findRow 104 = .ok (.iload_n 3, 1) := by decide +kernel
theorem d_Ru_findRow_105 : decode b_Ru_findRow 105 = .ok (.invokevirtual 116, 3) := by decide +kernel
theorem d_Ru_findRow_108 : decode b_Ru_findRow 108 = .ok (.aload_n 0, 1) := by decide +kernel
theorem d_Ru_findRow_109 : decode b_Ru_findRow 109 = .ok (.getfield 9, 3) := by decide +kernel
theorem d_Ru_findRow_112 : decode b_Ru_findRow 112 = .ok (.bipush 10, 2) := by decide +kernel
theorem d_Ru_findRow_114 : decode b_Ru_findRow 114 = .ok (.invokevirtual 80, 3) := by decide +kernel
theorem d_Ru_findRow_117 : decode b_Ru_findRow 117 = .ok (.aload_n 0, 1) := by decide +kernel
theorem d_Ru_findRow_118 : decode b_Ru_findRow 118 = .ok (.dup, 1) := by decide +kernel
theorem d_Ru_findRow_119 : decode b_Ru_findRow 119 = .ok (.getfield 33, 3) := by decide +kernel
theorem d_Ru_findRow_122 : decode b_Ru_findRow 122 = .ok (.iconst 1, 1) := by decide +kernel
theorem d_Ru_findRow_123 : decode b_Ru_findRow 123 = .ok (.iadd, 1) := by decide +kernel
theorem d_Ru_findRow_124 : decode b_Ru_findRow 124 = .ok (.putfield 33, 3) := by decide +kernel
theorem d_Ru_findRow_127 : decode b_Ru_findRow 127 = .ok (.aload_n 0, 1) := by decide +kernel
theorem d_Ru_findRow_128 : decode b_Ru_findRow 128 = .ok (.getfield 15, 3) := by decide +kernel
theorem d_Ru_findRow_131 : decode b_Ru_findRow 131 = .ok (.aload_n 0, 1) := by decide +kernel
theorem d_Ru_findRow_132 : decode b_Ru_findRow 132 = .ok (.getfield 9, 3) := by decide +kernel
theorem d_Ru_findRow_135 : decode b_Ru_findRow 135 = .ok (.invokevirtual 83, 3) := by decide +kernel
theorem d_Ru_findRow_138 : decode b_Ru_findRow 138 = .ok (.ifCond .eq (-66), 3) := by decide +kernel
theorem d_Ru_findRow_141 : decode b_Ru_findRow 141 = .ok (.iconst 1, 1) := by decide +kernel
theorem d_Ru_findRow_142 : decode b_Ru_findRow 142 = .ok (.ireturn, 1) := by decide +kernel
theorem d_Ru_findRow_143 : decode b_Ru_findRow 143 = .ok (.aload_n 0, 1) := by decide +kernel
theorem d_Ru_findRow_144 : decode b_Ru_findRow 144 = .ok (.iconst 0, 1) := by decide +kernel
theorem d_Ru_findRow_145 : decode b_Ru_findRow 145 = .ok (.putfield 33, 3) := by decide +kernel
theorem d_Ru_findRow_148 : decode b_Ru_findRow 148 = .ok (.aload_n 0, 1) := by decide +kernel
theorem d_Ru_findRow_149 : decode b_Ru_findRow 149 = .ok (.dup, 1) := by decide +kernel
theorem d_Ru_findRow_150 : decode b_Ru_findRow 150 = .ok (.getfield 30, 3) := by decide +kernel
theorem d_Ru_findRow_153 : decode b_Ru_findRow 153 = .ok (.iconst 1, 1) := by decide +kernel
theorem d_Ru_findRow_154 : decode b_Ru_findRow 154 = .ok (.iadd, 1) := by decide +kernel
theorem d_Ru_findRow_155 : decode b_Ru_findRow 155 = .ok (.putfield 30, 3) := by decide +kernel
theorem d_Ru_findRow_158 : decode b_Ru_findRow 158 = .ok (.goto (-119), 3) := by decide +kernel
theorem d_Ru_findRow_161 : decode b_Ru_findRow 161 = .ok (.iconst 0, 1) := by decide +kernel
theorem d_Ru_findRow_162 : decode b_Ru_findRow 162 = .ok (.ireturn, 1) := by decide +kernel
theorem d_Ru_place_0 : decode b_Ru_place 0 = .ok (.aload_n 0, 1) := by decide +kernel
theorem d_Ru_place_1 : decode b_Ru_place 1 = .ok (.getfield 15, 3) := by decide +kernel
theorem d_Ru_place_4 : decode b_Ru_place 4 = .ok (.getfield 119, 3) := by decide +kernel
theorem d_Ru_place_7 : decode b_Ru_place 7 = .ok (.ifCond .eq 11, 3) := by decide +kernel
theorem d_Ru_place_10 : decode b_Ru_place 10 = .ok (.iload_n 2, 1) := by decide +kernel
theorem d_Ru_place_11 : decode b_Ru_place 11 = .ok (.iconst 1, 1) := by decide +kernel
theorem d_Ru_place_12 : decode b_Ru_place 12 = .ok (.isub, 1) := by decide +kernel
theorem d_Ru_place_13 : decode b_Ru_place 13 = .ok (.iload_n 1, 1) := by decide +kernel
theorem d_Ru_place_14 : decode b_Ru_place 14 = .ok (.isub, 1) := by decide +kernel
theorem d_Ru_place_15 : decode b_Ru_place 15 = .ok (.goto 4, 3) := by decide +kernel
theorem d_Ru_place_18 : decode b_Ru_place 18 = .ok (.iload_n 1, 1) := by decide +kernel
theorem d_Ru_place_19 : decode b_Ru_place 19 = .ok (.ireturn, 1) := by decide +kernel
theorem d_Ru_valueAt_0 : decode b_Ru_valueAt 0 = .ok (.aload_n 0, 1) := by decide +kernel
theorem d_Ru_valueAt_1 : decode b_Ru_valueAt 1 = .ok (.getfield 15, 3) := by decide +kernel
theorem d_Ru_valueAt_4 : decode b_Ru_valueAt 4 = .ok (.invokevirtual 61, 3) := by decide +kernel
theorem d_Ru_valueAt_7 : decode b_Ru_valueAt 7 = .ok (.ifCond .eq 10, 3) := by decide +kernel
theorem d_Ru_valueAt_10 : decode b_Ru_valueAt 10 = .ok (.aload_n 0, 1) := by decide +kernel
theorem d_Ru_valueAt_11 : decode b_Ru_valueAt 11 = .ok (.getfield 95, 3) := by decide +kernel
theorem d_Ru_valueAt_14 : decode b_Ru_valueAt 14 = .ok (.goto 20, 3) := by decide +kernel
theorem d_Ru_valueAt_17 : decode b_Ru_valueAt 17 = .ok (.aload_n 0, 1) := by decide +kernel
theorem d_Ru_valueAt_18 : decode b_Ru_valueAt 18 = .ok (.getfield 15, 3) := by decide +kernel
theorem d_Ru_valueAt_21 : decode b_Ru_valueAt 21 = .ok (.getfield 103, 3) := by decide +kernel
theorem d_Ru_valueAt_24 : decode b_Ru_valueAt 24 = .ok (.iload_n 1, 1) := by decide +kernel
theorem d_Ru_valueAt_25 : decode b_Ru_valueAt 25 = .ok (.aaload, 1) := by decide +kernel
theorem d_Ru_valueAt_26 : decode b_Ru_valueAt 26 = .ok (.aload_n 0, 1) := by decide +kernel
theorem d_Ru_valueAt_27 : decode b_Ru_valueAt 27 = .ok (.getfield 9, 3) := by decide +kernel
theorem d_Ru_valueAt_30 : decode b_Ru_valueAt 30 = .ok (.invokevirtual 107, 3) := by decide +kernel
theorem d_Ru_valueAt_33 : decode b_Ru_valueAt 33 = .ok (.i2l, 1) := by decide +kernel
theorem d_Ru_valueAt_34 : decode b_Ru_valueAt 34 = .ok (.lreturn, 1) := by decide +kernel
theorem d_St_init_0 : decode b_St_init 0 = .ok (.aload_n 0, 1) := by decide +kernel
theorem d_St_init_1 : decode b_St_init 1 = .ok (.invokespecial 3, 3) := by decide +kernel
theorem d_St_init_4 : decode b_St_init 4 = .ok (.aload_n 0, 1) := by decide +kernel
theorem d_St_init_5 : decode b_St_init 5 = .ok (.iconst (-1), 1) := by decide +kernel
theorem d_St_init_6 : decode b_St_init 6 = .ok (.putfield 9, 3) := by decide +kernel
theorem d_St_init_9 : decode b_St_init 9 = .ok (.aload_n 0, 1) := by decide +kernel
theorem d_St_init_10 : decode b_St_init 10 = .ok (.iconst (-1), 1) := by decide +kernel
theorem d_St_init_11 : decode b_St_init 11 = .ok (.putfield 15, 3) := by decide +kernel
theorem d_St_init_14 : decode b_St_init 14 = .ok (.aload_n 0, 1) := by decide +kernel
theorem d_St_init_15 : decode b_St_init 15 = .ok (.iconst (-1), 1) := by decide +kernel
theorem d_St_init_16 : decode b_St_init 16 = .ok (.putfield 18, 3) := by decide +kernel
theorem d_St_init_19 : decode b_St_init 19 = .ok (.aload_n 0, 1) := by decide +kernel
theorem d_St_init_20 : decode b_St_init 20 = .ok (.bipush 6, 2) := by decide +kernel
theorem d_St_init_22 : decode b_St_init 22 = .ok (.newarray .int, 2) := by decide +kernel
theorem d_St_init_24 : decode b_St_init 24 = .ok (.putfield 21, 3) := by decide +kernel
theorem d_St_init_27 : decode b_St_init 27 = .ok (.aload_n 0, 1) := by decide +kernel
theorem d_St_init_28 : decode b_St_init 28 = .ok (.bipush 12, 2) := by decide +kernel
theorem d_St_init_30 : decode b_St_init 30 = .ok (.anewarray 25, 3) := by decide +kernel
theorem d_St_init_33 : decode b_St_init 33 = .ok (.putfield 27, 3) := by decide +kernel
theorem d_St_init_36 : decode b_St_init 36 = .ok (.aload_n 0, 1) := by decide +kernel
theorem d_St_init_37 : decode b_St_init 37 = .ok (.bipush 8, 2) := by decide +kernel
theorem d_St_init_39 : decode b_St_init 39 = .ok (.anewarray 31, 3) := by decide +kernel
theorem d_St_init_42 : decode b_St_init 42 = .ok (.putfield 33, 3) := by decide +kernel
theorem d_St_init_45 : decode b_St_init 45 = .ok (.return_, 1) := by decide +kernel
theorem d_St_addNumber_0 : decode b_St_addNumber 0 = .ok (.aload_n 0, 1) := by decide +kernel
theorem d_St_addNumber_1 : decode b_St_addNumber 1 = .ok (.getfield 37, 3) := by decide +kernel
theorem d_St_addNumber_4 : decode b_St_addNumber 4 = .ok (.bipush 6, 2) := by decide +kernel
theorem d_St_addNumber_6 : decode b_St_addNumber 6 = .ok (.if_icmp .ge 13, 3) := by decide +kernel
theorem d_St_addNumber_9 : decode b_St_addNumber 9 = .ok (.aload_n 0, 1) := by decide +kernel
theorem d_St_addNumber_10 : decode b_St_addNumber 10 = .ok (.getfield 21, 3) := by decide +kernel
theorem d_St_addNumber_13 : decode b_St_addNumber 13 = .ok (.aload_n 0, 1) := by decide +kernel
theorem d_St_addNumber_14 : decode b_St_addNumber 14 = .ok (.getfield 37, 3) := by decide +kernel
theorem d_St_addNumber_17 : decode b_St_addNumber 17 = .ok (.iload_n 1, 1) := by decide +kernel
theorem d_St_addNumber_18 : decode b_St_addNumber 18 = .ok (.iastore, 1) := by decide +kernel
theorem d_St_addNumber_19 : decode b_St_addNumber 19 = .ok (.aload_n 0, 1) := by decide +kernel
theorem d_St_addNumber_20 : decode b_St_addNumber 20 = .ok (.dup, 1) := by decide +kernel
theorem d_St_addNumber_21 : decode b_St_addNumber 21 = .ok (.getfield 37, 3) := by decide +kernel
theorem d_St_addNumber_24 : decode b_St_addNumber 24 = .ok (.iconst 1, 1) := by decide +kernel
theorem d_St_addNumber_25 : decode b_St_addNumber 25 = .ok (.iadd, 1) := by decide +kernel
theorem d_St_addNumber_26 : decode b_St_addNumber 26 = .ok (.putfield 37, 3) := by decide +kernel
theorem d_St_addNumber_29 : decode b_St_addNumber 29 = .ok (.return_, 1) := by decide +kernel
theorem d_St_addPick_0 : decode b_St_addPick 0 = .ok (.aload_n 0, 1) := by decide +kernel
theorem d_St_addPick_1 : decode b_St_addPick 1 = .ok (.getfield 40, 3) := by decide +kernel
theorem d_St_addPick_4 : decode b_St_addPick 4 = .ok (.aload_n 0, 1) := by decide +kernel
theorem d_St_addPick_5 : decode b_St_addPick 5 = .ok (.getfield 27, 3) := by decide +kernel
theorem d_St_addPick_8 : decode b_St_addPick 8 = .ok (.arraylength, 1) := by decide +kernel
theorem d_St_addPick_9 : decode b_St_addPick 9 = .ok (.if_icmp .ge 31, 3) := by decide +kernel
theorem d_St_addPick_12 : decode b_St_addPick 12 = .ok (.aload_n 0, 1) := by decide +kernel
theorem d_St_addPick_13 : decode b_St_addPick 13 = .ok (.getfield 27, 3) := by decide +kernel
theorem d_St_addPick_16 : decode b_St_addPick 16 = .ok (.aload_n 0, 1) := by decide +kernel
theorem d_St_addPick_17 : decode b_St_addPick 17 = .ok (.getfield 40, 3) := by decide +kernel
theorem d_St_addPick_20 : decode b_St_addPick 20 = .ok (.new 25, 3) := by decide +kernel
theorem d_St_addPick_23 : decode b_St_addPick 23 = .ok (.dup, 1) := by decide +kernel
theorem d_St_addPick_24 : decode b_St_addPick 24 = .ok (.iconst 2, 1) := by decide +kernel
theorem d_St_addPick_25 : decode b_St_addPick 25 = .ok (.iload_n 1, 1) := by decide +kernel
theorem d_St_addPick_26 : decode b_St_addPick 26 = .ok (.invokespecial 43, 3) := by decide +kernel
theorem d_St_addPick_29 : decode b_St_addPick 29 = .ok (.aastore, 1) := by decide +kernel
theorem d_St_addPick_30 : decode b_St_addPick 30 = .ok (.aload_n 0, 1) := by decide +kernel
theorem d_St_addPick_31 : decode b_St_addPick 31 = .ok (.dup, 1) := by decide +kernel
theorem d_St_addPick_32 : decode b_St_addPick 32 = .ok (.getfield 40, 3) := by decide +kernel
theorem d_St_addPick_35 : decode b_St_addPick 35 = .ok (.iconst 1, 1) := by decide +kernel
theorem d_St_addPick_36 : decode b_St_addPick 36 = .ok (.iadd, 1) := by decide +kernel
theorem d_St_addPick_37 : decode b_St_addPick 37 = .ok (.putfield 40, 3) := by decide +kernel
theorem d_St_addPick_40 : decode b_St_addPick 40 = .ok (.return_, 1) := by decide +kernel
theorem d_St_addCondition_0 : decode b_St_addCondition 0 = .ok (.aload_n 0, 1) := by decide +kernel
theorem d_St_addCondition_1 : decode b_St_addCondition 1 = .ok (.getfield 46, 3) := by decide +kernel
theorem d_St_addCondition_4 : decode b_St_addCondition 4 = .ok (.bipush 8, 2) := by decide +kernel
theorem d_St_addCondition_6 : decode b_St_addCondition 6 = .ok (.if_icmp .ge 23, 3) := by decide +kernel
theorem d_St_addCondition_9 : decode b_St_addCondition 9 = .ok (.aload_n 0, 1) := by decide +kernel
theorem d_St_addCondition_10 : decode b_St_addCondition 10 = .ok (.getfield 33, 3) := by decide +kernel
theorem d_St_addCondition_13 : decode b_St_addCondition 13 = .ok (.aload_n 0, 1) := by decide +kernel
theorem d_St_addCondition_14 : decode b_St_addCondition 14 = .ok (.getfield 46, 3) := by decide +kernel
theorem d_St_addCondition_17 : decode b_St_addCondition 17 = .ok (.aload_n 1, 1) := by decide +kernel
theorem d_St_addCondition_18 : decode b_St_addCondition 18 = .ok (.aastore, 1) := by decide +kernel
theorem d_St_addCondition_19 : decode b_St_addCondition 19 = .ok (.aload_n 0, 1) := by decide +kernel
theorem d_St_addCondition_20 : decode b_St_addCondition 20 = .ok (.dup, 1) := by decide +kernel
theorem d_St_addCondition_21 : decode b_St_addCondition 21 = .ok (.getfield 46, 3) := by decide +kernel
theorem d_St_addCondition_24 : decode b_St_addCondition 24 = .ok (.iconst 1, 1) := by decide +kernel
theorem d_St_addCondition_25 : decode b_St_addCondition 25 = .ok (.iadd, 1) := by decide +kernel
theorem d_St_addCondition_26 : decode b_St_addCondition 26 = .ok (.putfield 46, 3) := by decide +kernel
theorem d_St_addCondition_29 : decode b_St_addCondition 29 = .ok (.return_, 1) := by decide +kernel
theorem d_St_fault_0 : decode b_St_fault 0 = .ok (.aload_n 0, 1) := by decide +kernel
theorem d_St_fault_1 : decode b_St_fault 1 = .ok (.getfield 49, 3) := by decide +kernel
theorem d_St_fault_4 : decode b_St_fault 4 = .ok (.ifCond .ne 9, 3) := by decide +kernel
theorem d_St_fault_7 : decode b_St_fault 7 = .ok (.aload_n 0, 1) := by decide +kernel
theorem d_St_fault_8 : decode b_St_fault 8 = .ok (.aload_n 1, 1) := by decide +kernel
theorem d_St_fault_9 : decode b_St_fault 9 = .ok (.invokevirtual 52, 3) := by decide +kernel
theorem d_St_fault_12 : decode b_St_fault 12 = .ok (.ireturn, 1) := by decide +kernel
theorem d_St_fault_13 : decode b_St_fault 13 = .ok (.aload_n 1, 1) := by decide +kernel
theorem d_St_fault_14 : decode b_St_fault 14 = .ok (.aload_n 0, 1) := by decide +kernel
theorem d_St_fault_15 : decode b_St_fault 15 = .ok (.getfield 15, 3) := by decide +kernel
theorem d_St_fault_18 : decode b_St_fault 18 = .ok (.invokevirtual 56, 3) := by decide +kernel
theorem d_St_fault_21 : decode b_St_fault 21 = .ok (.ifCond .eq 22, 3) := by decide +kernel
theorem d_St_fault_24 : decode b_St_fault 24 = .ok (.aload_n 0, 1) := by decide +kernel
theorem d_St_fault_25 : decode b_St_fault 25 = .ok (.getfield 18, 3) := by decide +kernel
theorem d_St_fault_28 : decode b_St_fault 28 = .ok (.iconst (-1), 1) := by decide +kernel
theorem d_St_fault_29 : decode b_St_fault 29 = .ok (.if_icmp .eq 17, 3) := by decide +kernel
theorem d_St_fault_32 : decode b_St_fault 32 = .ok (.aload_n 1, 1) := by decide +kernel
theorem d_St_fault_33 : decode b_St_fault 33 = .ok (.aload_n 0, 1) := by decide +kernel
theorem d_St_fault_34 : decode b_St_fault 34 = .ok (.getfield 18, 3) := by decide +kernel
theorem d_St_fault_37 : decode b_St_fault 37 = .ok (.invokevirtual 56, 3) := by decide +kernel
theorem d_St_fault_40 : decode b_St_fault 40 = .ok (.ifCond .ne 6, 3) := by decide +kernel
theorem d_St_fault_43 : decode b_St_fault 43 = .ok (.bipush (-2), 2) := by decide +kernel
theorem d_St_fault_45 : decode b_St_fault 45 = .ok (.ireturn, 1) := by decide +kernel
theorem d_St_fault_46 : decode b_St_fault 46 = .ok (.aload_n 0, 1) := by decide +kernel
theorem d_St_fault_47 : decode b_St_fault 47 = .ok (.aload_n 1, 1) := by decide +kernel
theorem d_St_fault_48 : decode b_St_fault 48 = .ok (.aload_n 0, 1) := by decide +kernel
theorem d_St_fault_49 : decode b_St_fault 49 = .ok (.getfield 15, 3) := by decide +kernel
theorem d_St_fault_52 : decode b_St_fault 52 = .ok (.invokevirtual 62, 3) := by decide +kernel
theorem d_St_fault_55 : decode b_St_fault 55 = .ok (.aload_n 1, 1) := by decide +kernel
theorem d_St_fault_56 : decode b_St_fault 56 = .ok (.aload_n 0, 1) := by decide +kernel
theorem d_St_fault_57 : decode b_St_fault 57 = .ok (.getfield 18, 3) := by decide +kernel
theorem d_St_fault_60 : decode b_St_fault 60 = .ok (.invokevirtual 62, 3) := by decide +kernel
theorem d_St_fault_63 : decode b_St_fault 63 = .ok (.invokevirtual 66, 3) := by decide +kernel
theorem d_St_fault_66 : decode b_St_fault 66 = .ok (.ifCond .ne 6, 3) := by decide +kernel
theorem d_St_fault_69 : decode b_St_fault 69 = .ok (.bipush (-3), 2) := by decide +kernel
theorem d_St_fault_71 : decode b_St_fault 71 = .ok (.ireturn, 1) := by decide +kernel
theorem d_St_fault_72 : decode b_St_fault 72 = .ok (.aload_n 0, 1) := by decide +kernel
theorem d_St_fault_73 : decode b_St_fault 73 = .ok (.getfield 49, 3) := by decide +kernel
theorem d_St_fault_76 : decode b_St_fault 76 = .ok (.iconst 1, 1) := by decide +kernel
theorem d_St_fault_77 : decode b_St_fault 77 = .ok (.if_icmp .ne 21, 3) := by decide +kernel
theorem d_St_fault_80 : decode b_St_fault 80 = .ok (.aload_n 0, 1) := by decide +kernel
theorem d_St_fault_81 : decode b_St_fault 81 = .ok (.getfield 37, 3) := by decide +kernel
theorem d_St_fault_84 : decode b_St_fault 84 = .ok (.aload_n 1, 1) := by decide +kernel
theorem d_St_fault_85 : decode b_St_fault 85 = .ok (.aload_n 0, 1) := by decide +kernel
theorem d_St_fault_86 : decode b_St_fault 86 = .ok (.getfield 15, 3) := by decide +kernel
theorem d_St_fault_89 : decode b_St_fault 89 = .ok (.invokevirtual 62, 3) := by decide +kernel
theorem d_St_fault_92 : decode b_St_fault 92 = .ok (.if_icmp .eq 6, 3) := by decide +kernel
theorem d_St_fault_95 : decode b_St_fault 95 = .ok (.bipush (-5), 2) := by decide +kernel
theorem d_St_fault_97 : decode b_St_fault 97 = .ok (.ireturn, 1) := by decide +kernel
theorem d_St_fault_98 : decode b_St_fault 98 = .ok (.iconst 0, 1) := by decide +kernel
theorem d_St_fault_99 : decode b_St_fault 99 = .ok (.ireturn, 1) := by decide +kernel
theorem d_St_faultOfCreate_0 : decode b_St_faultOfCreate 0 = .ok (.aload_n 1, 1) := by decide +kernel
theorem d_St_faultOfCreate_1 : decode b_St_faultOfCreate 1 = .ok (.aload_n 0, 1) := by decide +kernel
theorem d_St_faultOfCreate_2 : decode b_St_faultOfCreate 2 = .ok (.getfield 15, 3) := by decide +kernel
theorem d_St_faultOfCreate_5 : decode b_St_faultOfCreate 5 = .ok (.invokevirtual 56, 3) := by decide +kernel
theorem d_St_faultOfCreate_8 : decode b_St_faultOfCreate 8 = .ok (.ifCond .eq 6, 3) := by decide +kernel
theorem d_St_faultOfCreate_11 : decode b_St_faultOfCreate 11 = .ok (.bipush (-4), 2) := by decide +kernel
theorem d_St_faultOfCreate_13 : decode b_St_faultOfCreate 13 = .ok (.ireturn, 1) := by decide +kernel
theorem d_St_faultOfCreate_14 : decode b_St_faultOfCreate 14 = .ok (.aload_n 0, 1) := by decide +kernel
theorem d_St_faultOfCreate_15 : decode b_St_faultOfCreate 15 = .ok (.getfield 21, 3) := by decide +kernel
theorem d_St_faultOfCreate_18 : decode b_St_faultOfCreate 18 = .ok (.iconst 0, 1) := by decide +kernel
theorem d_St_faultOfCreate_19 : decode b_St_faultOfCreate 19 = .ok (.iaload, 1) := by decide +kernel
theorem d_St_faultOfCreate_20 : decode b_St_faultOfCreate 20 = .ok (.iconst 1, 1) := by decide +kernel
theorem d_St_faultOfCreate_21 : decode b_St_faultOfCreate 21 = .ok (.if_icmp .lt 18, 3) := by decide +kernel
theorem d_St_faultOfCreate_24 : decode b_St_faultOfCreate 24 = .ok (.aload_n 0, 1) := by decide +kernel
theorem d_St_faultOfCreate_25 : decode b_St_faultOfCreate 25 = .ok (.getfield 21, 3) := by decide +kernel
theorem d_St_faultOfCreate_28 : decode b_St_faultOfCreate 28 = .ok (.iconst 0, 1) := by decide +kernel
theorem d_St_faultOfCreate_29 : decode b_St_faultOfCreate 29 = .ok (.iaload, 1) := by decide +kernel
theorem d_St_faultOfCreate_30 : decode b_St_faultOfCreate 30 = .ok (.bipush 6, 2) := by decide +kernel
theorem d_St_faultOfCreate_32 : decode b_St_faultOfCreate 32 = .ok (.if_icmp .gt 7, 3) := by decide +kernel
theorem d_St_faultOfCreate_35 : decode b_St_faultOfCreate 35 = .ok (.iconst 0, 1) := by decide +kernel
theorem d_St_faultOfCreate_36 : decode b_St_faultOfCreate 36 = .ok (.goto 5, 3) := by decide +kernel
theorem d_St_faultOfCreate_39 : decode b_St_faultOfCreate 39 = .ok (.bipush (-5), 2) := by decide +kernel
theorem d_St_faultOfCreate_41 : decode b_St_faultOfCreate 41 = .ok (.ireturn, 1) := by decide +kernel
theorem d_St_columnsAreThere_0 : decode b_St_columnsAreThere 0 = .ok (.iconst 0, 1) := by decide +kernel
theorem d_St_columnsAreThere_1 : decode b_St_columnsAreThere 1 = .ok (.istore_n 3, 1) := by decide +kernel
theorem d_St_columnsAreThere_2 : decode b_St_columnsAreThere 2 = .ok (.iload_n 3, 1) := by decide +kernel
theorem d_St_columnsAreThere_3 : decode b_St_columnsAreThere 3 = .ok (.aload_n 0, 1) := by decide +kernel
theorem d_St_columnsAreThere_4 : decode b_St_columnsAreThere 4 = .ok (.getfield 40, 3) := by decide +kernel
theorem d_St_columnsAreThere_7 : decode b_St_columnsAreThere 7 = .ok (.if_icmp .ge 25, 3) := by decide +kernel
theorem d_St_columnsAreThere_10 : decode b_St_columnsAreThere 10 = .ok (.aload_n 0, 1) := by decide +kernel
theorem d_St_columnsAreThere_11 : decode b_St_columnsAreThere 11 = .ok (.getfield 27, 3) := by decide +kernel
theorem d_St_columnsAreThere_14 : decode b_St_columnsAreThere 14 = .ok (.iload_n 3, 1) := by decide +kernel
theorem d_St_columnsAreThere_15 : decode b_St_columnsAreThere 15 = .ok (.aaload, 1) := by decide +kernel
theorem d_St_columnsAreThere_16 : decode b_St_columnsAreThere 16 = .ok (.iload_n 1, 1) := by decide +kernel
theorem d_St_columnsAreThere_17 : decode b_St_columnsAreThere 17 = .ok (.iload_n 2, 1) := by decide +kernel
theorem d_St_columnsAreThere_18 : decode b_St_columnsAreThere 18 = .ok (.invokevirtual 70, 3) := by decide +kernel
theorem d_St_columnsAreThere_21 : decode b_St_columnsAreThere 21 = .ok (.ifCond .ne 5, 3) := by decide +kernel
theorem d_St_columnsAreThere_24 : decode b_St_columnsAreThere 24 = .ok (.iconst 0, 1) := by decide +kernel
theorem d_St_columnsAreThere_25 : decode b_St_columnsAreThere 25 = .ok (.ireturn, 1) := by decide +kernel
theorem d_St_columnsAreThere_26 : decode b_St_columnsAreThere 26 = .ok (.iinc 3 1, 3) := by decide +kernel
theorem d_St_columnsAreThere_29 : decode b_St_columnsAreThere 29 = .ok (.goto (-27), 3) := by decide +kernel
theorem d_St_columnsAreThere_32 : decode b_St_columnsAreThere 32 = .ok (.iconst 0, 1) := by decide +kernel
theorem d_St_columnsAreThere_33 : decode b_St_columnsAreThere 33 = .ok (.istore_n 3, 1) := by decide +kernel
theorem d_St_columnsAreThere_34 : decode b_St_columnsAreThere 34 = .ok (.iload_n 3, 1) := by decide +kernel
theorem d_St_columnsAreThere_35 : decode b_St_columnsAreThere 35 = .ok (.aload_n 0, 1) := by decide +kernel
theorem d_St_columnsAreThere_36 : decode b_St_columnsAreThere 36 = .ok (.getfield 46, 3) := by decide +kernel
theorem d_St_columnsAreThere_39 : decode b_St_columnsAreThere 39 = .ok (.if_icmp .ge 25, 3) := by decide +kernel
theorem d_St_columnsAreThere_42 : decode b_St_columnsAreThere 42 = .ok (.aload_n 0, 1) := by decide +kernel
theorem d_St_columnsAreThere_43 : decode b_St_columnsAreThere 43 = .ok (.getfield 33, 3) := by decide +kernel
theorem d_St_columnsAreThere_46 : decode b_St_columnsAreThere 46 = .ok (.iload_n 3, 1) := by decide +kernel
theorem d_St_columnsAreThere_47 : decode b_St_columnsAreThere 47 = .ok (.aaload, 1) := by decide +kernel
theorem d_St_columnsAreThere_48 : decode b_St_columnsAreThere 48 = .ok (.iload_n 1, 1) := by decide +kernel
theorem d_St_columnsAreThere_49 : decode b_St_columnsAreThere 49 = .ok (.iload_n 2, 1) := by decide +kernel
theorem d_St_columnsAreThere_50 : decode b_St_columnsAreThere 50 = .ok (.invokevirtual 72, 3) := by decide +kernel
theorem d_St_columnsAreThere_53 : decode b_St_columnsAreThere 53 = .ok (.ifCond .ne 5, 3) := by decide +kernel
theorem d_St_columnsAreThere_56 : decode b_St_columnsAreThere 56 = .ok (.iconst 0, 1) := by decide +kernel
theorem d_St_columnsAreThere_57 : decode b_St_columnsAreThere 57 = .ok (.ireturn, 1) := by decide +kernel
theorem d_St_columnsAreThere_58 : decode b_St_columnsAreThere 58 = .ok (.iinc 3 1, 3) := by decide +kernel
theorem d_St_columnsAreThere_61 : decode b_St_columnsAreThere 61 = .ok (.goto (-27), 3) := by decide +kernel
theorem d_St_columnsAreThere_64 : decode b_St_columnsAreThere 64 = .ok (.iconst 1, 1) := by decide +kernel
theorem d_St_columnsAreThere_65 : decode b_St_columnsAreThere 65 = .ok (.ireturn, 1) := by decide +kernel
theorem d_St_spellOutAll_0 : decode b_St_spellOutAll 0 = .ok (.aload_n 0, 1) := by decide +kernel
theorem d_St_spellOutAll_1 : decode b_St_spellOutAll 1 = .ok (.getfield 9, 3) := by decide +kernel
theorem d_St_spellOutAll_4 : decode b_St_spellOutAll 4 = .ok (.iconst 4, 1) := by decide +kernel
theorem d_St_spellOutAll_5 : decode b_St_spellOutAll 5 = .ok (.if_icmp .eq 4, 3) := by decide +kernel
theorem d_St_spellOutAll_8 : decode b_St_spellOutAll 8 = .ok (.return_, 1) := by decide +kernel
theorem d_St_spellOutAll_9 : decode b_St_spellOutAll 9 = .ok (.aload_n 0, 1) := by decide +kernel
theorem d_St_spellOutAll_10 : decode b_St_spellOutAll 10 = .ok (.iconst 0, 1) := by decide +kernel
theorem d_St_spellOutAll_11 : decode b_St_spellOutAll 11 = .ok (.aload_n 1, 1) := by decide +kernel
theorem d_St_spellOutAll_12 : decode b_St_spellOutAll 12 = .ok (.aload_n 0, 1) := by decide +kernel
theorem d_St_spellOutAll_13 : decode b_St_spellOutAll 13 = .ok (.getfield 15, 3) := by decide +kernel
theorem d_St_spellOutAll_16 : decode b_St_spellOutAll 16 = .ok (.invokevirtual 62, 3) := by decide +kernel
theorem d_St_spellOutAll_19 : decode b_St_spellOutAll 19 = .ok (.invokevirtual 73, 3) := by decide +kernel
theorem d_St_spellOutAll_22 : decode b_St_spellOutAll 22 = .ok (.aload_n 0, 1) := by decide +kernel
theorem d_St_spellOutAll_23 : decode b_St_spellOutAll 23 = .ok (.bipush 10, 2) := by decide +kernel
theorem d_St_spellOutAll_25 : decode b_St_spellOutAll 25 = .ok (.aload_n 1, 1) := by decide +kernel
theorem d_St_spellOutAll_26 : decode b_St_spellOutAll 26 = .ok (.aload_n 0, 1) := by decide +kernel
theorem d_St_spellOutAll_27 : decode b_St_spellOutAll 27 = .ok (.getfield 18, 3) := by decide +kernel
theorem d_St_spellOutAll_30 : decode b_St_spellOutAll 30 = .ok (.invokevirtual 62, 3) := by decide +kernel
theorem d_St_spellOutAll_33 : decode b_St_spellOutAll 33 = .ok (.invokevirtual 73, 3) := by decide +kernel
theorem d_St_spellOutAll_36 : decode b_St_spellOutAll 36 = .ok (.return_, 1) := by decide +kernel
theorem d_St_addPicks_0 : decode b_St_addPicks 0 = .ok (.iconst 0, 1) := by decide +kernel
theorem d_St_addPicks_1 : decode b_St_addPicks 1 = .ok (.istore_n 3, 1) := by decide +kernel
theorem d_St_addPicks_2 : decode b_St_addPicks 2 = .ok (.iload_n 3, 1) := by decide +kernel
theorem d_St_addPicks_3 : decode b_St_addPicks 3 = .ok (.iload_n 2, 1) := by decide +kernel
theorem d_St_addPicks_4 : decode b_St_addPicks 4 = .ok (.if_icmp .ge 16, 3) := by decide +kernel
theorem d_St_addPicks_7 : decode b_St_addPicks 7 = .ok (.aload_n 0, 1) := by decide +kernel
theorem d_St_addPicks_8 : decode b_St_addPicks 8 = .ok (.iload_n 1, 1) := by decide +kernel
theorem d_St_addPicks_9 : decode b_St_addPicks 9 = .ok (.iload_n 3, 1) := by decide +kernel
theorem d_St_addPicks_10 : decode b_St_addPicks 10 = .ok (.iadd, 1) := by decide +kernel
theorem d_St_addPicks_11 : decode b_St_addPicks 11 = .ok (.invokevirtual 76, 3) := by decide +kernel
theorem d_St_addPicks_14 : decode b_St_addPicks 14 = .ok (.iinc 3 1, 3) := by decide +kernel
theorem d_St_addPicks_17 : decode b_St_addPicks 17 = .ok (.goto (-15), 3) := by decide +kernel
theorem d_St_addPicks_20 : decode b_St_addPicks 20 = .ok (.return_, 1) := by decide +kernel
theorem d_St_hasTotal_0 : decode b_St_hasTotal 0 = .ok (.aload_n 0, 1) := by decide +kernel
theorem d_St_hasTotal_1 : decode b_St_hasTotal 1 = .ok (.getfield 9, 3) := by decide +kernel
theorem d_St_hasTotal_4 : decode b_St_hasTotal 4 = .ok (.iconst 5, 1) := by decide +kernel
theorem d_St_hasTotal_5 : decode b_St_hasTotal 5 = .ok (.if_icmp .eq 12, 3) := by decide +kernel
theorem d_St_hasTotal_8 : decode b_St_hasTotal 8 = .ok (.aload_n 0, 1) := by decide +kernel
theorem d_St_hasTotal_9 : decode b_St_hasTotal 9 = .ok (.getfield 9, 3) := by decide +kernel
theorem d_St_hasTotal_12 : decode b_St_hasTotal 12 = .ok (.bipush 6, 2) := by decide +kernel
theorem d_St_hasTotal_14 : decode b_St_hasTotal 14 = .ok (.if_icmp .ne 7, 3) := by decide +kernel
theorem d_St_hasTotal_17 : decode b_St_hasTotal 17 = .ok (.iconst 1, 1) := by decide +kernel
theorem d_St_hasTotal_18 : decode b_St_hasTotal 18 = .ok (.goto 4, 3) := by decide +kernel
theorem d_St_hasTotal_21 : decode b_St_hasTotal 21 = .ok (.iconst 0, 1) := by decide +kernel
theorem d_St_hasTotal_22 : decode b_St_hasTotal 22 = .ok (.ireturn, 1) := by decide +kernel
theorem d_St_columnCount_0 : decode b_St_columnCount 0 = .ok (.aload_n 0, 1) := by decide +kernel
theorem d_St_columnCount_1 : decode b_St_columnCount 1 = .ok (.invokevirtual 80, 3) := by decide +kernel
theorem d_St_columnCount_4 : decode b_St_columnCount 4 = .ok (.ifCond .eq 7, 3) := by decide +kernel
theorem d_St_columnCount_7 : decode b_St_columnCount 7 = .ok (.iconst 1, 1) := by decide +kernel
theorem d_St_columnCount_8 : decode b_St_columnCount 8 = .ok (.goto 7, 3) := by decide +kernel
theorem d_St_columnCount_11 : decode b_St_columnCount 11 = .ok (.aload_n 0, 1) := by decide +kernel
theorem d_St_columnCount_12 : decode b_St_columnCount 12 = .ok (.getfield 40, 3) := by decide +kernel
theorem d_St_columnCount_15 : decode b_St_columnCount 15 = .ok (.ireturn, 1) := by decide +kernel
theorem d_St_holds_0 : decode b_St_holds 0 = .ok (.iconst 0, 1) := by decide +kernel
theorem d_St_holds_1 : decode b_St_holds 1 = .ok (.istore_n 2, 1) := by decide +kernel
theorem d_St_holds_2 : decode b_St_holds 2 = .ok (.iload_n 2, 1) := by decide +kernel
theorem d_St_holds_3 : decode b_St_holds 3 = .ok (.aload_n 0, 1) := by decide +kernel
theorem d_St_holds_4 : decode b_St_holds 4 = .ok (.getfield 46, 3) := by decide +kernel
theorem d_St_holds_7 : decode b_St_holds 7 = .ok (.if_icmp .ge 24, 3) := by decide +kernel
theorem d_St_holds_10 : decode b_St_holds 10 = .ok (.aload_n 0, 1) := by decide +kernel
theorem d_St_holds_11 : decode b_St_holds 11 = .ok (.getfield 33, 3) := by decide +kernel
theorem d_St_holds_14 : decode b_St_holds 14 = .ok (.iload_n 2, 1) := by decide +kernel
theorem d_St_holds_15 : decode b_St_holds 15 = .ok (.aaload, 1) := by decide +kernel
theorem d_St_holds_16 : decode b_St_holds 16 = .ok (.aload_n 1, 1) := by decide +kernel
theorem d_St_holds_17 : decode b_St_holds 17 = .ok (.invokevirtual 84, 3) := by decide +kernel
theorem d_St_holds_20 : decode b_St_holds 20 = .ok (.ifCond .ne 5, 3) := by decide +kernel
theorem d_St_holds_23 : decode b_St_holds 23 = .ok (.iconst 0, 1) := by decide +kernel
theorem d_St_holds_24 : decode b_St_holds 24 = .ok (.ireturn, 1) := by decide +kernel
theorem d_St_holds_25 : decode b_St_holds 25 = .ok (.iinc 2 1, 3) := by decide +kernel
theorem d_St_holds_28 : decode b_St_holds 28 = .ok (.goto (-26), 3) := by decide +kernel
theorem d_St_holds_31 : decode b_St_holds 31 = .ok (.iconst 1, 1) := by decide +kernel
theorem d_St_holds_32 : decode b_St_holds 32 = .ok (.ireturn, 1) := by decide +kernel
theorem d_Ta_init_0 : decode b_Ta_init 0 = .ok (.aload_n 0, 1) := by decide +kernel
theorem d_Ta_init_1 : decode b_Ta_init 1 = .ok (.invokespecial 3, 3) := by decide +kernel
theorem d_Ta_init_4 : decode b_Ta_init 4 = .ok (.aload_n 0, 1) := by decide +kernel
theorem d_Ta_init_5 : decode b_Ta_init 5 = .ok (.sipush 2400, 3) := by decide +kernel
theorem d_Ta_init_8 : decode b_Ta_init 8 = .ok (.newarray .int, 2) := by decide +kernel
theorem d_Ta_init_10 : decode b_Ta_init 10 = .ok (.putfield 9, 3) := by decide +kernel
theorem d_Ta_init_13 : decode b_Ta_init 13 = .ok (.aload_n 0, 1) := by decide +kernel
theorem d_Ta_init_14 : decode b_Ta_init 14 = .ok (.bipush 10, 2) := by decide +kernel
theorem d_Ta_init_16 : decode b_Ta_init 16 = .ok (.newarray .int, 2) := by decide +kernel
theorem d_Ta_init_18 : decode b_Ta_init 18 = .ok (.putfield 15, 3) := by decide +kernel
theorem d_Ta_init_21 : decode b_Ta_init 21 = .ok (.aload_n 0, 1) := by decide +kernel
theorem d_Ta_init_22 : decode b_Ta_init 22 = .ok (.bipush 11, 2) := by decide +kernel
theorem d_Ta_init_24 : decode b_Ta_init 24 = .ok (.newarray .int, 2) := by decide +kernel
theorem d_Ta_init_26 : decode b_Ta_init 26 = .ok (.putfield 18, 3) := by decide +kernel
theorem d_Ta_init_29 : decode b_Ta_init 29 = .ok (.return_, 1) := by decide +kernel
theorem d_Ta_isThere_0 : decode b_Ta_isThere 0 = .ok (.aload_n 0, 1) := by decide +kernel
theorem d_Ta_isThere_1 : decode b_Ta_isThere 1 = .ok (.iload_n 1, 1) := by decide +kernel
theorem d_Ta_isThere_2 : decode b_Ta_isThere 2 = .ok (.invokevirtual 21, 3) := by decide +kernel
theorem d_Ta_isThere_5 : decode b_Ta_isThere 5 = .ok (.ifCond .le 7, 3) := by decide +kernel
theorem d_Ta_isThere_8 : decode b_Ta_isThere 8 = .ok (.iconst 1, 1) := by decide +kernel
theorem d_Ta_isThere_9 : decode b_Ta_isThere 9 = .ok (.goto 4, 3) := by decide +kernel
theorem d_Ta_isThere_12 : decode b_Ta_isThere 12 = .ok (.iconst 0, 1) := by decide +kernel
theorem d_Ta_isThere_13 : decode b_Ta_isThere 13 = .ok (.ireturn, 1) := by decide +kernel
theorem d_Ta_columnsOf_0 : decode b_Ta_columnsOf 0 = .ok (.iload_n 1, 1) := by decide +kernel
theorem d_Ta_columnsOf_1 : decode b_Ta_columnsOf 1 = .ok (.ifCond .lt 18, 3) := by decide +kernel
theorem d_Ta_columnsOf_4 : decode b_Ta_columnsOf 4 = .ok (.iload_n 1, 1) := by decide +kernel
theorem d_Ta_columnsOf_5 : decode b_Ta_columnsOf 5 = .ok (.bipush 10, 2) := by decide +kernel
theorem d_Ta_columnsOf_7 : decode b_Ta_columnsOf 7 = .ok (.if_icmp .ge 12, 3) := by decide +kernel
theorem d_Ta_columnsOf_10 : decode b_Ta_columnsOf 10 = .ok (.aload_n 0, 1) := by decide +kernel
theorem d_Ta_columnsOf_11 : decode b_Ta_columnsOf 11 = .ok (.getfield 15, 3) := by decide +kernel
theorem d_Ta_columnsOf_14 : decode b_Ta_columnsOf 14 = .ok (.iload_n 1, 1) := by decide +kernel
theorem d_Ta_columnsOf_15 : decode b_Ta_columnsOf 15 = .ok (.iaload, 1) := by decide +kernel
theorem d_Ta_columnsOf_16 : decode b_Ta_columnsOf 16 = .ok (.goto 4, 3) := by decide +kernel
theorem d_Ta_columnsOf_19 : decode b_Ta_columnsOf 19 = .ok (.iconst 0, 1) := by decide +kernel
theorem d_Ta_columnsOf_20 : decode b_Ta_columnsOf 20 = .ok (.ireturn, 1) := by decide +kernel
theorem d_Ta_rowsOf_0 : decode b_Ta_rowsOf 0 = .ok (.iload_n 1, 1) := by decide +kernel
theorem d_Ta_rowsOf_1 : decode b_Ta_rowsOf 1 = .ok (.ifCond .lt 27, 3) := by decide +kernel
theorem d_Ta_rowsOf_4 : decode b_Ta_rowsOf 4 = .ok (.iload_n 1, 1) := by decide +kernel
theorem d_Ta_rowsOf_5 : decode b_Ta_rowsOf 5 = .ok (.bipush 10, 2) := by decide +kernel
theorem d_Ta_rowsOf_7 : decode b_Ta_rowsOf 7 = .ok (.if_icmp .ge 21, 3) := by decide +kernel
theorem d_Ta_rowsOf_10 : decode b_Ta_rowsOf 10 = .ok (.aload_n 0, 1) := by decide +kernel
theorem d_Ta_rowsOf_11 : decode b_Ta_rowsOf 11 = .ok (.getfield 18, 3) := by decide +kernel
theorem d_Ta_rowsOf_14 : decode b_Ta_rowsOf 14 = .ok (.iload_n 1, 1) := by decide +kernel
theorem d_Ta_rowsOf_15 : decode b_Ta_rowsOf 15 = .ok (.iconst 1, 1) := by decide +kernel
theorem d_Ta_rowsOf_16 : decode b_Ta_rowsOf 16 = .ok (.iadd, 1) := by decide +kernel
theorem d_Ta_rowsOf_17 : decode b_Ta_rowsOf 17 = .ok (.iaload, 1) := by decide +kernel
theorem d_Ta_rowsOf_18 : decode b_Ta_rowsOf 18 = .ok (.aload_n 0, 1) := by decide +kernel
theorem d_Ta_rowsOf_19 : decode b_Ta_rowsOf 19 = .ok (.getfield 18, 3) := by decide +kernel
theorem d_Ta_rowsOf_22 : decode b_Ta_rowsOf 22 = .ok (.iload_n 1, 1) := by decide +kernel
theorem d_Ta_rowsOf_23 : decode b_Ta_rowsOf 23 = .ok (.iaload, 1) := by decide +kernel
theorem d_Ta_rowsOf_24 : decode b_Ta_rowsOf 24 = .ok (.isub, 1) := by decide +kernel
theorem d_Ta_rowsOf_25 : decode b_Ta_rowsOf 25 = .ok (.goto 4, 3) := by decide +kernel
theorem d_Ta_rowsOf_28 : decode b_Ta_rowsOf 28 = .ok (.iconst 0, 1) := by decide +kernel
theorem d_Ta_rowsOf_29 : decode b_Ta_rowsOf 29 = .ok (.ireturn, 1) := by decide +kernel
theorem d_Ta_rowsInAll_0 : decode b_Ta_rowsInAll 0 = .ok (.aload_n 0, 1) := by decide +kernel
theorem d_Ta_rowsInAll_1 : decode b_Ta_rowsInAll 1 = .ok (.getfield 18, 3) := by decide +kernel
theorem d_Ta_rowsInAll_4 : decode b_Ta_rowsInAll 4 = .ok (.bipush 10, 2) := by decide +kernel
theorem d_Ta_rowsInAll_6 : decode b_Ta_rowsInAll 6 = .ok (.iaload, 1) := by decide +kernel
theorem d_Ta_rowsInAll_7 : decode b_Ta_rowsInAll 7 = .ok (.ireturn, 1) := by decide +kernel
theorem d_Ta_cellOf_0 : decode b_Ta_cellOf 0 = .ok (.aload_n 0, 1) := by decide +kernel
theorem d_Ta_cellOf_1 : decode b_Ta_cellOf 1 = .ok (.getfield 18, 3) := by decide +kernel
theorem d_Ta_cellOf_4 : decode b_Ta_cellOf 4 = .ok (.iload_n 1, 1) := by decide +kernel
theorem d_Ta_cellOf_5 : decode b_Ta_cellOf 5 = .ok (.iaload, 1) := by decide +kernel
theorem d_Ta_cellOf_6 : decode b_Ta_cellOf 6 = .ok (.iload_n 2, 1) := by decide +kernel
theorem d_Ta_cellOf_7 : decode b_Ta_cellOf 7 = .ok (.iadd, 1) := by decide +kernel
theorem d_Ta_cellOf_8 : decode b_Ta_cellOf 8 = .ok (.bipush 6, 2) := by decide +kernel
theorem d_Ta_cellOf_10 : decode b_Ta_cellOf 10 = .ok (.imul, 1) := by decide +kernel
theorem d_Ta_cellOf_11 : decode b_Ta_cellOf 11 = .ok (.ireturn, 1) := by decide +kernel
theorem d_Ta_keyAt_0 : decode b_Ta_keyAt 0 = .ok (.aload_n 0, 1) := by decide +kernel
theorem d_Ta_keyAt_1 : decode b_Ta_keyAt 1 = .ok (.getfield 9, 3) := by decide +kernel
theorem d_Ta_keyAt_4 : decode b_Ta_keyAt 4 = .ok (.aload_n 0, 1) := by decide +kernel
theorem d_Ta_keyAt_5 : decode b_Ta_keyAt 5 = .ok (.iload_n 1, 1) := by decide +kernel
theorem d_Ta_keyAt_6 : decode b_Ta_keyAt 6 = .ok (.iload_n 2, 1) := by decide +kernel
theorem d_Ta_keyAt_7 : decode b_Ta_keyAt 7 = .ok (.invokevirtual 25, 3) := by decide +kernel
theorem d_Ta_keyAt_10 : decode b_Ta_keyAt 10 = .ok (.iaload, 1) := by decide +kernel
theorem d_Ta_keyAt_11 : decode b_Ta_keyAt 11 = .ok (.ireturn, 1) := by decide +kernel
theorem d_Ta_read_0 : decode b_Ta_read 0 = .ok (.aload_n 0, 1) := by decide +kernel
theorem d_Ta_read_1 : decode b_Ta_read 1 = .ok (.getfield 9, 3) := by decide +kernel
theorem d_Ta_read_4 : decode b_Ta_read 4 = .ok (.aload_n 0, 1) := by decide +kernel
theorem d_Ta_read_5 : decode b_Ta_read 5 = .ok (.iload_n 1, 1) := by decide +kernel
theorem d_Ta_read_6 : decode b_Ta_read 6 = .ok (.iload_n 2, 1) := by decide +kernel
theorem d_Ta_read_7 : decode b_Ta_read 7 = .ok (.invokevirtual 25, 3) := by decide +kernel
theorem d_Ta_read_10 : decode b_Ta_read 10 = .ok (.aload_n 3, 1) := by decide +kernel
theorem d_Ta_read_11 : decode b_Ta_read 11 = .ok (.iload 4, 2) := by decide +kernel
theorem d_Ta_read_13 : decode b_Ta_read 13 = .ok (.bipush 6, 2) := by decide +kernel
theorem d_Ta_read_15 : decode b_Ta_read 15 = .ok (.invokestatic 29, 3) := by decide +kernel
theorem d_Ta_read_18 : decode b_Ta_read 18 = .ok (.return_, 1) := by decide +kernel
theorem d_Ta_placeNotBelow_0 : decode b_Ta_placeNotBelow 0 = .ok (.aload_n 0, 1) := by decide +kernel
theorem d_Ta_placeNotBelow_1 : decode b_Ta_placeNotBelow 1 = .ok (.iload_n 1, 1) := by decide +kernel
theorem d_Ta_placeNotBelow_2 : decode b_Ta_placeNotBelow 2 = .ok (.invokevirtual 35, 3) := by decide +kernel
theorem d_Ta_placeNotBelow_5 : decode b_Ta_placeNotBelow 5 = .ok (.istore_n 3, 1) := by decide +kernel
theorem d_Ta_placeNotBelow_6 : decode b_Ta_placeNotBelow 6 = .ok (.iconst 0, 1) := by decide +kernel
theorem d_Ta_placeNotBelow_7 : decode b_Ta_placeNotBelow 7 = .ok (.istore 4, 2) := by decide +kernel
theorem d_Ta_placeNotBelow_9 : decode b_Ta_placeNotBelow 9 = .ok (.iload 4, 2) := by decide +kernel
theorem d_Ta_placeNotBelow_11 : decode b_Ta_placeNotBelow 11 = .ok (.iload_n 3, 1) := by decide +kernel
theorem d_Ta_placeNotBelow_12 : decode b_Ta_placeNotBelow 12 = .ok (.if_icmp .ge 20, 3) := by decide +kernel
theorem d_Ta_placeNotBelow_15 : decode b_Ta_placeNotBelow 15 = .ok (.aload_n 0, 1) := by decide +kernel
theorem d_Ta_placeNotBelow_16 : decode b_Ta_placeNotBelow 16 = .ok (.iload_n 1, 1) := by decide +kernel
theorem d_Ta_placeNotBelow_17 : decode b_Ta_placeNotBelow 17 = .ok (.iload 4, 2) := by decide +kernel
theorem d_Ta_placeNotBelow_19 : decode b_Ta_placeNotBelow 19 = .ok (.invokevirtual 38, 3) := by decide +kernel
theorem d_Ta_placeNotBelow_22 : decode b_Ta_placeNotBelow 22 = .ok (.iload_n 2, 1) := by decide +kernel
theorem d_Ta_placeNotBelow_23 : decode b_Ta_placeNotBelow 23 = .ok (.if_icmp .ge 9, 3) := by decide +kernel
theorem d_Ta_placeNotBelow_26 : decode b_Ta_placeNotBelow 26 = .ok (.iinc 4 1, 3) := by decide +kernel
theorem d_Ta_placeNotBelow_29 : decode b_Ta_placeNotBelow 29 = .ok (.goto (-20), 3) := by decide +kernel
theorem d_Ta_placeNotBelow_32 : decode b_Ta_placeNotBelow 32 = .ok (.iload 4, 2) := by decide +kernel
theorem d_Ta_placeNotBelow_34 : decode b_Ta_placeNotBelow 34 = .ok (.ireturn, 1) := by decide +kernel
theorem d_Ta_hasKeyAt_0 : decode b_Ta_hasKeyAt 0 = .ok (.iload_n 2, 1) := by decide +kernel
theorem d_Ta_hasKeyAt_1 : decode b_Ta_hasKeyAt 1 = .ok (.aload_n 0, 1) := by decide +kernel
theorem d_Ta_hasKeyAt_2 : decode b_Ta_hasKeyAt 2 = .ok (.iload_n 1, 1) := by decide +kernel
theorem d_Ta_hasKeyAt_3 : decode b_Ta_hasKeyAt 3 = .ok (.invokevirtual 35, 3) := by decide +kernel
theorem d_Ta_hasKeyAt_6 : decode b_Ta_hasKeyAt 6 = .ok (.if_icmp .ge 17, 3) := by decide +kernel
theorem d_Ta_hasKeyAt_9 : decode b_Ta_hasKeyAt 9 = .ok (.aload_n 0, 1) := by decide +kernel
theorem d_Ta_hasKeyAt_10 : decode b_Ta_hasKeyAt 10 = .ok (.iload_n 1, 1) := by decide +kernel
theorem d_Ta_hasKeyAt_11 : decode b_Ta_hasKeyAt 11 = .ok (.iload_n 2, 1) := by decide +kernel
theorem d_Ta_hasKeyAt_12 : decode b_Ta_hasKeyAt 12 = .ok (.invokevirtual 38, 3) := by decide +kernel
theorem d_Ta_hasKeyAt_15 : decode b_Ta_hasKeyAt 15 = .ok (.iload_n 3, 1) := by decide +kernel
theorem d_Ta_hasKeyAt_16 : decode b_Ta_hasKeyAt 16 = .ok (.if_icmp .ne 7, 3) := by decide +kernel
theorem d_Ta_hasKeyAt_19 : decode b_Ta_hasKeyAt 19 = .ok (.iconst 1, 1) := by decide +kernel
theorem d_Ta_hasKeyAt_20 : decode b_Ta_hasKeyAt 20 = .ok (.goto 4, 3) := by decide +kernel
theorem d_Ta_hasKeyAt_23 : decode b_Ta_hasKeyAt 23 = .ok (.iconst 0, 1) := by decide +kernel
theorem d_Ta_hasKeyAt_24 : decode b_Ta_hasKeyAt 24 = .ok (.ireturn, 1) := by decide +kernel
theorem d_Ta_placeNearest_0 : decode b_Ta_placeNearest 0 = .ok (.aload_n 0, 1) := by decide +kernel
theorem d_Ta_placeNearest_1 : decode b_Ta_placeNearest 1 = .ok (.iload_n 1, 1) := by decide +kernel
theorem d_Ta_placeNearest_2 : decode b_Ta_placeNearest 2 = .ok (.iload_n 2, 1) := by decide +kernel
theorem d_Ta_placeNearest_3 : decode b_Ta_placeNearest 3 = .ok (.invokevirtual 41, 3) := by decide +kernel
theorem d_Ta_placeNearest_6 : decode b_Ta_placeNearest 6 = .ok (.istore 4, 2) := by decide +kernel
theorem d_Ta_placeNearest_8 : decode b_Ta_placeNearest 8 = .ok (.iload_n 3, 1) := by decide +kernel
theorem d_Ta_placeNearest_9 : decode b_Ta_placeNearest 9 = .ok (.ifCond .eq 20, 3) := by decide +kernel
theorem d_Ta_placeNearest_12 : decode b_Ta_placeNearest 12 = .ok (.iload 4, 2) := by decide +kernel
theorem d_Ta_placeNearest_14 : decode b_Ta_placeNearest 14 = .ok (.aload_n 0, 1) := by decide +kernel
theorem d_Ta_placeNearest_15 : decode b_Ta_placeNearest 15 = .ok (.iload_n 1, 1) := by decide +kernel
theorem d_Ta_placeNearest_16 : decode b_Ta_placeNearest 16 = .ok (.invokevirtual 35, 3) := by decide +kernel
theorem d_Ta_placeNearest_19 : decode b_Ta_placeNearest 19 = .ok (.if_icmp .ge 8, 3) := by decide +kernel
theorem d_Ta_placeNearest_22 : decode b_Ta_placeNearest 22 = .ok (.iload 4, 2) := by decide +kernel
theorem d_Ta_placeNearest_24 : decode b_Ta_placeNearest 24 = .ok (.goto 4, 3) := by decide +kernel
theorem d_Ta_placeNearest_27 : decode b_Ta_placeNearest 27 = .ok (.iconst (-1), 1) := by decide +kernel
theorem d_Ta_placeNearest_28 : decode b_Ta_placeNearest 28 = .ok (.ireturn, 1) := by decide +kernel
theorem d_Ta_placeNearest_29 : decode b_Ta_placeNearest 29 = .ok (.aload_n 0, 1) := by decide +kernel
theorem d_Ta_placeNearest_30 : decode b_Ta_placeNearest 30 = .ok (.iload_n 1, 1) := by decide +kernel
theorem d_Ta_placeNearest_31 : decode b_Ta_placeNearest 31 = .ok (.iload 4, 2) := by decide +kernel
theorem d_Ta_placeNearest_33 : decode b_Ta_placeNearest 33 = .ok (.iload_n 2, 1) := by decide +kernel
theorem d_Ta_placeNearest_34 : decode b_Ta_placeNearest 34 = .ok (.invokevirtual 44, 3) := by decide +kernel
theorem d_Ta_placeNearest_37 : decode b_Ta_placeNearest 37 = .ok (.ifCond .eq 6, 3) := by decide +kernel
theorem d_Ta_placeNearest_40 : decode b_Ta_placeNearest 40 = .ok (.iload 4, 2) := by decide +kernel
theorem d_Ta_placeNearest_42 : decode b_Ta_placeNearest 42 = .ok (.ireturn, 1) := by decide +kernel
theorem d_Ta_placeNearest_43 : decode b_Ta_placeNearest 43 = .ok (.iload 4, 2) := by decide +kernel
theorem d_Ta_placeNearest_45 : decode b_Ta_placeNearest 45 = .ok (.ifCond .le 10, 3) := by decide +kernel
theorem d_Ta_placeNearest_48 : decode b_Ta_placeNearest 48 = .ok (.iload 4, 2) := by decide +kernel
theorem d_Ta_placeNearest_50 : decode b_Ta_placeNearest 50 = .ok (.iconst 1, 1) := by decide +kernel
theorem d_Ta_placeNearest_51 : decode b_Ta_placeNearest 51 = .ok (.isub, 1) := by decide +kernel
theorem d_Ta_placeNearest_52 : decode b_Ta_placeNearest 52 = .ok (.goto 4, 3) := by decide +kernel
theorem d_Ta_placeNearest_55 : decode b_Ta_placeNearest 55 = .ok (.iconst (-1), 1) := by decide +kernel
theorem d_Ta_placeNearest_56 : decode b_Ta_placeNearest 56 = .ok (.ireturn, 1) := by decide +kernel
theorem d_Ta_create_0 : decode b_Ta_create 0 = .ok (.aload_n 0, 1) := by decide +kernel
theorem d_Ta_create_1 : decode b_Ta_create 1 = .ok (.iload_n 1, 1) := by decide +kernel
theorem d_Ta_create_2 : decode b_Ta_create 2 = .ok (.invokevirtual 48, 3) := by decide +kernel
theorem d_Ta_create_5 : decode b_Ta_create 5 = .ok (.ifCond .eq 6, 3) := by decide +kernel
theorem d_Ta_create_8 : decode b_Ta_create 8 = .ok (.bipush (-3), 2) := by decide +kernel
theorem d_Ta_create_10 : decode b_Ta_create 10 = .ok (.ireturn, 1) := by decide +kernel
theorem d_Ta_create_11 : decode b_Ta_create 11 = .ok (.aload_n 0, 1) := by decide +kernel
theorem d_Ta_create_12 : decode b_Ta_create 12 = .ok (.getfield 15, 3) := by decide +kernel
theorem d_Ta_create_15 : decode b_Ta_create 15 = .ok (.iload_n 1, 1) := by decide +kernel
theorem d_Ta_create_16 : decode b_Ta_create 16 = .ok (.iload_n 2, 1) := by decide +kernel
theorem d_Ta_create_17 : decode b_Ta_create 17 = .ok (.iastore, 1) := by decide +kernel
theorem d_Ta_create_18 : decode b_Ta_create 18 = .ok (.iconst 0, 1) := by decide +kernel
theorem d_Ta_create_19 : decode b_Ta_create 19 = .ok (.ireturn, 1) := by decide +kernel
theorem d_Ta_insert_0 : decode b_Ta_insert 0 = .ok (.aload_n 0, 1) := by decide +kernel
theorem d_Ta_insert_1 : decode b_Ta_insert 1 = .ok (.iload_n 1, 1) := by decide +kernel
theorem d_Ta_insert_2 : decode b_Ta_insert 2 = .ok (.aload_n 2, 1) := by decide +kernel
theorem d_Ta_insert_3 : decode b_Ta_insert 3 = .ok (.iconst 0, 1) := by decide +kernel
theorem d_Ta_insert_4 : decode b_Ta_insert 4 = .ok (.iaload, 1) := by decide +kernel
theorem d_Ta_insert_5 : decode b_Ta_insert 5 = .ok (.invokevirtual 41, 3) := by decide +kernel
theorem d_Ta_insert_8 : decode b_Ta_insert 8 = .ok (.istore_n 3, 1) := by decide +kernel
theorem d_Ta_insert_9 : decode b_Ta_insert 9 = .ok (.aload_n 0, 1) := by decide +kernel
theorem d_Ta_insert_10 : decode b_Ta_insert 10 = .ok (.iload_n 1, 1) := by decide +kernel
theorem d_Ta_insert_11 : decode b_Ta_insert 11 = .ok (.iload_n 3, 1) := by decide +kernel
theorem d_Ta_insert_12 : decode b_Ta_insert 12 = .ok (.aload_n 2, 1) := by decide +kernel
theorem d_Ta_insert_13 : decode b_Ta_insert 13 = .ok (.iconst 0, 1) := by decide +kernel
theorem d_Ta_insert_14 : decode b_Ta_insert 14 = .ok (.iaload, 1) := by decide +kernel
theorem d_Ta_insert_15 : decode b_Ta_insert 15 = .ok (.invokevirtual 44, 3) := by decide +kernel
theorem d_Ta_insert_18 : decode b_Ta_insert 18 = .ok (.ifCond .eq 5, 3) := by decide +kernel
theorem d_Ta_insert_21 : decode b_Ta_insert 21 = .ok (.iconst (-1), 1) := by decide +kernel
theorem d_Ta_insert_22 : decode b_Ta_insert 22 = .ok (.ireturn, 1) := by decide +kernel
theorem d_Ta_insert_23 : decode b_Ta_insert 23 = .ok (.aload_n 0, 1) := by decide +kernel
theorem d_Ta_insert_24 : decode b_Ta_insert 24 = .ok (.invokevirtual 52, 3) := by decide +kernel
theorem d_Ta_insert_27 : decode b_Ta_insert 27 = .ok (.sipush 400, 3) := by decide +kernel
theorem d_Ta_insert_30 : decode b_Ta_insert 30 = .ok (.if_icmp .lt 6, 3) := by decide +kernel
theorem d_Ta_insert_33 : decode b_Ta_insert 33 = .ok (.bipush (-2), 2) := by decide +kernel
theorem d_Ta_insert_35 : decode b_Ta_insert 35 = .ok (.ireturn, 1) := by decide +kernel
theorem d_Ta_insert_36 : decode b_Ta_insert 36 = .ok (.aload_n 0, 1) := by decide +kernel
theorem d_Ta_insert_37 : decode b_Ta_insert 37 = .ok (.iload_n 1, 1) := by decide +kernel
theorem d_Ta_insert_38 : decode b_Ta_insert 38 = .ok (.iload_n 3, 1) := by decide +kernel
theorem d_Ta_insert_39 : decode b_Ta_insert 39 = .ok (.invokevirtual 25, 3) := by decide +kernel
theorem d_Ta_insert_42 : decode b_Ta_insert 42 = .ok (.istore 4, 2) := by decide +kernel
theorem d_Ta_insert_44 : decode b_Ta_insert 44 = .ok (.aload_n 0, 1) := by decide +kernel
theorem d_Ta_insert_45 : decode b_Ta_insert 45 = .ok (.getfield 9, 3) := by decide +kernel
theorem d_Ta_insert_48 : decode b_Ta_insert 48 = .ok (.iload 4, 2) := by decide +kernel
theorem d_Ta_insert_50 : decode b_Ta_insert 50 = .ok (.aload_n 0, 1) := by decide +kernel
theorem d_Ta_insert_51 : decode b_Ta_insert 51 = .ok (.getfield 9, 3) := by decide +kernel
theorem d_Ta_insert_54 : decode b_Ta_insert 54 = .ok (.iload 4, 2) := by decide +kernel
theorem d_Ta_insert_56 : decode b_Ta_insert 56 = .ok (.bipush 6, 2) := by decide +kernel
theorem d_Ta_insert_58 : decode b_Ta_insert 58 = .ok (.iadd, 1) := by decide +kernel
theorem d_Ta_insert_59 : decode b_Ta_insert 59 = .ok (.aload_n 0, 1) := by decide +kernel
theorem d_Ta_insert_60 : decode b_Ta_insert 60 = .ok (.invokevirtual 52, 3) := by decide +kernel
theorem d_Ta_insert_63 : decode b_Ta_insert 63 = .ok (.bipush 6, 2) := by decide +kernel
theorem d_Ta_insert_65 : decode b_Ta_insert 65 = .ok (.imul, 1) := by decide +kernel
theorem d_Ta_insert_66 : decode b_Ta_insert 66 = .ok (.iload 4, 2) := by decide +kernel
theorem d_Ta_insert_68 : decode b_Ta_insert 68 = .ok (.isub, 1) := by decide +kernel
theorem d_Ta_insert_69 : decode b_Ta_insert 69 = .ok (.invokestatic 29, 3) := by decide +kernel
theorem d_Ta_insert_72 : decode b_Ta_insert 72 = .ok (.aload_n 2, 1) := by decide +kernel
theorem d_Ta_insert_73 : decode b_Ta_insert 73 = .ok (.iconst 0, 1) := by decide +kernel
theorem d_Ta_insert_74 : decode b_Ta_insert 74 = .ok (.aload_n 0, 1) := by decide +kernel
theorem d_Ta_insert_75 : decode b_Ta_insert 75 = .ok (.getfield 9, 3) := by decide +kernel
theorem d_Ta_insert_78 : decode b_Ta_insert 78 = .ok (.iload 4, 2) := by decide +kernel
theorem d_Ta_insert_80 : decode b_Ta_insert 80 = .ok (.bipush 6, 2) := by decide +kernel
theorem d_Ta_insert_82 : decode b_Ta_insert 82 = .ok (.invokestatic 29, 3) := by decide +kernel
theorem d_Ta_insert_85 : decode b_Ta_insert 85 = .ok (.aload_n 0, 1) := by decide +kernel
theorem d_Ta_insert_86 : decode b_Ta_insert 86 = .ok (.iload_n 1, 1) := by decide +kernel
theorem d_Ta_insert_87 : decode b_Ta_insert 87 = .ok (.iconst 1, 1) := by decide +kernel
theorem d_Ta_insert_88 : decode b_Ta_insert 88 = .ok (.invokevirtual 56, 3) := by decide +kernel
theorem d_Ta_insert_91 : decode b_Ta_insert 91 = .ok (.iconst 0, 1) := by decide +kernel
theorem d_Ta_insert_92 : decode b_Ta_insert 92 = .ok (.ireturn, 1) := by decide +kernel
end
section
theorem d_Ta_remove_0 : decode b_Ta_remove 0 = .ok (.aload_n 0, 1) := by decide +kernel
theorem d_Ta_remove_1 : decode b_Ta_remove 1 = .ok (.iload_n 1, 1) := by decide +kernel
theorem d_Ta_remove_2 : decode b_Ta_remove 2 = .ok (.iload_n 2, 1) := by decide +kernel
theorem d_Ta_remove_3 : decode b_Ta_remove 3 = .ok (.iconst 1, 1) := by decide +kernel
theorem d_Ta_remove_4 : decode b_Ta_remove 4 = .ok (.iadd, 1) := by decide +kernel
theorem d_Ta_remove_5 : decode b_Ta_remove 5 = .ok (.invokevirtual 25, 3) := by decide +kernel
theorem d_Ta_remove_8 : decode b_Ta_remove 8 = .ok (.istore_n 3, 1) := by decide +kernel
theorem d_Ta_remove_9 : decode b_Ta_remove 9 = .ok (.aload_n 0, 1) := by decide +kernel
theorem d_Ta_remove_10 : decode b_Ta_remove 10 = .ok (.getfield 9, 3) := by decide +kernel
theorem d_Ta_remove_13 : decode b_Ta_remove 13 = .ok (.iload_n 3, 1) := by decide +kernel
theorem d_Ta_remove_14 : decode b_Ta_remove 14 = .ok (.aload_n 0, 1) := by decide +kernel
theorem d_Ta_remove_15 : decode b_Ta_remove 15 = .ok (.getfield 9, 3) := by decide +kernel
theorem d_Ta_remove_18 : decode b_Ta_remove 18 = .ok (.iload_n 3, 1) := by decide +kernel
theorem d_Ta_remove_19 : decode b_Ta_remove 19 = .ok (.bipush 6, 2) := by decide +kernel
theorem d_Ta_remove_21 : decode b_Ta_remove 21 = .ok (.isub, 1) := by decide +kernel
theorem d_Ta_remove_22 : decode b_Ta_remove 22 = .ok (.aload_n 0, 1) := by decide +kernel
theorem d_Ta_remove_23 : decode b_Ta_remove 23 = .ok (.invokevirtual 52, 3) := by decide +kernel
theorem d_Ta_remove_26 : decode b_Ta_remove 26 = .ok (.bipush 6, 2) := by decide +kernel
theorem d_Ta_remove_28 : decode b_Ta_remove 28 = .ok (.imul, 1) := by decide +kernel
theorem d_Ta_remove_29 : decode b_Ta_remove 29 = .ok (.iload_n 3, 1) := by decide +kernel
theorem d_Ta_remove_30 : decode b_Ta_remove 30 = .ok (.isub, 1) := by decide +kernel
theorem d_Ta_remove_31 : decode b_Ta_remove 31 = .ok (.invokestatic 29, 3) := by decide +kernel
theorem d_Ta_remove_34 : decode b_Ta_remove 34 = .ok (.aload_n 0, 1) := by decide +kernel
theorem d_Ta_remove_35 : decode b_Ta_remove 35 = .ok (.iload_n 1, 1) := by decide +kernel
theorem d_Ta_remove_36 : decode b_Ta_remove 36 = .ok (.iconst (-1), 1) := by decide +kernel
theorem d_Ta_remove_37 : decode b_Ta_remove 37 = .ok (.invokevirtual 56, 3) := by decide +kernel
theorem d_Ta_remove_40 : decode b_Ta_remove 40 = .ok (.return_, 1) := by decide +kernel
theorem d_Ta_moveStartsBehind_0 : decode b_Ta_moveStartsBehind 0 = .ok (.iload_n 1, 1) := by decide +kernel
theorem d_Ta_moveStartsBehind_1 : decode b_Ta_moveStartsBehind 1 = .ok (.iconst 1, 1) := by decide +kernel
theorem d_Ta_moveStartsBehind_2 : decode b_Ta_moveStartsBehind 2 = .ok (.iadd, 1) := by decide +kernel
theorem d_Ta_moveStartsBehind_3 : decode b_Ta_moveStartsBehind 3 = .ok (.istore_n 3, 1) := by decide +kernel
theorem d_Ta_moveStartsBehind_4 : decode b_Ta_moveStartsBehind 4 = .ok (.iload_n 3, 1) := by decide +kernel
theorem d_Ta_moveStartsBehind_5 : decode b_Ta_moveStartsBehind 5 = .ok (.bipush 10, 2) := by decide +kernel
theorem d_Ta_moveStartsBehind_7 : decode b_Ta_moveStartsBehind 7 = .ok (.if_icmp .gt 19, 3) := by decide +kernel
theorem d_Ta_moveStartsBehind_10 : decode b_Ta_moveStartsBehind 10 = .ok (.aload_n 0, 1) := by decide +kernel
theorem d_Ta_moveStartsBehind_11 : decode b_Ta_moveStartsBehind 11 = .ok (.getfield 18, 3) := by decide +kernel
theorem d_Ta_moveStartsBehind_14 : decode b_Ta_moveStartsBehind 14 = .ok (.iload_n 3, 1) := by decide +kernel
theorem d_Ta_moveStartsBehind_15 : decode b_Ta_moveStartsBehind 15 = .ok (.dup2, 1) := by decide +kernel
theorem d_Ta_moveStartsBehind_16 : decode b_Ta_moveStartsBehind 16 = .ok (.iaload, 1) := by decide +kernel
theorem d_Ta_moveStartsBehind_17 : decode b_Ta_moveStartsBehind 17 = .ok (.iload_n 2, 1) := by decide +kernel
theorem d_Ta_moveStartsBehind_18 : decode b_Ta_moveStartsBehind 18 = .ok (.iadd, 1) := by decide +kernel
theorem d_Ta_moveStartsBehind_19 : decode b_Ta_moveStartsBehind 19 = .ok (.iastore, 1) := by decide +kernel
theorem d_Ta_moveStartsBehind_20 : decode b_Ta_moveStartsBehind 20 = .ok (.iinc 3 1, 3) := by decide +kernel
theorem d_Ta_moveStartsBehind_23 : decode b_Ta_moveStartsBehind 23 = .ok (.goto (-19), 3) := by decide +kernel
theorem d_Ta_moveStartsBehind_26 : decode b_Ta_moveStartsBehind 26 = .ok (.return_, 1) := by decide +kernel
theorem d_Ta_drop_0 : decode b_Ta_drop 0 = .ok (.iconst 0, 1) := by decide +kernel
theorem d_Ta_drop_1 : decode b_Ta_drop 1 = .ok (.istore_n 1, 1) := by decide +kernel
theorem d_Ta_drop_2 : decode b_Ta_drop 2 = .ok (.iload_n 1, 1) := by decide +kernel
theorem d_Ta_drop_3 : decode b_Ta_drop 3 = .ok (.bipush 10, 2) := by decide +kernel
theorem d_Ta_drop_5 : decode b_Ta_drop 5 = .ok (.if_icmp .ge 25, 3) := by decide +kernel
theorem d_Ta_drop_8 : decode b_Ta_drop 8 = .ok (.aload_n 0, 1) := by decide +kernel
theorem d_Ta_drop_9 : decode b_Ta_drop 9 = .ok (.getfield 15, 3) := by decide +kernel
theorem d_Ta_drop_12 : decode b_Ta_drop 12 = .ok (.iload_n 1, 1) := by decide +kernel
theorem d_Ta_drop_13 : decode b_Ta_drop 13 = .ok (.iconst 0, 1) := by decide +kernel
theorem d_Ta_drop_14 : decode b_Ta_drop 14 = .ok (.iastore, 1) := by decide +kernel
theorem d_Ta_drop_15 : decode b_Ta_drop 15 = .ok (.aload_n 0, 1) := by decide +kernel
theorem d_Ta_drop_16 : decode b_Ta_drop 16 = .ok (.getfield 18, 3) := by decide +kernel
theorem d_Ta_drop_19 : decode b_Ta_drop 19 = .ok (.iload_n 1, 1) := by decide +kernel
theorem d_Ta_drop_20 : decode b_Ta_drop 20 = .ok (.iconst 1, 1) := by decide +kernel
theorem d_Ta_drop_21 : decode b_Ta_drop 21 = .ok (.iadd, 1) := by decide +kernel
theorem d_Ta_drop_22 : decode b_Ta_drop 22 = .ok (.iconst 0, 1) := by decide +kernel
theorem d_Ta_drop_23 : decode b_Ta_drop 23 = .ok (.iastore, 1) := by decide +kernel
theorem d_Ta_drop_24 : decode b_Ta_drop 24 = .ok (.iinc 1 1, 3) := by decide +kernel
theorem d_Ta_drop_27 : decode b_Ta_drop 27 = .ok (.goto (-25), 3) := by decide +kernel
theorem d_Ta_drop_30 : decode b_Ta_drop 30 = .ok (.return_, 1) := by decide +kernel
theorem d_To_init_0 : decode b_To_init 0 = .ok (.aload_n 0, 1) := by decide +kernel
theorem d_To_init_1 : decode b_To_init 1 = .ok (.invokespecial 3, 3) := by decide +kernel
theorem d_To_init_4 : decode b_To_init 4 = .ok (.aload_n 0, 1) := by decide +kernel
theorem d_To_init_5 : decode b_To_init 5 = .ok (.bipush 60, 2) := by decide +kernel
theorem d_To_init_7 : decode b_To_init 7 = .ok (.newarray .int, 2) := by decide +kernel
theorem d_To_init_9 : decode b_To_init 9 = .ok (.putfield 9, 3) := by decide +kernel
theorem d_To_init_12 : decode b_To_init 12 = .ok (.aload_n 0, 1) := by decide +kernel
theorem d_To_init_13 : decode b_To_init 13 = .ok (.bipush 60, 2) := by decide +kernel
theorem d_To_init_15 : decode b_To_init 15 = .ok (.newarray .int, 2) := by decide +kernel
theorem d_To_init_17 : decode b_To_init 17 = .ok (.putfield 15, 3) := by decide +kernel
theorem d_To_init_20 : decode b_To_init 20 = .ok (.return_, 1) := by decide +kernel
theorem d_To_isToken_0 : decode b_To_isToken 0 = .ok (.iload_n 0, 1) := by decide +kernel
theorem d_To_isToken_1 : decode b_To_isToken 1 = .ok (.tableswitch 88 0 3 #[31, 47, 63, 86], 31) := by decide +kernel
theorem d_To_isToken_32 : decode b_To_isToken 32 = .ok (.iload_n 1, 1) := by decide +kernel
theorem d_To_isToken_33 : decode b_To_isToken 33 = .ok (.ifCond .lt 13, 3) := by decide +kernel
theorem d_To_isToken_36 : decode b_To_isToken 36 = .ok (.iload_n 1, 1) := by decide +kernel
theorem d_To_isToken_37 : decode b_To_isToken 37 = .ok (.bipush 13, 2) := by decide +kernel
theorem d_To_isToken_39 : decode b_To_isToken 39 = .ok (.if_icmp .gt 7, 3) := by decide +kernel
theorem d_To_isToken_42 : decode b_To_isToken 42 = .ok (.iconst 1, 1) := by decide +kernel
theorem d_To_isToken_43 : decode b_To_isToken 43 = .ok (.goto 4, 3) := by decide +kernel
theorem d_To_isToken_46 : decode b_To_isToken 46 = .ok (.iconst 0, 1) := by decide +kernel
theorem d_To_isToken_47 : decode b_To_isToken 47 = .ok (.ireturn, 1) := by decide +kernel
theorem d_To_isToken_48 : decode b_To_isToken 48 = .ok (.iload_n 1, 1) := by decide +kernel
theorem d_To_isToken_49 : decode b_To_isToken 49 = .ok (.ifCond .lt 13, 3) := by decide +kernel
theorem d_To_isToken_52 : decode b_To_isToken 52 = .ok (.iload_n 1, 1) := by decide +kernel
theorem d_To_isToken_53 : decode b_To_isToken 53 = .ok (.bipush 10, 2) := by decide +kernel
theorem d_To_isToken_55 : decode b_To_isToken 55 = .ok (.if_icmp .ge 7, 3) := by decide +kernel
theorem d_To_isToken_58 : decode b_To_isToken 58 = .ok (.iconst 1, 1) := by decide +kernel
theorem d_To_isToken_59 : decode b_To_isToken 59 = .ok (.goto 4, 3) := by decide +kernel
theorem d_To_isToken_62 : decode b_To_isToken 62 = .ok (.iconst 0, 1) := by decide +kernel
theorem d_To_isToken_63 : decode b_To_isToken 63 = .ok (.ireturn, 1) := by decide +kernel
theorem d_To_isToken_64 : decode b_To_isToken 64 = .ok (.iconst 0, 1) := by decide +kernel
theorem d_To_isToken_65 : decode b_To_isToken 65 = .ok (.iload_n 1, 1) := by decide +kernel
theorem d_To_isToken_66 : decode b_To_isToken 66 = .ok (.invokestatic 18, 3) := by decide +kernel
theorem d_To_isToken_69 : decode b_To_isToken 69 = .ok (.ifCond .ne 12, 3) := by decide +kernel
theorem d_To_isToken_72 : decode b_To_isToken 72 = .ok (.bipush 10, 2) := by decide +kernel
theorem d_To_isToken_74 : decode b_To_isToken 74 = .ok (.iload_n 1, 1) := by decide +kernel
theorem d_To_isToken_75 : decode b_To_isToken 75 = .ok (.invokestatic 18, 3) := by decide +kernel
theorem d_To_isToken_78 : decode b_To_isToken 78 = .ok (.ifCond .eq 7, 3) := by decide +kernel
theorem d_To_isToken_81 : decode b_To_isToken 81 = .ok (.iconst 1, 1) := by decide +kernel
theorem d_To_isToken_82 : decode b_To_isToken 82 = .ok (.goto 4, 3) := by decide +kernel
theorem d_To_isToken_85 : decode b_To_isToken 85 = .ok (.iconst 0, 1) := by decide +kernel
theorem d_To_isToken_86 : decode b_To_isToken 86 = .ok (.ireturn, 1) := by decide +kernel
theorem d_To_isToken_87 : decode b_To_isToken 87 = .ok (.iconst 1, 1) := by decide +kernel
theorem d_To_isToken_88 : decode b_To_isToken 88 = .ok (.ireturn, 1) := by decide +kernel
theorem d_To_isToken_89 : decode b_To_isToken 89 = .ok (.iconst 0, 1) := by decide +kernel
theorem d_To_isToken_90 : decode b_To_isToken 90 = .ok (.ireturn, 1) := by decide +kernel
theorem d_To_isColumnFrom_0 : decode b_To_isColumnFrom 0 = .ok (.iload_n 1, 1) := by decide +kernel
theorem d_To_isColumnFrom_1 : decode b_To_isColumnFrom 1 = .ok (.iload_n 0, 1) := by decide +kernel
theorem d_To_isColumnFrom_2 : decode b_To_isColumnFrom 2 = .ok (.if_icmp .lt 15, 3) := by decide +kernel
theorem d_To_isColumnFrom_5 : decode b_To_isColumnFrom 5 = .ok (.iload_n 1, 1) := by decide +kernel
theorem d_To_isColumnFrom_6 : decode b_To_isColumnFrom 6 = .ok (.iload_n 0, 1) := by decide +kernel
theorem d_To_isColumnFrom_7 : decode b_To_isColumnFrom 7 = .ok (.bipush 6, 2) := by decide +kernel
theorem d_To_isColumnFrom_9 : decode b_To_isColumnFrom 9 = .ok (.iadd, 1) := by decide +kernel
theorem d_To_isColumnFrom_10 : decode b_To_isColumnFrom 10 = .ok (.if_icmp .ge 7, 3) := by decide +kernel
theorem d_To_isColumnFrom_13 : decode b_To_isColumnFrom 13 = .ok (.iconst 1, 1) := by decide +kernel
theorem d_To_isColumnFrom_14 : decode b_To_isColumnFrom 14 = .ok (.goto 4, 3) := by decide +kernel
theorem d_To_isColumnFrom_17 : decode b_To_isColumnFrom 17 = .ok (.iconst 0, 1) := by decide +kernel
theorem d_To_isColumnFrom_18 : decode b_To_isColumnFrom 18 = .ok (.ireturn, 1) := by decide +kernel
theorem d_To_isFull_0 : decode b_To_isFull 0 = .ok (.aload_n 0, 1) := by decide +kernel
theorem d_To_isFull_1 : decode b_To_isFull 1 = .ok (.getfield 22, 3) := by decide +kernel
theorem d_To_isFull_4 : decode b_To_isFull 4 = .ok (.bipush 60, 2) := by decide +kernel
theorem d_To_isFull_6 : decode b_To_isFull 6 = .ok (.if_icmp .lt 7, 3) := by decide +kernel
theorem d_To_isFull_9 : decode b_To_isFull 9 = .ok (.iconst 1, 1) := by decide +kernel
theorem d_To_isFull_10 : decode b_To_isFull 10 = .ok (.goto 4, 3) := by decide +kernel
theorem d_To_isFull_13 : decode b_To_isFull 13 = .ok (.iconst 0, 1) := by decide +kernel
theorem d_To_isFull_14 : decode b_To_isFull 14 = .ok (.ireturn, 1) := by decide +kernel
theorem d_To_put_0 : decode b_To_put 0 = .ok (.aload_n 0, 1) := by decide +kernel
theorem d_To_put_1 : decode b_To_put 1 = .ok (.invokevirtual 26, 3) := by decide +kernel
theorem d_To_put_4 : decode b_To_put 4 = .ok (.ifCond .eq 4, 3) := by decide +kernel
theorem d_To_put_7 : decode b_To_put 7 = .ok (.return_, 1) := by decide +kernel
theorem d_To_put_8 : decode b_To_put 8 = .ok (.aload_n 0, 1) := by decide +kernel
theorem d_To_put_9 : decode b_To_put 9 = .ok (.getfield 9, 3) := by decide +kernel
theorem d_To_put_12 : decode b_To_put 12 = .ok (.aload_n 0, 1) := by decide +kernel
theorem d_To_put_13 : decode b_To_put 13 = .ok (.getfield 22, 3) := by decide +kernel
theorem d_To_put_16 : decode b_To_put 16 = .ok (.iload_n 1, 1) := by decide +kernel
theorem d_To_put_17 : decode b_To_put 17 = .ok (.iastore, 1) := by decide +kernel
theorem d_To_put_18 : decode b_To_put 18 = .ok (.aload_n 0, 1) := by decide +kernel
theorem d_To_put_19 : decode b_To_put 19 = .ok (.getfield 15, 3) := by decide +kernel
theorem d_To_put_22 : decode b_To_put 22 = .ok (.aload_n 0, 1) := by decide +kernel
theorem d_To_put_23 : decode b_To_put 23 = .ok (.getfield 22, 3) := by decide +kernel
theorem d_To_put_26 : decode b_To_put 26 = .ok (.iload_n 2, 1) := by decide +kernel
theorem d_To_put_27 : decode b_To_put 27 = .ok (.iastore, 1) := by decide +kernel
theorem d_To_put_28 : decode b_To_put 28 = .ok (.aload_n 0, 1) := by decide +kernel
theorem d_To_put_29 : decode b_To_put 29 = .ok (.dup, 1) := by decide +kernel
theorem d_To_put_30 : decode b_To_put 30 = .ok (.getfield 22, 3) := by decide +kernel
theorem d_To_put_33 : decode b_To_put 33 = .ok (.iconst 1, 1) := by decide +kernel
theorem d_To_put_34 : decode b_To_put 34 = .ok (.iadd, 1) := by decide +kernel
theorem d_To_put_35 : decode b_To_put 35 = .ok (.putfield 22, 3) := by decide +kernel
theorem d_To_put_38 : decode b_To_put 38 = .ok (.return_, 1) := by decide +kernel
theorem d_To_drop_0 : decode b_To_drop 0 = .ok (.aload_n 0, 1) := by decide +kernel
theorem d_To_drop_1 : decode b_To_drop 1 = .ok (.iconst 0, 1) := by decide +kernel
theorem d_To_drop_2 : decode b_To_drop 2 = .ok (.putfield 22, 3) := by decide +kernel
theorem d_To_drop_5 : decode b_To_drop 5 = .ok (.return_, 1) := by decide +kernel
theorem d_To_isKind_0 : decode b_To_isKind 0 = .ok (.iload_n 1, 1) := by decide +kernel
theorem d_To_isKind_1 : decode b_To_isKind 1 = .ok (.ifCond .lt 25, 3) := by decide +kernel
theorem d_To_isKind_4 : decode b_To_isKind 4 = .ok (.iload_n 1, 1) := by decide +kernel
theorem d_To_isKind_5 : decode b_To_isKind 5 = .ok (.aload_n 0, 1) := by decide +kernel
theorem d_To_isKind_6 : decode b_To_isKind 6 = .ok (.getfield 22, 3) := by decide +kernel
theorem d_To_isKind_9 : decode b_To_isKind 9 = .ok (.if_icmp .ge 17, 3) := by decide +kernel
theorem d_To_isKind_12 : decode b_To_isKind 12 = .ok (.aload_n 0, 1) := by decide +kernel
theorem d_To_isKind_13 : decode b_To_isKind 13 = .ok (.getfield 9, 3) := by decide +kernel
theorem d_To_isKind_16 : decode b_To_isKind 16 = .ok (.iload_n 1, 1) := by decide +kernel
theorem d_To_isKind_17 : decode b_To_isKind 17 = .ok (.iaload, 1) := by decide +kernel
theorem d_To_isKind_18 : decode b_To_isKind 18 = .ok (.iload_n 2, 1) := by decide +kernel
theorem d_To_isKind_19 : decode b_To_isKind 19 = .ok (.if_icmp .ne 7, 3) := by decide +kernel
theorem d_To_isKind_22 : decode b_To_isKind 22 = .ok (.iconst 1, 1) := by decide +kernel
theorem d_To_isKind_23 : decode b_To_isKind 23 = .ok (.goto 4, 3) := by decide +kernel
theorem d_To_isKind_26 : decode b_To_isKind 26 = .ok (.iconst 0, 1) := by decide +kernel
theorem d_To_isKind_27 : decode b_To_isKind 27 = .ok (.ireturn, 1) := by decide +kernel
theorem d_La_feed_0 : decode b_La_feed 0 = .ok (.aload_n 3, 1) := by decide +kernel
theorem d_La_feed_1 : decode b_La_feed 1 = .ok (.iconst 0, 1) := by decide +kernel
theorem d_La_feed_2 : decode b_La_feed 2 = .ok (.aload_n 0, 1) := by decide +kernel
theorem d_La_feed_3 : decode b_La_feed 3 = .ok (.iload_n 1, 1) := by decide +kernel
theorem d_La_feed_4 : decode b_La_feed 4 = .ok (.iload_n 2, 1) := by decide +kernel
theorem d_La_feed_5 : decode b_La_feed 5 = .ok (.invokevirtual 7, 3) := by decide +kernel
theorem d_La_feed_8 : decode b_La_feed 8 = .ok (.i2l, 1) := by decide +kernel
theorem d_La_feed_9 : decode b_La_feed 9 = .ok (.lastore, 1) := by decide +kernel
theorem d_La_feed_10 : decode b_La_feed 10 = .ok (.goto 11, 3) := by decide +kernel
theorem d_La_feed_13 : decode b_La_feed 13 = .ok (.astore 4, 2) := by decide +kernel
theorem d_La_feed_15 : decode b_La_feed 15 = .ok (.iconst 1, 1) := by decide +kernel
theorem d_La_feed_16 : decode b_La_feed 16 = .ok (.ireturn, 1) := by decide +kernel
theorem d_La_feed_17 : decode b_La_feed 17 = .ok (.astore 4, 2) := by decide +kernel
theorem d_La_feed_19 : decode b_La_feed 19 = .ok (.iconst 2, 1) := by decide +kernel
theorem d_La_feed_20 : decode b_La_feed 20 = .ok (.ireturn, 1) := by decide +kernel
theorem d_La_feed_21 : decode b_La_feed 21 = .ok (.iconst 0, 1) := by decide +kernel
theorem d_La_feed_22 : decode b_La_feed 22 = .ok (.ireturn, 1) := by decide +kernel
theorem d_La_step_0 : decode b_La_step 0 = .ok (.aload_n 1, 1) := by decide +kernel
theorem d_La_step_1 : decode b_La_step 1 = .ok (.iconst 0, 1) := by decide +kernel
theorem d_La_step_2 : decode b_La_step 2 = .ok (.aload_n 0, 1) := by decide +kernel
theorem d_La_step_3 : decode b_La_step 3 = .ok (.invokevirtual 17, 3) := by decide +kernel
theorem d_La_step_6 : decode b_La_step 6 = .ok (.i2l, 1) := by decide +kernel
theorem d_La_step_7 : decode b_La_step 7 = .ok (.lastore, 1) := by decide +kernel
theorem d_La_step_8 : decode b_La_step 8 = .ok (.goto 6, 3) := by decide +kernel
theorem d_La_step_11 : decode b_La_step 11 = .ok (.astore_n 2, 1) := by decide +kernel
theorem d_La_step_12 : decode b_La_step 12 = .ok (.iconst 1, 1) := by decide +kernel
theorem d_La_step_13 : decode b_La_step 13 = .ok (.ireturn, 1) := by decide +kernel
theorem d_La_step_14 : decode b_La_step 14 = .ok (.iconst 0, 1) := by decide +kernel
theorem d_La_step_15 : decode b_La_step 15 = .ok (.ireturn, 1) := by decide +kernel
theorem d_La_reset_0 : decode b_La_reset 0 = .ok (.aload_n 1, 1) := by decide +kernel
theorem d_La_reset_1 : decode b_La_reset 1 = .ok (.iconst 0, 1) := by decide +kernel
theorem d_La_reset_2 : decode b_La_reset 2 = .ok (.aload_n 0, 1) := by decide +kernel
theorem d_La_reset_3 : decode b_La_reset 3 = .ok (.invokevirtual 21, 3) := by decide +kernel
theorem d_La_reset_6 : decode b_La_reset 6 = .ok (.i2l, 1) := by decide +kernel
theorem d_La_reset_7 : decode b_La_reset 7 = .ok (.lastore, 1) := by decide +kernel
theorem d_La_reset_8 : decode b_La_reset 8 = .ok (.goto 6, 3) := by decide +kernel
theorem d_La_reset_11 : decode b_La_reset 11 = .ok (.astore_n 2, 1) := by decide +kernel
theorem d_La_reset_12 : decode b_La_reset 12 = .ok (.iconst 1, 1) := by decide +kernel
theorem d_La_reset_13 : decode b_La_reset 13 = .ok (.ireturn, 1) := by decide +kernel
theorem d_La_reset_14 : decode b_La_reset 14 = .ok (.iconst 0, 1) := by decide +kernel
theorem d_La_reset_15 : decode b_La_reset 15 = .ok (.ireturn, 1) := by decide +kernel
theorem d_La_width_0 : decode b_La_width 0 = .ok (.aload_n 1, 1) := by decide +kernel
theorem d_La_width_1 : decode b_La_width 1 = .ok (.iconst 0, 1) := by decide +kernel
theorem d_La_width_2 : decode b_La_width 2 = .ok (.aload_n 0, 1) := by decide +kernel
theorem d_La_width_3 : decode b_La_width 3 = .ok (.invokevirtual 24, 3) := by decide +kernel
theorem d_La_width_6 : decode b_La_width 6 = .ok (.i2l, 1) := by decide +kernel
theorem d_La_width_7 : decode b_La_width 7 = .ok (.lastore, 1) := by decide +kernel
theorem d_La_width_8 : decode b_La_width 8 = .ok (.goto 6, 3) := by decide +kernel
theorem d_La_width_11 : decode b_La_width 11 = .ok (.astore_n 2, 1) := by decide +kernel
theorem d_La_width_12 : decode b_La_width 12 = .ok (.iconst 1, 1) := by decide +kernel
theorem d_La_width_13 : decode b_La_width 13 = .ok (.ireturn, 1) := by decide +kernel
theorem d_La_width_14 : decode b_La_width 14 = .ok (.iconst 0, 1) := by decide +kernel
theorem d_La_width_15 : decode b_La_width 15 = .ok (.ireturn, 1) := by decide +kernel
theorem d_La_column_0 : decode b_La_column 0 = .ok (.aload_n 2, 1) := by decide +kernel
theorem d_La_column_1 : decode b_La_column 1 = .ok (.iconst 0, 1) := by decide +kernel
theorem d_La_column_2 : decode b_La_column 2 = .ok (.aload_n 0, 1) := by decide +kernel
theorem d_La_column_3 : decode b_La_column 3 = .ok (.iload_n 1, 1) := by decide +kernel
theorem d_La_column_4 : decode b_La_column 4 = .ok (.invokevirtual 27, 3) := by decide +kernel
theorem d_La_column_7 : decode b_La_column 7 = .ok (.lastore, 1) := by decide +kernel
theorem d_La_column_8 : decode b_La_column 8 = .ok (.goto 9, 3) := by decide +kernel
theorem d_La_column_11 : decode b_La_column 11 = .ok (.astore_n 3, 1) := by decide +kernel
theorem d_La_column_12 : decode b_La_column 12 = .ok (.iconst 1, 1) := by decide +kernel
theorem d_La_column_13 : decode b_La_column 13 = .ok (.ireturn, 1) := by decide +kernel
theorem d_La_column_14 : decode b_La_column 14 = .ok (.astore_n 3, 1) := by decide +kernel
theorem d_La_column_15 : decode b_La_column 15 = .ok (.iconst 2, 1) := by decide +kernel
theorem d_La_column_16 : decode b_La_column 16 = .ok (.ireturn, 1) := by decide +kernel
theorem d_La_column_17 : decode b_La_column 17 = .ok (.iconst 0, 1) := by decide +kernel
theorem d_La_column_18 : decode b_La_column 18 = .ok (.ireturn, 1) := by decide +kernel
theorem d_La_rows_0 : decode b_La_rows 0 = .ok (.aload_n 2, 1) := by decide +kernel
theorem d_La_rows_1 : decode b_La_rows 1 = .ok (.iconst 0, 1) := by decide +kernel
theorem d_La_rows_2 : decode b_La_rows 2 = .ok (.aload_n 0, 1) := by decide +kernel
theorem d_La_rows_3 : decode b_La_rows 3 = .ok (.iload_n 1, 1) := by decide +kernel
theorem d_La_rows_4 : decode b_La_rows 4 = .ok (.invokevirtual 33, 3) := by decide +kernel
theorem d_La_rows_7 : decode b_La_rows 7 = .ok (.i2l, 1) := by decide +kernel
theorem d_La_rows_8 : decode b_La_rows 8 = .ok (.lastore, 1) := by decide +kernel
theorem d_La_rows_9 : decode b_La_rows 9 = .ok (.goto 6, 3) := by decide +kernel
theorem d_La_rows_12 : decode b_La_rows 12 = .ok (.astore_n 3, 1) := by decide +kernel
theorem d_La_rows_13 : decode b_La_rows 13 = .ok (.iconst 1, 1) := by decide +kernel
theorem d_La_rows_14 : decode b_La_rows 14 = .ok (.ireturn, 1) := by decide +kernel
theorem d_La_rows_15 : decode b_La_rows 15 = .ok (.iconst 0, 1) := by decide +kernel
theorem d_La_rows_16 : decode b_La_rows 16 = .ok (.ireturn, 1) := by decide +kernel
theorem d_La_nearest_0 : decode b_La_nearest 0 = .ok (.aload 4, 2) := by decide +kernel
theorem d_La_nearest_2 : decode b_La_nearest 2 = .ok (.iconst 0, 1) := by decide +kernel
theorem d_La_nearest_3 : decode b_La_nearest 3 = .ok (.aload_n 0, 1) := by decide +kernel
theorem d_La_nearest_4 : decode b_La_nearest 4 = .ok (.iload_n 1, 1) := by decide +kernel
theorem d_La_nearest_5 : decode b_La_nearest 5 = .ok (.iload_n 2, 1) := by decide +kernel
theorem d_La_nearest_6 : decode b_La_nearest 6 = .ok (.iload_n 3, 1) := by decide +kernel
theorem d_La_nearest_7 : decode b_La_nearest 7 = .ok (.invokevirtual 37, 3) := by decide +kernel
theorem d_La_nearest_10 : decode b_La_nearest 10 = .ok (.i2l, 1) := by decide +kernel
theorem d_La_nearest_11 : decode b_La_nearest 11 = .ok (.lastore, 1) := by decide +kernel
theorem d_La_nearest_12 : decode b_La_nearest 12 = .ok (.goto 11, 3) := by decide +kernel
theorem d_La_nearest_15 : decode b_La_nearest 15 = .ok (.astore 5, 2) := by decide +kernel
theorem d_La_nearest_17 : decode b_La_nearest 17 = .ok (.iconst 1, 1) := by decide +kernel
theorem d_La_nearest_18 : decode b_La_nearest 18 = .ok (.ireturn, 1) := by decide +kernel
theorem d_La_nearest_19 : decode b_La_nearest 19 = .ok (.astore 5, 2) := by decide +kernel
theorem d_La_nearest_21 : decode b_La_nearest 21 = .ok (.iconst 2, 1) := by decide +kernel
theorem d_La_nearest_22 : decode b_La_nearest 22 = .ok (.ireturn, 1) := by decide +kernel
theorem d_La_nearest_23 : decode b_La_nearest 23 = .ok (.iconst 0, 1) := by decide +kernel
theorem d_La_nearest_24 : decode b_La_nearest 24 = .ok (.ireturn, 1) := by decide +kernel
theorem d_La_law_0 : decode b_La_law 0 = .ok (.new 8, 3) := by decide +kernel
theorem d_La_law_3 : decode b_La_law 3 = .ok (.dup, 1) := by decide +kernel
theorem d_La_law_4 : decode b_La_law 4 = .ok (.invokespecial 41, 3) := by decide +kernel
theorem d_La_law_7 : decode b_La_law 7 = .ok (.astore_n 1, 1) := by decide +kernel
theorem d_La_law_8 : decode b_La_law 8 = .ok (.new 42, 3) := by decide +kernel
theorem d_La_law_11 : decode b_La_law 11 = .ok (.dup, 1) := by decide +kernel
theorem d_La_law_12 : decode b_La_law 12 = .ok (.invokespecial 44, 3) := by decide +kernel
theorem d_La_law_15 : decode b_La_law 15 = .ok (.astore_n 2, 1) := by decide +kernel
theorem d_La_law_16 : decode b_La_law 16 = .ok (.iconst 1, 1) := by decide +kernel
theorem d_La_law_17 : decode b_La_law 17 = .ok (.newarray .long, 2) := by decide +kernel
theorem d_La_law_19 : decode b_La_law 19 = .ok (.astore_n 3, 1) := by decide +kernel
theorem d_La_law_20 : decode b_La_law 20 = .ok (.iconst 0, 1) := by decide +kernel
theorem d_La_law_21 : decode b_La_law 21 = .ok (.istore 4, 2) := by decide +kernel
theorem d_La_law_23 : decode b_La_law 23 = .ok (.iload 4, 2) := by decide +kernel
theorem d_La_law_25 : decode b_La_law 25 = .ok (.aload_n 0, 1) := by decide +kernel
theorem d_La_law_26 : decode b_La_law 26 = .ok (.arraylength, 1) := by decide +kernel
theorem d_La_law_27 : decode b_La_law 27 = .ok (.iconst 4, 1) := by decide +kernel
theorem d_La_law_28 : decode b_La_law 28 = .ok (.isub, 1) := by decide +kernel
theorem d_La_law_29 : decode b_La_law 29 = .ok (.if_icmp .gt 513, 3) := by decide +kernel
theorem d_La_law_32 : decode b_La_law 32 = .ok (.aload_n 0, 1) := by decide +kernel
theorem d_La_law_33 : decode b_La_law 33 = .ok (.iload 4, 2) := by decide +kernel
theorem d_La_law_35 : decode b_La_law 35 = .ok (.iaload, 1) := by decide +kernel
theorem d_La_law_36 : decode b_La_law 36 = .ok (.bipush 15, 2) := by decide +kernel
theorem d_La_law_38 : decode b_La_law 38 = .ok (.iand, 1) := by decide +kernel
theorem d_La_law_39 : decode b_La_law 39 = .ok (.tableswitch 497 0 9 #[53, 121, 134, 178, 222, 266, 321, 377, 390, 486], 53) := by decide +kernel
theorem d_La_law_92 : decode b_La_law 92 = .ok (.aload_n 1, 1) := by decide +kernel
theorem d_La_law_93 : decode b_La_law 93 = .ok (.aload_n 0, 1) := by decide +kernel
theorem d_La_law_94 : decode b_La_law 94 = .ok (.iload 4, 2) := by decide +kernel
theorem d_La_law_96 : decode b_La_law 96 = .ok (.iconst 1, 1) := by decide +kernel
theorem d_La_law_97 : decode b_La_law 97 = .ok (.iadd, 1) := by decide +kernel
theorem d_La_law_98 : decode b_La_law 98 = .ok (.iaload, 1) := by decide +kernel
theorem d_La_law_99 : decode b_La_law 99 = .ok (.aload_n 0, 1) := by decide +kernel
theorem d_La_law_100 : decode b_La_law 100 = .ok (.iload 4, 2) := by decide +kernel
theorem d_La_law_102 : decode b_La_law 102 = .ok (.iconst 2, 1) := by decide +kernel
theorem d_La_law_103 : decode b_La_law 103 = .ok (.iadd, 1) := by decide +kernel
theorem d_La_law_104 : decode b_La_law 104 = .ok (.iaload, 1) := by decide +kernel
theorem d_La_law_105 : decode b_La_law 105 = .ok (.aload_n 3, 1) := by decide +kernel
theorem d_La_law_106 : decode b_La_law 106 = .ok (.invokestatic 45, 3) := by decide +kernel
theorem d_La_law_109 : decode b_La_law 109 = .ok (.istore 5, 2) := by decide +kernel
theorem d_La_law_111 : decode b_La_law 111 = .ok (.aload_n 2, 1) := by decide +kernel
theorem d_La_law_112 : decode b_La_law 112 = .ok (.aload_n 0, 1) := by decide +kernel
theorem d_La_law_113 : decode b_La_law 113 = .ok (.iload 4, 2) := by decide +kernel
theorem d_La_law_115 : decode b_La_law 115 = .ok (.iconst 1, 1) := by decide +kernel
theorem d_La_law_116 : decode b_La_law 116 = .ok (.iadd, 1) := by decide +kernel
theorem d_La_law_117 : decode b_La_law 117 = .ok (.iaload, 1) := by decide +kernel
theorem d_La_law_118 : decode b_La_law 118 = .ok (.aload_n 0, 1) := by decide +kernel
theorem d_La_law_119 : decode b_La_law 119 = .ok (.iload 4, 2) := by decide +kernel
theorem d_La_law_121 : decode b_La_law 121 = .ok (.iconst 2, 1) := by decide +kernel
theorem d_La_law_122 : decode b_La_law 122 = .ok (.iadd, 1) := by decide +kernel
theorem d_La_law_123 : decode b_La_law 123 = .ok (.iaload, 1) := by decide +kernel
theorem d_La_law_124 : decode b_La_law 124 = .ok (.invokevirtual 50, 3) := by decide +kernel
theorem d_La_law_127 : decode b_La_law 127 = .ok (.istore 6, 2) := by decide +kernel
theorem d_La_law_129 : decode b_La_law 129 = .ok (.aload_n 2, 1) := by decide +kernel
theorem d_La_law_130 : decode b_La_law 130 = .ok (.invokevirtual 51, 3) := by decide +kernel
theorem d_La_law_133 : decode b_La_law 133 = .ok (.iload 5, 2) := by decide +kernel
theorem d_La_law_135 : decode b_La_law 135 = .ok (.if_icmp .eq 5, 3) := by decide +kernel
theorem d_La_law_138 : decode b_La_law 138 = .ok (.iconst 0, 1) := by decide +kernel
theorem d_La_law_139 : decode b_La_law 139 = .ok (.ireturn, 1) := by decide +kernel
theorem d_La_law_140 : decode b_La_law 140 = .ok (.iload 5, 2) := by decide +kernel
theorem d_La_law_142 : decode b_La_law 142 = .ok (.ifCond .ne 15, 3) := by decide +kernel
theorem d_La_law_145 : decode b_La_law 145 = .ok (.aload_n 3, 1) := by decide +kernel
theorem d_La_law_146 : decode b_La_law 146 = .ok (.iconst 0, 1) := by decide +kernel
theorem d_La_law_147 : decode b_La_law 147 = .ok (.laload, 1) := by decide +kernel
theorem d_La_law_148 : decode b_La_law 148 = .ok (.iload 6, 2) := by decide +kernel
theorem d_La_law_150 : decode b_La_law 150 = .ok (.i2l, 1) := by decide +kernel
theorem d_La_law_151 : decode b_La_law 151 = .ok (.lcmp, 1) := by decide +kernel
theorem d_La_law_152 : decode b_La_law 152 = .ok (.ifCond .eq 5, 3) := by decide +kernel
theorem d_La_law_155 : decode b_La_law 155 = .ok (.iconst 0, 1) := by decide +kernel
theorem d_La_law_156 : decode b_La_law 156 = .ok (.ireturn, 1) := by decide +kernel
theorem d_La_law_157 : decode b_La_law 157 = .ok (.goto 379, 3) := by decide +kernel
theorem d_La_law_160 : decode b_La_law 160 = .ok (.aload_n 1, 1) := by decide +kernel
theorem d_La_law_161 : decode b_La_law 161 = .ok (.invokevirtual 54, 3) := by decide +kernel
theorem d_La_law_164 : decode b_La_law 164 = .ok (.aload_n 2, 1) := by decide +kernel
theorem d_La_law_165 : decode b_La_law 165 = .ok (.invokevirtual 57, 3) := by decide +kernel
theorem d_La_law_168 : decode b_La_law 168 = .ok (.if_icmp .eq 368, 3) := by decide +kernel
theorem d_La_law_171 : decode b_La_law 171 = .ok (.iconst 0, 1) := by decide +kernel
theorem d_La_law_172 : decode b_La_law 172 = .ok (.ireturn, 1) := by decide +kernel
theorem d_La_law_173 : decode b_La_law 173 = .ok (.aload_n 1, 1) := by decide +kernel
theorem d_La_law_174 : decode b_La_law 174 = .ok (.aload_n 3, 1) := by decide +kernel
theorem d_La_law_175 : decode b_La_law 175 = .ok (.invokestatic 58, 3) := by decide +kernel
theorem d_La_law_178 : decode b_La_law 178 = .ok (.istore 5, 2) := by decide +kernel
theorem d_La_law_180 : decode b_La_law 180 = .ok (.aload_n 2, 1) := by decide +kernel
theorem d_La_law_181 : decode b_La_law 181 = .ok (.invokevirtual 61, 3) := by decide +kernel
theorem d_La_law_184 : decode b_La_law 184 = .ok (.istore 6, 2) := by decide +kernel
theorem d_La_law_186 : decode b_La_law 186 = .ok (.aload_n 2, 1) := by decide +kernel
theorem d_La_law_187 : decode b_La_law 187 = .ok (.invokevirtual 51, 3) := by decide +kernel
theorem d_La_law_190 : decode b_La_law 190 = .ok (.iload 5, 2) := by decide +kernel
theorem d_La_law_192 : decode b_La_law 192 = .ok (.if_icmp .eq 5, 3) := by decide +kernel
theorem d_La_law_195 : decode b_La_law 195 = .ok (.iconst 0, 1) := by decide +kernel
theorem d_La_law_196 : decode b_La_law 196 = .ok (.ireturn, 1) := by decide +kernel
theorem d_La_law_197 : decode b_La_law 197 = .ok (.iload 5, 2) := by decide +kernel
theorem d_La_law_199 : decode b_La_law 199 = .ok (.ifCond .ne 15, 3) := by decide +kernel
theorem d_La_law_202 : decode b_La_law 202 = .ok (.aload_n 3, 1) := by decide +kernel
theorem d_La_law_203 : decode b_La_law 203 = .ok (.iconst 0, 1) := by decide +kernel
theorem d_La_law_204 : decode b_La_law 204 = .ok (.laload, 1) := by decide +kernel
theorem d_La_law_205 : decode b_La_law 205 = .ok (.iload 6, 2) := by decide +kernel
theorem d_La_law_207 : decode b_La_law 207 = .ok (.i2l, 1) := by decide +kernel
theorem d_La_law_208 : decode b_La_law 208 = .ok (.lcmp, 1) := by decide +kernel
theorem d_La_law_209 : decode b_La_law 209 = .ok (.ifCond .eq 5, 3) := by decide +kernel
theorem d_La_law_212 : decode b_La_law 212 = .ok (.iconst 0, 1) := by decide +kernel
theorem d_La_law_213 : decode b_La_law 213 = .ok (.ireturn, 1) := by decide +kernel
theorem d_La_law_214 : decode b_La_law 214 = .ok (.goto 322, 3) := by decide +kernel
theorem d_La_law_217 : decode b_La_law 217 = .ok (.aload_n 1, 1) := by decide +kernel
theorem d_La_law_218 : decode b_La_law 218 = .ok (.aload_n 3, 1) := by decide +kernel
theorem d_La_law_219 : decode b_La_law 219 = .ok (.invokestatic 62, 3) := by decide +kernel
theorem d_La_law_222 : decode b_La_law 222 = .ok (.istore 5, 2) := by decide +kernel
theorem d_La_law_224 : decode b_La_law 224 = .ok (.aload_n 2, 1) := by decide +kernel
theorem d_La_law_225 : decode b_La_law 225 = .ok (.invokevirtual 64, 3) := by decide +kernel
theorem d_La_law_228 : decode b_La_law 228 = .ok (.istore 6, 2) := by decide +kernel
theorem d_La_law_230 : decode b_La_law 230 = .ok (.aload_n 2, 1) := by decide +kernel
theorem d_La_law_231 : decode b_La_law 231 = .ok (.invokevirtual 51, 3) := by decide +kernel
theorem d_La_law_234 : decode b_La_law 234 = .ok (.iload 5, 2) := by decide +kernel
theorem d_La_law_236 : decode b_La_law 236 = .ok (.if_icmp .eq 5, 3) := by decide +kernel
theorem d_La_law_239 : decode b_La_law 239 = .ok (.iconst 0, 1) := by decide +kernel
theorem d_La_law_240 : decode b_La_law 240 = .ok (.ireturn, 1) := by decide +kernel
theorem d_La_law_241 : decode b_La_law 241 = .ok (.iload 5, 2) := by decide +kernel
theorem d_La_law_243 : decode b_La_law 243 = .ok (.ifCond .ne 15, 3) := by decide +kernel
theorem d_La_law_246 : decode b_La_law 246 = .ok (.aload_n 3, 1) := by decide +kernel
theorem d_La_law_247 : decode b_La_law 247 = .ok (.iconst 0, 1) := by decide +kernel
theorem d_La_law_248 : decode b_La_law 248 = .ok (.laload, 1) := by decide +kernel
theorem d_La_law_249 : decode b_La_law 249 = .ok (.iload 6, 2) := by decide +kernel
theorem d_La_law_251 : decode b_La_law 251 = .ok (.i2l, 1) := by decide +kernel
theorem d_La_law_252 : decode b_La_law 252 = .ok (.lcmp, 1) := by decide +kernel
theorem d_La_law_253 : decode b_La_law 253 = .ok (.ifCond .eq 5, 3) := by decide +kernel
theorem d_La_law_256 : decode b_La_law 256 = .ok (.iconst 0, 1) := by decide +kernel
theorem d_La_law_257 : decode b_La_law 257 = .ok (.ireturn, 1) := by decide +kernel
theorem d_La_law_258 : decode b_La_law 258 = .ok (.goto 278, 3) := by decide +kernel
theorem d_La_law_261 : decode b_La_law 261 = .ok (.aload_n 1, 1) := by decide +kernel
theorem d_La_law_262 : decode b_La_law 262 = .ok (.aload_n 3, 1) := by decide +kernel
theorem d_La_law_263 : decode b_La_law 263 = .ok (.invokestatic 65, 3) := by decide +kernel
theorem d_La_law_266 : decode b_La_law 266 = .ok (.istore 5, 2) := by decide +kernel
theorem d_La_law_268 : decode b_La_law 268 = .ok (.aload_n 2, 1) := by decide +kernel
theorem d_La_law_269 : decode b_La_law 269 = .ok (.invokevirtual 67, 3) := by decide +kernel
theorem d_La_law_272 : decode b_La_law 272 = .ok (.istore 6, 2) := by decide +kernel
theorem d_La_law_274 : decode b_La_law 274 = .ok (.aload_n 2, 1) := by decide +kernel
theorem d_La_law_275 : decode b_La_law 275 = .ok (.invokevirtual 51, 3) := by decide +kernel
theorem d_La_law_278 : decode b_La_law 278 = .ok (.iload 5, 2) := by decide +kernel
theorem d_La_law_280 : decode b_La_law 280 = .ok (.if_icmp .eq 5, 3) := by decide +kernel
theorem d_La_law_283 : decode b_La_law 283 = .ok (.iconst 0, 1) := by decide +kernel
theorem d_La_law_284 : decode b_La_law 284 = .ok (.ireturn, 1) := by decide +kernel
theorem d_La_law_285 : decode b_La_law 285 = .ok (.iload 5, 2) := by decide +kernel
theorem d_La_law_287 : decode b_La_law 287 = .ok (.ifCond .ne 15, 3) := by decide +kernel
theorem d_La_law_290 : decode b_La_law 290 = .ok (.aload_n 3, 1) := by decide +kernel
theorem d_La_law_291 : decode b_La_law 291 = .ok (.iconst 0, 1) := by decide +kernel
theorem d_La_law_292 : decode b_La_law 292 = .ok (.laload, 1) := by decide +kernel
theorem d_La_law_293 : decode b_La_law 293 = .ok (.iload 6, 2) := by decide +kernel
theorem d_La_law_295 : decode b_La_law 295 = .ok (.i2l, 1) := by decide +kernel
theorem d_La_law_296 : decode b_La_law 296 = .ok (.lcmp, 1) := by decide +kernel
theorem d_La_law_297 : decode b_La_law 297 = .ok (.ifCond .eq 5, 3) := by decide +kernel
theorem d_La_law_300 : decode b_La_law 300 = .ok (.iconst 0, 1) := by decide +kernel
theorem d_La_law_301 : decode b_La_law 301 = .ok (.ireturn, 1) := by decide +kernel
theorem d_La_law_302 : decode b_La_law 302 = .ok (.goto 234, 3) := by decide +kernel
theorem d_La_law_305 : decode b_La_law 305 = .ok (.aload_n 1, 1) := by decide +kernel
theorem d_La_law_306 : decode b_La_law 306 = .ok (.aload_n 0, 1) := by decide +kernel
theorem d_La_law_307 : decode b_La_law 307 = .ok (.iload 4, 2) := by decide +kernel
theorem d_La_law_309 : decode b_La_law 309 = .ok (.iconst 1, 1) := by decide +kernel
theorem d_La_law_310 : decode b_La_law 310 = .ok (.iadd, 1) := by decide +kernel
theorem d_La_law_311 : decode b_La_law 311 = .ok (.iaload, 1) := by decide +kernel
theorem d_La_law_312 : decode b_La_law 312 = .ok (.aload_n 3, 1) := by decide +kernel
theorem d_La_law_313 : decode b_La_law 313 = .ok (.invokestatic 68, 3) := by decide +kernel
theorem d_La_law_316 : decode b_La_law 316 = .ok (.istore 5, 2) := by decide +kernel
theorem d_La_law_318 : decode b_La_law 318 = .ok (.aload_n 2, 1) := by decide +kernel
theorem d_La_law_319 : decode b_La_law 319 = .ok (.aload_n 0, 1) := by decide +kernel
theorem d_La_law_320 : decode b_La_law 320 = .ok (.iload 4, 2) := by decide +kernel
theorem d_La_law_322 : decode b_La_law 322 = .ok (.iconst 1, 1) := by decide +kernel
theorem d_La_law_323 : decode b_La_law 323 = .ok (.iadd, 1) := by decide +kernel
theorem d_La_law_324 : decode b_La_law 324 = .ok (.iaload, 1) := by decide +kernel
theorem d_La_law_325 : decode b_La_law 325 = .ok (.invokevirtual 71, 3) := by decide +kernel
theorem d_La_law_328 : decode b_La_law 328 = .ok (.lstore 6, 2) := by decide +kernel
theorem d_La_law_330 : decode b_La_law 330 = .ok (.aload_n 2, 1) := by decide +kernel
theorem d_La_law_331 : decode b_La_law 331 = .ok (.invokevirtual 51, 3) := by decide +kernel
theorem d_La_law_334 : decode b_La_law 334 = .ok (.iload 5, 2) := by decide +kernel
theorem d_La_law_336 : decode b_La_law 336 = .ok (.if_icmp .eq 5, 3) := by decide +kernel
theorem d_La_law_339 : decode b_La_law 339 = .ok (.iconst 0, 1) := by decide +kernel
theorem d_La_law_340 : decode b_La_law 340 = .ok (.ireturn, 1) := by decide +kernel
theorem d_La_law_341 : decode b_La_law 341 = .ok (.iload 5, 2) := by decide +kernel
theorem d_La_law_343 : decode b_La_law 343 = .ok (.ifCond .ne 14, 3) := by decide +kernel
theorem d_La_law_346 : decode b_La_law 346 = .ok (.aload_n 3, 1) := by decide +kernel
theorem d_La_law_347 : decode b_La_law 347 = .ok (.iconst 0, 1) := by decide +kernel
theorem d_La_law_348 : decode b_La_law 348 = .ok (.laload, 1) := by decide +kernel
theorem d_La_law_349 : decode b_La_law 349 = .ok (.lload 6, 2) := by decide +kernel
theorem d_La_law_351 : decode b_La_law 351 = .ok (.lcmp, 1) := by decide +kernel
theorem d_La_law_352 : decode b_La_law 352 = .ok (.ifCond .eq 5, 3) := by decide +kernel
theorem d_La_law_355 : decode b_La_law 355 = .ok (.iconst 0, 1) := by decide +kernel
theorem d_La_law_356 : decode b_La_law 356 = .ok (.ireturn, 1) := by decide +kernel
theorem d_La_law_357 : decode b_La_law 357 = .ok (.goto 179, 3) := by decide +kernel
theorem d_La_law_360 : decode b_La_law 360 = .ok (.aload_n 1, 1) := by decide +kernel
theorem d_La_law_361 : decode b_La_law 361 = .ok (.aload_n 0, 1) := by decide +kernel
theorem d_La_law_362 : decode b_La_law 362 = .ok (.iload 4, 2) := by decide +kernel
theorem d_La_law_364 : decode b_La_law 364 = .ok (.iconst 1, 1) := by decide +kernel
theorem d_La_law_365 : decode b_La_law 365 = .ok (.iadd, 1) := by decide +kernel
theorem d_La_law_366 : decode b_La_law 366 = .ok (.iaload, 1) := by decide +kernel
theorem d_La_law_367 : decode b_La_law 367 = .ok (.aload_n 3, 1) := by decide +kernel
theorem d_La_law_368 : decode b_La_law 368 = .ok (.invokestatic 72, 3) := by decide +kernel
theorem d_La_law_371 : decode b_La_law 371 = .ok (.istore 5, 2) := by decide +kernel
theorem d_La_law_373 : decode b_La_law 373 = .ok (.aload_n 2, 1) := by decide +kernel
theorem d_La_law_374 : decode b_La_law 374 = .ok (.aload_n 0, 1) := by decide +kernel
theorem d_La_law_375 : decode b_La_law 375 = .ok (.iload 4, 2) := by decide +kernel
theorem d_La_law_377 : decode b_La_law 377 = .ok (.iconst 1, 1) := by decide +kernel
theorem d_La_law_378 : decode b_La_law 378 = .ok (.iadd, 1) := by decide +kernel
theorem d_La_law_379 : decode b_La_law 379 = .ok (.iaload, 1) := by decide +kernel
theorem d_La_law_380 : decode b_La_law 380 = .ok (.invokevirtual 74, 3) := by decide +kernel
theorem d_La_law_383 : decode b_La_law 383 = .ok (.istore 6, 2) := by decide +kernel
theorem d_La_law_385 : decode b_La_law 385 = .ok (.aload_n 2, 1) := by decide +kernel
theorem d_La_law_386 : decode b_La_law 386 = .ok (.invokevirtual 51, 3) := by decide +kernel
theorem d_La_law_389 : decode b_La_law 389 = .ok (.iload 5, 2) := by decide +kernel
theorem d_La_law_391 : decode b_La_law 391 = .ok (.if_icmp .eq 5, 3) := by decide +kernel
theorem d_La_law_394 : decode b_La_law 394 = .ok (.iconst 0, 1) := by decide +kernel
theorem d_La_law_395 : decode b_La_law 395 = .ok (.ireturn, 1) := by decide +kernel
theorem d_La_law_396 : decode b_La_law 396 = .ok (.iload 5, 2) := by decide +kernel
theorem d_La_law_398 : decode b_La_law 398 = .ok (.ifCond .ne 15, 3) := by decide +kernel
theorem d_La_law_401 : decode b_La_law 401 = .ok (.aload_n 3, 1) := by decide +kernel
theorem d_La_law_402 : decode b_La_law 402 = .ok (.iconst 0, 1) := by decide +kernel
theorem d_La_law_403 : decode b_La_law 403 = .ok (.laload, 1) := by decide +kernel
theorem d_La_law_404 : decode b_La_law 404 = .ok (.iload 6, 2) := by decide +kernel
theorem d_La_law_406 : decode b_La_law 406 = .ok (.i2l, 1) := by decide +kernel
theorem d_La_law_407 : decode b_La_law 407 = .ok (.lcmp, 1) := by decide +kernel
theorem d_La_law_408 : decode b_La_law 408 = .ok (.ifCond .eq 5, 3) := by decide +kernel
theorem d_La_law_411 : decode b_La_law 411 = .ok (.iconst 0, 1) := by decide +kernel
theorem d_La_law_412 : decode b_La_law 412 = .ok (.ireturn, 1) := by decide +kernel
theorem d_La_law_413 : decode b_La_law 413 = .ok (.goto 123, 3) := by decide +kernel
theorem d_La_law_416 : decode b_La_law 416 = .ok (.aload_n 1, 1) := by decide +kernel
theorem d_La_law_417 : decode b_La_law 417 = .ok (.invokevirtual 75, 3) := by decide +kernel
theorem d_La_law_420 : decode b_La_law 420 = .ok (.aload_n 2, 1) := by decide +kernel
theorem d_La_law_421 : decode b_La_law 421 = .ok (.invokevirtual 78, 3) := by decide +kernel
theorem d_La_law_424 : decode b_La_law 424 = .ok (.if_icmp .eq 112, 3) := by decide +kernel
theorem d_La_law_427 : decode b_La_law 427 = .ok (.iconst 0, 1) := by decide +kernel
theorem d_La_law_428 : decode b_La_law 428 = .ok (.ireturn, 1) := by decide +kernel
theorem d_La_law_429 : decode b_La_law 429 = .ok (.aload_n 1, 1) := by decide +kernel
theorem d_La_law_430 : decode b_La_law 430 = .ok (.aload_n 0, 1) := by decide +kernel
theorem d_La_law_431 : decode b_La_law 431 = .ok (.iload 4, 2) := by decide +kernel
theorem d_La_law_433 : decode b_La_law 433 = .ok (.iconst 1, 1) := by decide +kernel
theorem d_La_law_434 : decode b_La_law 434 = .ok (.iadd, 1) := by decide +kernel
theorem d_La_law_435 : decode b_La_law 435 = .ok (.iaload, 1) := by decide +kernel
theorem d_La_law_436 : decode b_La_law 436 = .ok (.aload_n 0, 1) := by decide +kernel
theorem d_La_law_437 : decode b_La_law 437 = .ok (.iload 4, 2) := by decide +kernel
theorem d_La_law_439 : decode b_La_law 439 = .ok (.iconst 2, 1) := by decide +kernel
theorem d_La_law_440 : decode b_La_law 440 = .ok (.iadd, 1) := by decide +kernel
theorem d_La_law_441 : decode b_La_law 441 = .ok (.iaload, 1) := by decide +kernel
theorem d_La_law_442 : decode b_La_law 442 = .ok (.aload_n 0, 1) := by decide +kernel
theorem d_La_law_443 : decode b_La_law 443 = .ok (.iload 4, 2) := by decide +kernel
theorem d_La_law_445 : decode b_La_law 445 = .ok (.iconst 3, 1) := by decide +kernel
theorem d_La_law_446 : decode b_La_law 446 = .ok (.iadd, 1) := by decide +kernel
theorem d_La_law_447 : decode b_La_law 447 = .ok (.iaload, 1) := by decide +kernel
theorem d_La_law_448 : decode b_La_law 448 = .ok (.ifCond .eq 7, 3) := by decide +kernel
theorem d_La_law_451 : decode b_La_law 451 = .ok (.iconst 1, 1) := by decide +kernel
theorem d_La_law_452 : decode b_La_law 452 = .ok (.goto 4, 3) := by decide +kernel
theorem d_La_law_455 : decode b_La_law 455 = .ok (.iconst 0, 1) := by decide +kernel
theorem d_La_law_456 : decode b_La_law 456 = .ok (.aload_n 3, 1) := by decide +kernel
theorem d_La_law_457 : decode b_La_law 457 = .ok (.invokestatic 79, 3) := by decide +kernel
theorem d_La_law_460 : decode b_La_law 460 = .ok (.istore 5, 2) := by decide +kernel
theorem d_La_law_462 : decode b_La_law 462 = .ok (.aload_n 2, 1) := by decide +kernel
theorem d_La_law_463 : decode b_La_law 463 = .ok (.aload_n 0, 1) := by decide +kernel
theorem d_La_law_464 : decode b_La_law 464 = .ok (.iload 4, 2) := by decide +kernel
theorem d_La_law_466 : decode b_La_law 466 = .ok (.iconst 1, 1) := by decide +kernel
theorem d_La_law_467 : decode b_La_law 467 = .ok (.iadd, 1) := by decide +kernel
theorem d_La_law_468 : decode b_La_law 468 = .ok (.iaload, 1) := by decide +kernel
theorem d_La_law_469 : decode b_La_law 469 = .ok (.aload_n 0, 1) := by decide +kernel
theorem d_La_law_470 : decode b_La_law 470 = .ok (.iload 4, 2) := by decide +kernel
theorem d_La_law_472 : decode b_La_law 472 = .ok (.iconst 2, 1) := by decide +kernel
theorem d_La_law_473 : decode b_La_law 473 = .ok (.iadd, 1) := by decide +kernel
theorem d_La_law_474 : decode b_La_law 474 = .ok (.iaload, 1) := by decide +kernel
theorem d_La_law_475 : decode b_La_law 475 = .ok (.aload_n 0, 1) := by decide +kernel
theorem d_La_law_476 : decode b_La_law 476 = .ok (.iload 4, 2) := by decide +kernel
theorem d_La_law_478 : decode b_La_law 478 = .ok (.iconst 3, 1) := by decide +kernel
theorem d_La_law_479 : decode b_La_law 479 = .ok (.iadd, 1) := by decide +kernel
theorem d_La_law_480 : decode b_La_law 480 = .ok (.iaload, 1) := by decide +kernel
theorem d_La_law_481 : decode b_La_law 481 = .ok (.ifCond .eq 7, 3) := by decide +kernel
theorem d_La_law_484 : decode b_La_law 484 = .ok (.iconst 1, 1) := by decide +kernel
theorem d_La_law_485 : decode b_La_law 485 = .ok (.goto 4, 3) := by decide +kernel
theorem d_La_law_488 : decode b_La_law 488 = .ok (.iconst 0, 1) := by decide +kernel
theorem d_La_law_489 : decode b_La_law 489 = .ok (.invokevirtual 82, 3) := by decide +kernel
theorem d_La_law_492 : decode b_La_law 492 = .ok (.istore 6, 2) := by decide +kernel
theorem d_La_law_494 : decode b_La_law 494 = .ok (.aload_n 2, 1) := by decide +kernel
theorem d_La_law_495 : decode b_La_law 495 = .ok (.invokevirtual 51, 3) := by decide +kernel
theorem d_La_law_498 : decode b_La_law 498 = .ok (.iload 5, 2) := by decide +kernel
theorem d_La_law_500 : decode b_La_law 500 = .ok (.if_icmp .eq 5, 3) := by decide +kernel
theorem d_La_law_503 : decode b_La_law 503 = .ok (.iconst 0, 1) := by decide +kernel
theorem d_La_law_504 : decode b_La_law 504 = .ok (.ireturn, 1) := by decide +kernel
theorem d_La_law_505 : decode b_La_law 505 = .ok (.iload 5, 2) := by decide +kernel
theorem d_La_law_507 : decode b_La_law 507 = .ok (.ifCond .ne 15, 3) := by decide +kernel
theorem d_La_law_510 : decode b_La_law 510 = .ok (.aload_n 3, 1) := by decide +kernel
theorem d_La_law_511 : decode b_La_law 511 = .ok (.iconst 0, 1) := by decide +kernel
theorem d_La_law_512 : decode b_La_law 512 = .ok (.laload, 1) := by decide +kernel
theorem d_La_law_513 : decode b_La_law 513 = .ok (.iload 6, 2) := by decide +kernel
theorem d_La_law_515 : decode b_La_law 515 = .ok (.i2l, 1) := by decide +kernel
theorem d_La_law_516 : decode b_La_law 516 = .ok (.lcmp, 1) := by decide +kernel
theorem d_La_law_517 : decode b_La_law 517 = .ok (.ifCond .eq 5, 3) := by decide +kernel
theorem d_La_law_520 : decode b_La_law 520 = .ok (.iconst 0, 1) := by decide +kernel
theorem d_La_law_521 : decode b_La_law 521 = .ok (.ireturn, 1) := by decide +kernel
theorem d_La_law_522 : decode b_La_law 522 = .ok (.goto 14, 3) := by decide +kernel
theorem d_La_law_525 : decode b_La_law 525 = .ok (.aload_n 1, 1) := by decide +kernel
theorem d_La_law_526 : decode b_La_law 526 = .ok (.invokevirtual 83, 3) := by decide +kernel
theorem d_La_law_529 : decode b_La_law 529 = .ok (.aload_n 2, 1) := by decide +kernel
theorem d_La_law_530 : decode b_La_law 530 = .ok (.invokevirtual 86, 3) := by decide +kernel
theorem d_La_law_533 : decode b_La_law 533 = .ok (.goto 3, 3) := by decide +kernel
theorem d_La_law_536 : decode b_La_law 536 = .ok (.iinc 4 4, 3) := by decide +kernel
theorem d_La_law_539 : decode b_La_law 539 = .ok (.goto (-516), 3) := by decide +kernel
theorem d_La_law_542 : decode b_La_law 542 = .ok (.iconst 1, 1) := by decide +kernel
theorem d_La_law_543 : decode b_La_law 543 = .ok (.ireturn, 1) := by decide +kernel
end
section
/-! the words that my machine's rules ask of the tables -/
def xT : List Cond := lw_tbl.filter goodWord
def xnw : Cond → Bool
  | .methodLinkNest _ _ _ _ => true
  | .fieldLinkNest _ _ _ _ _ _ => true
  | _ => false
def xNN : List Cond := lw_tbl.filter xnw
theorem xT_good : ∀ w ∈ xT, goodWord w = true := fun _ h => (List.mem_filter.mp h).2
/-- a class of the worlds: its number, name, fields, how many, their types -/
def xCls (ci : Nat) (C : String) (T : u_T) (N : Nat) (ty : Nat → FieldType) : Prop := vwCl[ci]? = some (C, T, N) ∧ (∀ w ∈ u_ws C T N, w ∈ xT) ∧ (∀ k, k < N → parseFieldDescriptor (T k).2.2.1 = some (ty k)) ∧ ∀ a, a < N → ∀ b, b < N → a ≠ b → (T a).2.1 ≠ (T b).2.1
/-- a field's reference in the pool of 'own': its own, or a nest mate's -/
def xFl (own : String) (idx : Nat) (C : String) (T : u_T) (N k : Nat) : Prop := k < N ∧ (T k).1 = C ∧ (Cond.fieldLink own idx C (T k).2.1 (T k).2.2.1 ∈ xT ∨ ∃ host : String, Cond.fieldLinkNest own idx C (T k).2.1 (T k).2.2.1 host ∈ xNN)
/-- what a call's instruction needs of the tables: kind 0 virtual, 1 special (a constructor), 2 static; of its own class, or a private one of a nest mate -/
def xLk (own : String) (idx : Nat) (y : MethodName) : Prop := Cond.methodLink own idx y ∈ xT ∨ ∃ host : String, Cond.methodLinkNest own idx y host ∈ xNN
def xY (kind : Nat) (y : MethodName) (cc : ByteArray) (nL : Nat) (ret : Option FieldType) (n : Nat) : Prop :=
  Cond.code y cc nL ret ∈ xT ∧ Cond.initialized y.cls ∈ xT ∧ (y.cls ≠ "java/lang/invoke/MethodHandle" ∧ y.cls ≠ "java/lang/invoke/VarHandle") ∧ (parseMethodDescriptor y.desc).map (fun d => d.parameters.length) = some n ∧
  (kind = 0 → Cond.instanceMethod y ∈ xT ∧ Cond.selects y.cls y y ∈ xT) ∧ (kind = 1 → Cond.instanceMethod y ∈ xT ∧ y.name = "<init>" ∧ ret = none) ∧ (kind = 2 → Cond.static y ∈ xT)
end
section
/-! SITES, by my program (wip/whole/gen_sites.py): what the pool entries name -/
theorem xinN {i : Nat} {w : Cond} (h : tables_1[i]? = some w) (hg : xnw w = true) : w ∈ xNN := List.mem_filter.mpr ⟨List.mem_append_right _ (List.mem_of_getElem? h), hg⟩
theorem xinP {i : Nat} {w : Cond} (h : (k2_sels lw_privs)[i]? = some w) (hg : goodWord w = true) : w ∈ xT := List.mem_filter.mpr ⟨List.mem_append_left _ (List.mem_of_getElem? h), hg⟩
theorem k_Op_0 : u_lay R_Op F_Op 0 ∈ xT := xin (i := 239) (by decide +kernel) rfl
theorem k_Op_1 : u_lay R_Op F_Op 1 ∈ xT := xin (i := 241) (by decide +kernel) rfl
theorem k_Op_w : ∀ w ∈ u_ws R_Op F_Op 2, w ∈ xT := by
  show ∀ w ∈ [u_lay R_Op F_Op 0, u_lay R_Op F_Op 1], w ∈ xT
  exact List.forall_mem_cons.mpr ⟨k_Op_0, List.forall_mem_cons.mpr ⟨k_Op_1, fun _ h => absurd h List.not_mem_nil⟩⟩
theorem k_Op : xCls 0 R_Op F_Op 2 t_Op := ⟨rfl, k_Op_w, by decide +kernel, by decide +kernel⟩
theorem n_Op : Cond.instantiable R_Op 2 ∈ xT ∧ Cond.initialized R_Op ∈ xT := ⟨xin (i := 232) (by decide +kernel) rfl, xin (i := 13) (by decide +kernel) rfl⟩
theorem k_Cn_0 : u_lay R_Cn F_Cn 0 ∈ xT := xin (i := 253) (by decide +kernel) rfl
theorem k_Cn_1 : u_lay R_Cn F_Cn 1 ∈ xT := xin (i := 255) (by decide +kernel) rfl
theorem k_Cn_2 : u_lay R_Cn F_Cn 2 ∈ xT := xin (i := 257) (by decide +kernel) rfl
theorem k_Cn_w : ∀ w ∈ u_ws R_Cn F_Cn 3, w ∈ xT := by
  show ∀ w ∈ [u_lay R_Cn F_Cn 0, u_lay R_Cn F_Cn 1, u_lay R_Cn F_Cn 2], w ∈ xT
  exact List.forall_mem_cons.mpr ⟨k_Cn_0, List.forall_mem_cons.mpr ⟨k_Cn_1, List.forall_mem_cons.mpr ⟨k_Cn_2, fun _ h => absurd h List.not_mem_nil⟩⟩⟩
theorem k_Cn : xCls 1 R_Cn F_Cn 3 t_Cn := ⟨rfl, k_Cn_w, by decide +kernel, by decide +kernel⟩
theorem n_Cn : Cond.instantiable R_Cn 3 ∈ xT ∧ Cond.initialized R_Cn ∈ xT := ⟨xin (i := 245) (by decide +kernel) rfl, xin (i := 14) (by decide +kernel) rfl⟩
theorem k_Pa_0 : u_lay R_Pa F_Pa 0 ∈ xT := xin (i := 176) (by decide +kernel) rfl
theorem k_Pa_1 : u_lay R_Pa F_Pa 1 ∈ xT := xin (i := 178) (by decide +kernel) rfl
theorem k_Pa_2 : u_lay R_Pa F_Pa 2 ∈ xT := xin (i := 180) (by decide +kernel) rfl
theorem k_Pa_w : ∀ w ∈ u_ws R_Pa F_Pa 3, w ∈ xT := by
  show ∀ w ∈ [u_lay R_Pa F_Pa 0, u_lay R_Pa F_Pa 1, u_lay R_Pa F_Pa 2], w ∈ xT
  exact List.forall_mem_cons.mpr ⟨k_Pa_0, List.forall_mem_cons.mpr ⟨k_Pa_1, List.forall_mem_cons.mpr ⟨k_Pa_2, fun _ h => absurd h List.not_mem_nil⟩⟩⟩
theorem k_Pa : xCls 2 R_Pa F_Pa 3 t_Pa := ⟨rfl, k_Pa_w, by decide +kernel, by decide +kernel⟩
theorem n_Pa : Cond.instantiable R_Pa 3 ∈ xT ∧ Cond.initialized R_Pa ∈ xT := ⟨xin (i := 111) (by decide +kernel) rfl, xin (i := 11) (by decide +kernel) rfl⟩
theorem k_Ru_0 : u_lay R_Ru F_Ru 0 ∈ xT := xin (i := 79) (by decide +kernel) rfl
theorem k_Ru_1 : u_lay R_Ru F_Ru 1 ∈ xT := xin (i := 81) (by decide +kernel) rfl
theorem k_Ru_2 : u_lay R_Ru F_Ru 2 ∈ xT := xin (i := 83) (by decide +kernel) rfl
theorem k_Ru_3 : u_lay R_Ru F_Ru 3 ∈ xT := xin (i := 85) (by decide +kernel) rfl
theorem k_Ru_4 : u_lay R_Ru F_Ru 4 ∈ xT := xin (i := 87) (by decide +kernel) rfl
theorem k_Ru_5 : u_lay R_Ru F_Ru 5 ∈ xT := xin (i := 89) (by decide +kernel) rfl
theorem k_Ru_6 : u_lay R_Ru F_Ru 6 ∈ xT := xin (i := 91) (by decide +kernel) rfl
theorem k_Ru_7 : u_lay R_Ru F_Ru 7 ∈ xT := xin (i := 93) (by decide +kernel) rfl
theorem k_Ru_w : ∀ w ∈ u_ws R_Ru F_Ru 8, w ∈ xT := by
  show ∀ w ∈ [u_lay R_Ru F_Ru 0, u_lay R_Ru F_Ru 1, u_lay R_Ru F_Ru 2, u_lay R_Ru F_Ru 3, u_lay R_Ru F_Ru 4, u_lay R_Ru F_Ru 5, u_lay R_Ru F_Ru 6, u_lay R_Ru F_Ru 7], w ∈ xT
  exact List.forall_mem_cons.mpr ⟨k_Ru_0, List.forall_mem_cons.mpr ⟨k_Ru_1, List.forall_mem_cons.mpr ⟨k_Ru_2, List.forall_mem_cons.mpr ⟨k_Ru_3, List.forall_mem_cons.mpr ⟨k_Ru_4, List.forall_mem_cons.mpr ⟨k_Ru_5, List.forall_mem_cons.mpr ⟨k_Ru_6, List.forall_mem_cons.mpr ⟨k_Ru_7, fun _ h => absurd h List.not_mem_nil⟩⟩⟩⟩⟩⟩⟩⟩
theorem k_Ru : xCls 3 R_Ru F_Ru 8 t_Ru := ⟨rfl, k_Ru_w, by decide +kernel, by decide +kernel⟩
theorem n_Ru : Cond.instantiable R_Ru 8 ∈ xT ∧ Cond.initialized R_Ru ∈ xT := ⟨xin (i := 63) (by decide +kernel) rfl, xin (i := 4) (by decide +kernel) rfl⟩
theorem k_St_0 : u_lay R_St F_St 0 ∈ xT := xin (i := 150) (by decide +kernel) rfl
theorem k_St_1 : u_lay R_St F_St 1 ∈ xT := xin (i := 152) (by decide +kernel) rfl
theorem k_St_2 : u_lay R_St F_St 2 ∈ xT := xin (i := 154) (by decide +kernel) rfl
theorem k_St_3 : u_lay R_St F_St 3 ∈ xT := xin (i := 156) (by decide +kernel) rfl
theorem k_St_4 : u_lay R_St F_St 4 ∈ xT := xin (i := 158) (by decide +kernel) rfl
theorem k_St_5 : u_lay R_St F_St 5 ∈ xT := xin (i := 160) (by decide +kernel) rfl
theorem k_St_6 : u_lay R_St F_St 6 ∈ xT := xin (i := 162) (by decide +kernel) rfl
theorem k_St_7 : u_lay R_St F_St 7 ∈ xT := xin (i := 164) (by decide +kernel) rfl
theorem k_St_8 : u_lay R_St F_St 8 ∈ xT := xin (i := 166) (by decide +kernel) rfl
theorem k_St_9 : u_lay R_St F_St 9 ∈ xT := xin (i := 168) (by decide +kernel) rfl
theorem k_St_10 : u_lay R_St F_St 10 ∈ xT := xin (i := 170) (by decide +kernel) rfl
theorem k_St_w : ∀ w ∈ u_ws R_St F_St 11, w ∈ xT := by
  show ∀ w ∈ [u_lay R_St F_St 0, u_lay R_St F_St 1, u_lay R_St F_St 2, u_lay R_St F_St 3, u_lay R_St F_St 4, u_lay R_St F_St 5, u_lay R_St F_St 6, u_lay R_St F_St 7, u_lay R_St F_St 8, u_lay R_St F_St 9, u_lay R_St F_St 10], w ∈ xT
  exact List.forall_mem_cons.mpr ⟨k_St_0, List.forall_mem_cons.mpr ⟨k_St_1, List.forall_mem_cons.mpr ⟨k_St_2, List.forall_mem_cons.mpr ⟨k_St_3, List.forall_mem_cons.mpr ⟨k_St_4, List.forall_mem_cons.mpr ⟨k_St_5, List.forall_mem_cons.mpr ⟨k_St_6, List.forall_mem_cons.mpr ⟨k_St_7, List.forall_mem_cons.mpr ⟨k_St_8, List.forall_mem_cons.mpr ⟨k_St_9, List.forall_mem_cons.mpr ⟨k_St_10, fun _ h => absurd h List.not_mem_nil⟩⟩⟩⟩⟩⟩⟩⟩⟩⟩⟩
theorem k_St : xCls 4 R_St F_St 11 t_St := ⟨rfl, k_St_w, by decide +kernel, by decide +kernel⟩
theorem n_St : Cond.instantiable R_St 11 ∈ xT ∧ Cond.initialized R_St ∈ xT := ⟨xin (i := 117) (by decide +kernel) rfl, xin (i := 12) (by decide +kernel) rfl⟩
theorem k_Ta_0 : u_lay R_Ta F_Ta 0 ∈ xT := xin (i := 55) (by decide +kernel) rfl
theorem k_Ta_1 : u_lay R_Ta F_Ta 1 ∈ xT := xin (i := 57) (by decide +kernel) rfl
theorem k_Ta_2 : u_lay R_Ta F_Ta 2 ∈ xT := xin (i := 59) (by decide +kernel) rfl
theorem k_Ta_w : ∀ w ∈ u_ws R_Ta F_Ta 3, w ∈ xT := by
  show ∀ w ∈ [u_lay R_Ta F_Ta 0, u_lay R_Ta F_Ta 1, u_lay R_Ta F_Ta 2], w ∈ xT
  exact List.forall_mem_cons.mpr ⟨k_Ta_0, List.forall_mem_cons.mpr ⟨k_Ta_1, List.forall_mem_cons.mpr ⟨k_Ta_2, fun _ h => absurd h List.not_mem_nil⟩⟩⟩
theorem k_Ta : xCls 5 R_Ta F_Ta 3 t_Ta := ⟨rfl, k_Ta_w, by decide +kernel, by decide +kernel⟩
theorem n_Ta : Cond.instantiable R_Ta 3 ∈ xT ∧ Cond.initialized R_Ta ∈ xT := ⟨xin (i := 47) (by decide +kernel) rfl, xin (i := 3) (by decide +kernel) rfl⟩
theorem k_To_0 : u_lay R_To F_To 0 ∈ xT := xin (i := 38) (by decide +kernel) rfl
theorem k_To_1 : u_lay R_To F_To 1 ∈ xT := xin (i := 40) (by decide +kernel) rfl
theorem k_To_2 : u_lay R_To F_To 2 ∈ xT := xin (i := 42) (by decide +kernel) rfl
theorem k_To_w : ∀ w ∈ u_ws R_To F_To 3, w ∈ xT := by
  show ∀ w ∈ [u_lay R_To F_To 0, u_lay R_To F_To 1, u_lay R_To F_To 2], w ∈ xT
  exact List.forall_mem_cons.mpr ⟨k_To_0, List.forall_mem_cons.mpr ⟨k_To_1, List.forall_mem_cons.mpr ⟨k_To_2, fun _ h => absurd h List.not_mem_nil⟩⟩⟩
theorem k_To : xCls 6 R_To F_To 3 t_To := ⟨rfl, k_To_w, by decide +kernel, by decide +kernel⟩
theorem n_To : Cond.instantiable R_To 3 ∈ xT ∧ Cond.initialized R_To ∈ xT := ⟨xin (i := 26) (by decide +kernel) rfl, xin (i := 2) (by decide +kernel) rfl⟩
theorem k_CB_0 : u_lay R_CB F_CB 0 ∈ xT := xin (i := 99) (by decide +kernel) rfl
theorem k_CB_1 : u_lay R_CB F_CB 1 ∈ xT := xin (i := 101) (by decide +kernel) rfl
theorem k_CB_2 : u_lay R_CB F_CB 2 ∈ xT := xin (i := 103) (by decide +kernel) rfl
theorem k_CB_w : ∀ w ∈ u_ws R_CB F_CB 3, w ∈ xT := by
  show ∀ w ∈ [u_lay R_CB F_CB 0, u_lay R_CB F_CB 1, u_lay R_CB F_CB 2], w ∈ xT
  exact List.forall_mem_cons.mpr ⟨k_CB_0, List.forall_mem_cons.mpr ⟨k_CB_1, List.forall_mem_cons.mpr ⟨k_CB_2, fun _ h => absurd h List.not_mem_nil⟩⟩⟩
theorem k_CB : xCls 7 R_CB F_CB 3 t_CB := ⟨rfl, k_CB_w, by decide +kernel, by decide +kernel⟩
theorem n_CB : Cond.instantiable R_CB 3 ∈ xT ∧ Cond.initialized R_CB ∈ xT := ⟨xin (i := 18) (by decide +kernel) rfl, xin (i := 1) (by decide +kernel) rfl⟩
theorem k_Mo_0 : u_lay R_Mo F_Mo 0 ∈ xT := xin (i := 663) (by decide +kernel) rfl
theorem k_Mo_1 : u_lay R_Mo F_Mo 1 ∈ xT := xin (i := 665) (by decide +kernel) rfl
theorem k_Mo_2 : u_lay R_Mo F_Mo 2 ∈ xT := xin (i := 667) (by decide +kernel) rfl
theorem k_Mo_3 : u_lay R_Mo F_Mo 3 ∈ xT := xin (i := 669) (by decide +kernel) rfl
theorem k_Mo_4 : u_lay R_Mo F_Mo 4 ∈ xT := xin (i := 671) (by decide +kernel) rfl
theorem k_Mo_5 : u_lay R_Mo F_Mo 5 ∈ xT := xin (i := 673) (by decide +kernel) rfl
theorem k_Mo_6 : u_lay R_Mo F_Mo 6 ∈ xT := xin (i := 675) (by decide +kernel) rfl
theorem k_Mo_7 : u_lay R_Mo F_Mo 7 ∈ xT := xin (i := 677) (by decide +kernel) rfl
theorem k_Mo_8 : u_lay R_Mo F_Mo 8 ∈ xT := xin (i := 679) (by decide +kernel) rfl
theorem k_Mo_9 : u_lay R_Mo F_Mo 9 ∈ xT := xin (i := 681) (by decide +kernel) rfl
theorem k_Mo_10 : u_lay R_Mo F_Mo 10 ∈ xT := xin (i := 683) (by decide +kernel) rfl
theorem k_Mo_11 : u_lay R_Mo F_Mo 11 ∈ xT := xin (i := 685) (by decide +kernel) rfl
theorem k_Mo_12 : u_lay R_Mo F_Mo 12 ∈ xT := xin (i := 687) (by decide +kernel) rfl
theorem k_Mo_13 : u_lay R_Mo F_Mo 13 ∈ xT := xin (i := 689) (by decide +kernel) rfl
theorem k_Mo_14 : u_lay R_Mo F_Mo 14 ∈ xT := xin (i := 691) (by decide +kernel) rfl
theorem k_Mo_15 : u_lay R_Mo F_Mo 15 ∈ xT := xin (i := 693) (by decide +kernel) rfl
theorem k_Mo_16 : u_lay R_Mo F_Mo 16 ∈ xT := xin (i := 695) (by decide +kernel) rfl
theorem k_Mo_17 : u_lay R_Mo F_Mo 17 ∈ xT := xin (i := 697) (by decide +kernel) rfl
theorem k_Mo_18 : u_lay R_Mo F_Mo 18 ∈ xT := xin (i := 699) (by decide +kernel) rfl
theorem k_Mo_19 : u_lay R_Mo F_Mo 19 ∈ xT := xin (i := 701) (by decide +kernel) rfl
theorem k_Mo_20 : u_lay R_Mo F_Mo 20 ∈ xT := xin (i := 703) (by decide +kernel) rfl
theorem k_Mo_21 : u_lay R_Mo F_Mo 21 ∈ xT := xin (i := 705) (by decide +kernel) rfl
theorem k_Mo_22 : u_lay R_Mo F_Mo 22 ∈ xT := xin (i := 707) (by decide +kernel) rfl
theorem k_Mo_23 : u_lay R_Mo F_Mo 23 ∈ xT := xin (i := 709) (by decide +kernel) rfl
theorem k_Mo_24 : u_lay R_Mo F_Mo 24 ∈ xT := xin (i := 711) (by decide +kernel) rfl
theorem k_Mo_25 : u_lay R_Mo F_Mo 25 ∈ xT := xin (i := 713) (by decide +kernel) rfl
theorem k_Mo_26 : u_lay R_Mo F_Mo 26 ∈ xT := xin (i := 715) (by decide +kernel) rfl
theorem k_Mo_27 : u_lay R_Mo F_Mo 27 ∈ xT := xin (i := 717) (by decide +kernel) rfl
theorem k_Mo_28 : u_lay R_Mo F_Mo 28 ∈ xT := xin (i := 719) (by decide +kernel) rfl
theorem k_Mo_w : ∀ w ∈ u_ws R_Mo F_Mo 29, w ∈ xT := by
  show ∀ w ∈ [u_lay R_Mo F_Mo 0, u_lay R_Mo F_Mo 1, u_lay R_Mo F_Mo 2, u_lay R_Mo F_Mo 3, u_lay R_Mo F_Mo 4, u_lay R_Mo F_Mo 5, u_lay R_Mo F_Mo 6, u_lay R_Mo F_Mo 7, u_lay R_Mo F_Mo 8, u_lay R_Mo F_Mo 9, u_lay R_Mo F_Mo 10, u_lay R_Mo F_Mo 11, u_lay R_Mo F_Mo 12, u_lay R_Mo F_Mo 13, u_lay R_Mo F_Mo 14, u_lay R_Mo F_Mo 15, u_lay R_Mo F_Mo 16, u_lay R_Mo F_Mo 17, u_lay R_Mo F_Mo 18, u_lay R_Mo F_Mo 19, u_lay R_Mo F_Mo 20, u_lay R_Mo F_Mo 21, u_lay R_Mo F_Mo 22, u_lay R_Mo F_Mo 23, u_lay R_Mo F_Mo 24, u_lay R_Mo F_Mo 25, u_lay R_Mo F_Mo 26, u_lay R_Mo F_Mo 27, u_lay R_Mo F_Mo 28], w ∈ xT
  exact List.forall_mem_cons.mpr ⟨k_Mo_0, List.forall_mem_cons.mpr ⟨k_Mo_1, List.forall_mem_cons.mpr ⟨k_Mo_2, List.forall_mem_cons.mpr ⟨k_Mo_3, List.forall_mem_cons.mpr ⟨k_Mo_4, List.forall_mem_cons.mpr ⟨k_Mo_5, List.forall_mem_cons.mpr ⟨k_Mo_6, List.forall_mem_cons.mpr ⟨k_Mo_7, List.forall_mem_cons.mpr ⟨k_Mo_8, List.forall_mem_cons.mpr ⟨k_Mo_9, List.forall_mem_cons.mpr ⟨k_Mo_10, List.forall_mem_cons.mpr ⟨k_Mo_11, List.forall_mem_cons.mpr ⟨k_Mo_12, List.forall_mem_cons.mpr ⟨k_Mo_13, List.forall_mem_cons.mpr ⟨k_Mo_14, List.forall_mem_cons.mpr ⟨k_Mo_15, List.forall_mem_cons.mpr ⟨k_Mo_16, List.forall_mem_cons.mpr ⟨k_Mo_17, List.forall_mem_cons.mpr ⟨k_Mo_18, List.forall_mem_cons.mpr ⟨k_Mo_19, List.forall_mem_cons.mpr ⟨k_Mo_20, List.forall_mem_cons.mpr ⟨k_Mo_21, List.forall_mem_cons.mpr ⟨k_Mo_22, List.forall_mem_cons.mpr ⟨k_Mo_23, List.forall_mem_cons.mpr ⟨k_Mo_24, List.forall_mem_cons.mpr ⟨k_Mo_25, List.forall_mem_cons.mpr ⟨k_Mo_26, List.forall_mem_cons.mpr ⟨k_Mo_27, List.forall_mem_cons.mpr ⟨k_Mo_28, fun _ h => absurd h List.not_mem_nil⟩⟩⟩⟩⟩⟩⟩⟩⟩⟩⟩⟩⟩⟩⟩⟩⟩⟩⟩⟩⟩⟩⟩⟩⟩⟩⟩⟩⟩
theorem k_Mo : xCls 8 R_Mo F_Mo 29 t_Mo := ⟨rfl, k_Mo_w, by decide +kernel, by decide +kernel⟩
theorem n_Mo : Cond.instantiable R_Mo 29 ∈ xT ∧ Cond.initialized R_Mo ∈ xT := ⟨xin (i := 629) (by decide +kernel) rfl, xin (i := 5) (by decide +kernel) rfl⟩
theorem n_La : Cond.initialized R_La ∈ xT := xin (i := 0) (by decide +kernel) rfl
theorem ac_int : Cond.arrayClass .int ∈ xT := xin (i := 45) (by decide +kernel) rfl
theorem ac_long : Cond.arrayClass .long ∈ xT := xin (i := 883) (by decide +kernel) rfl
theorem c_La_8 : Cond.classLink R_La 8 R_CB ∈ xT := xin (i := 17) (by decide +kernel) rfl
theorem c_CB_7 : Cond.classLink R_CB 7 R_To ∈ xT := xin (i := 25) (by decide +kernel) rfl
theorem f_To_9 : xFl R_To 9 R_To F_To 3 0 := ⟨by decide, rfl, Or.inl (xin (i := 31) (by decide +kernel) rfl)⟩
theorem g_To_9 : 0 < 3 ∧ (F_To 0).1 = R_To ∧ Cond.fieldLink R_To 9 R_To (F_To 0).2.1 (F_To 0).2.2.1 ∈ xT := ⟨by decide, rfl, xin (i := 31) (by decide +kernel) rfl⟩
theorem f_Pa_124 : xFl R_Pa 124 R_To F_To 3 0 := ⟨by decide, rfl, Or.inr ⟨"CursorBase", xinN (i := 32) (by decide +kernel) rfl⟩⟩
theorem f_To_15 : xFl R_To 15 R_To F_To 3 1 := ⟨by decide, rfl, Or.inl (xin (i := 33) (by decide +kernel) rfl)⟩
theorem g_To_15 : 1 < 3 ∧ (F_To 1).1 = R_To ∧ Cond.fieldLink R_To 15 R_To (F_To 1).2.1 (F_To 1).2.2.1 ∈ xT := ⟨by decide, rfl, xin (i := 33) (by decide +kernel) rfl⟩
theorem f_Pa_79 : xFl R_Pa 79 R_To F_To 3 1 := ⟨by decide, rfl, Or.inr ⟨"CursorBase", xinN (i := 34) (by decide +kernel) rfl⟩⟩
theorem f_CB_54 : xFl R_CB 54 R_To F_To 3 2 := ⟨by decide, rfl, Or.inr ⟨"CursorBase", xinN (i := 35) (by decide +kernel) rfl⟩⟩
theorem f_Pa_55 : xFl R_Pa 55 R_To F_To 3 2 := ⟨by decide, rfl, Or.inr ⟨"CursorBase", xinN (i := 36) (by decide +kernel) rfl⟩⟩
theorem f_To_22 : xFl R_To 22 R_To F_To 3 2 := ⟨by decide, rfl, Or.inl (xin (i := 37) (by decide +kernel) rfl)⟩
theorem c_CB_16 : Cond.classLink R_CB 16 R_Ta ∈ xT := xin (i := 46) (by decide +kernel) rfl
theorem f_Ta_9 : xFl R_Ta 9 R_Ta F_Ta 3 0 := ⟨by decide, rfl, Or.inl (xin (i := 52) (by decide +kernel) rfl)⟩
theorem g_Ta_9 : 0 < 3 ∧ (F_Ta 0).1 = R_Ta ∧ Cond.fieldLink R_Ta 9 R_Ta (F_Ta 0).2.1 (F_Ta 0).2.2.1 ∈ xT := ⟨by decide, rfl, xin (i := 52) (by decide +kernel) rfl⟩
theorem f_Ta_15 : xFl R_Ta 15 R_Ta F_Ta 3 1 := ⟨by decide, rfl, Or.inl (xin (i := 53) (by decide +kernel) rfl)⟩
theorem g_Ta_15 : 1 < 3 ∧ (F_Ta 1).1 = R_Ta ∧ Cond.fieldLink R_Ta 15 R_Ta (F_Ta 1).2.1 (F_Ta 1).2.2.1 ∈ xT := ⟨by decide, rfl, xin (i := 53) (by decide +kernel) rfl⟩
theorem f_Ta_18 : xFl R_Ta 18 R_Ta F_Ta 3 2 := ⟨by decide, rfl, Or.inl (xin (i := 54) (by decide +kernel) rfl)⟩
theorem g_Ta_18 : 2 < 3 ∧ (F_Ta 2).1 = R_Ta ∧ Cond.fieldLink R_Ta 18 R_Ta (F_Ta 2).2.1 (F_Ta 2).2.2.1 ∈ xT := ⟨by decide, rfl, xin (i := 54) (by decide +kernel) rfl⟩
theorem c_CB_23 : Cond.classLink R_CB 23 R_Ru ∈ xT := xin (i := 62) (by decide +kernel) rfl
theorem f_Ru_15 : xFl R_Ru 15 R_Ru F_Ru 8 0 := ⟨by decide, rfl, Or.inl (xin (i := 68) (by decide +kernel) rfl)⟩
theorem f_CB_84 : xFl R_CB 84 R_Ru F_Ru 8 0 := ⟨by decide, rfl, Or.inr ⟨"CursorBase", xinN (i := 69) (by decide +kernel) rfl⟩⟩
theorem f_Ru_19 : xFl R_Ru 19 R_Ru F_Ru 8 1 := ⟨by decide, rfl, Or.inl (xin (i := 70) (by decide +kernel) rfl)⟩
theorem f_CB_93 : xFl R_CB 93 R_Ru F_Ru 8 1 := ⟨by decide, rfl, Or.inr ⟨"CursorBase", xinN (i := 71) (by decide +kernel) rfl⟩⟩
theorem f_Ru_23 : xFl R_Ru 23 R_Ru F_Ru 8 2 := ⟨by decide, rfl, Or.inl (xin (i := 72) (by decide +kernel) rfl)⟩
theorem f_CB_100 : xFl R_CB 100 R_Ru F_Ru 8 2 := ⟨by decide, rfl, Or.inr ⟨"CursorBase", xinN (i := 73) (by decide +kernel) rfl⟩⟩
theorem f_Ru_27 : xFl R_Ru 27 R_Ru F_Ru 8 3 := ⟨by decide, rfl, Or.inl (xin (i := 74) (by decide +kernel) rfl)⟩
theorem f_Ru_30 : xFl R_Ru 30 R_Ru F_Ru 8 4 := ⟨by decide, rfl, Or.inl (xin (i := 75) (by decide +kernel) rfl)⟩
theorem f_Ru_33 : xFl R_Ru 33 R_Ru F_Ru 8 5 := ⟨by decide, rfl, Or.inl (xin (i := 76) (by decide +kernel) rfl)⟩
theorem f_Ru_95 : xFl R_Ru 95 R_Ru F_Ru 8 6 := ⟨by decide, rfl, Or.inl (xin (i := 77) (by decide +kernel) rfl)⟩
theorem f_Ru_9 : xFl R_Ru 9 R_Ru F_Ru 8 7 := ⟨by decide, rfl, Or.inl (xin (i := 78) (by decide +kernel) rfl)⟩
theorem g_Ru_9 : 7 < 8 ∧ (F_Ru 7).1 = R_Ru ∧ Cond.fieldLink R_Ru 9 R_Ru (F_Ru 7).2.1 (F_Ru 7).2.2.1 ∈ xT := ⟨by decide, rfl, xin (i := 78) (by decide +kernel) rfl⟩
theorem f_CB_10 : xFl R_CB 10 R_CB F_CB 3 0 := ⟨by decide, rfl, Or.inl (xin (i := 96) (by decide +kernel) rfl)⟩
theorem g_CB_10 : 0 < 3 ∧ (F_CB 0).1 = R_CB ∧ Cond.fieldLink R_CB 10 R_CB (F_CB 0).2.1 (F_CB 0).2.2.1 ∈ xT := ⟨by decide, rfl, xin (i := 96) (by decide +kernel) rfl⟩
theorem f_CB_19 : xFl R_CB 19 R_CB F_CB 3 1 := ⟨by decide, rfl, Or.inl (xin (i := 97) (by decide +kernel) rfl)⟩
theorem g_CB_19 : 1 < 3 ∧ (F_CB 1).1 = R_CB ∧ Cond.fieldLink R_CB 19 R_CB (F_CB 1).2.1 (F_CB 1).2.2.1 ∈ xT := ⟨by decide, rfl, xin (i := 97) (by decide +kernel) rfl⟩
theorem f_CB_26 : xFl R_CB 26 R_CB F_CB 3 2 := ⟨by decide, rfl, Or.inl (xin (i := 98) (by decide +kernel) rfl)⟩
theorem g_CB_26 : 2 < 3 ∧ (F_CB 2).1 = R_CB ∧ Cond.fieldLink R_CB 26 R_CB (F_CB 2).2.1 (F_CB 2).2.2.1 ∈ xT := ⟨by decide, rfl, xin (i := 98) (by decide +kernel) rfl⟩
theorem c_CB_58 : Cond.classLink R_CB 58 R_Pa ∈ xT := xin (i := 110) (by decide +kernel) rfl
theorem c_Pa_9 : Cond.classLink R_Pa 9 R_St ∈ xT := xin (i := 116) (by decide +kernel) rfl
theorem c_St_25 : Cond.classLink R_St 25 R_Op ∈ xT := xin (i := 122) (by decide +kernel) rfl
theorem c_St_31 : Cond.classLink R_St 31 R_Cn ∈ xT := xin (i := 124) (by decide +kernel) rfl
theorem f_Pa_26 : xFl R_Pa 26 R_St F_St 11 0 := ⟨by decide, rfl, Or.inr ⟨"CursorBase", xinN (i := 126) (by decide +kernel) rfl⟩⟩
theorem f_Ru_36 : xFl R_Ru 36 R_St F_St 11 0 := ⟨by decide, rfl, Or.inr ⟨"CursorBase", xinN (i := 127) (by decide +kernel) rfl⟩⟩
theorem f_St_49 : xFl R_St 49 R_St F_St 11 0 := ⟨by decide, rfl, Or.inl (xin (i := 128) (by decide +kernel) rfl)⟩
theorem f_St_9 : xFl R_St 9 R_St F_St 11 1 := ⟨by decide, rfl, Or.inl (xin (i := 129) (by decide +kernel) rfl)⟩
theorem f_Ru_100 : xFl R_Ru 100 R_St F_St 11 1 := ⟨by decide, rfl, Or.inr ⟨"CursorBase", xinN (i := 130) (by decide +kernel) rfl⟩⟩
theorem f_Pa_93 : xFl R_Pa 93 R_St F_St 11 1 := ⟨by decide, rfl, Or.inr ⟨"CursorBase", xinN (i := 131) (by decide +kernel) rfl⟩⟩
theorem f_St_15 : xFl R_St 15 R_St F_St 11 2 := ⟨by decide, rfl, Or.inl (xin (i := 132) (by decide +kernel) rfl)⟩
theorem f_Ru_41 : xFl R_Ru 41 R_St F_St 11 2 := ⟨by decide, rfl, Or.inr ⟨"CursorBase", xinN (i := 133) (by decide +kernel) rfl⟩⟩
theorem f_Pa_83 : xFl R_Pa 83 R_St F_St 11 2 := ⟨by decide, rfl, Or.inr ⟨"CursorBase", xinN (i := 134) (by decide +kernel) rfl⟩⟩
theorem f_St_18 : xFl R_St 18 R_St F_St 11 3 := ⟨by decide, rfl, Or.inl (xin (i := 135) (by decide +kernel) rfl)⟩
theorem f_Pa_68 : xFl R_Pa 68 R_St F_St 11 3 := ⟨by decide, rfl, Or.inr ⟨"CursorBase", xinN (i := 136) (by decide +kernel) rfl⟩⟩
theorem f_Ru_113 : xFl R_Ru 113 R_St F_St 11 3 := ⟨by decide, rfl, Or.inr ⟨"CursorBase", xinN (i := 137) (by decide +kernel) rfl⟩⟩
theorem f_Pa_71 : xFl R_Pa 71 R_St F_St 11 4 := ⟨by decide, rfl, Or.inr ⟨"CursorBase", xinN (i := 138) (by decide +kernel) rfl⟩⟩
theorem f_Ru_119 : xFl R_Ru 119 R_St F_St 11 4 := ⟨by decide, rfl, Or.inr ⟨"CursorBase", xinN (i := 139) (by decide +kernel) rfl⟩⟩
theorem f_St_37 : xFl R_St 37 R_St F_St 11 5 := ⟨by decide, rfl, Or.inl (xin (i := 140) (by decide +kernel) rfl)⟩
theorem f_Pa_90 : xFl R_Pa 90 R_St F_St 11 5 := ⟨by decide, rfl, Or.inr ⟨"CursorBase", xinN (i := 141) (by decide +kernel) rfl⟩⟩
theorem f_St_21 : xFl R_St 21 R_St F_St 11 6 := ⟨by decide, rfl, Or.inl (xin (i := 142) (by decide +kernel) rfl)⟩
theorem g_St_21 : 6 < 11 ∧ (F_St 6).1 = R_St ∧ Cond.fieldLink R_St 21 R_St (F_St 6).2.1 (F_St 6).2.2.1 ∈ xT := ⟨by decide, rfl, xin (i := 142) (by decide +kernel) rfl⟩
theorem f_Ru_44 : xFl R_Ru 44 R_St F_St 11 6 := ⟨by decide, rfl, Or.inr ⟨"CursorBase", xinN (i := 143) (by decide +kernel) rfl⟩⟩
theorem f_St_40 : xFl R_St 40 R_St F_St 11 7 := ⟨by decide, rfl, Or.inl (xin (i := 144) (by decide +kernel) rfl)⟩
theorem f_Pa_102 : xFl R_Pa 102 R_St F_St 11 7 := ⟨by decide, rfl, Or.inr ⟨"CursorBase", xinN (i := 145) (by decide +kernel) rfl⟩⟩
theorem f_St_27 : xFl R_St 27 R_St F_St 11 8 := ⟨by decide, rfl, Or.inl (xin (i := 146) (by decide +kernel) rfl)⟩
theorem g_St_27 : 8 < 11 ∧ (F_St 8).1 = R_St ∧ Cond.fieldLink R_St 27 R_St (F_St 8).2.1 (F_St 8).2.2.1 ∈ xT := ⟨by decide, rfl, xin (i := 146) (by decide +kernel) rfl⟩
theorem f_Ru_103 : xFl R_Ru 103 R_St F_St 11 8 := ⟨by decide, rfl, Or.inr ⟨"CursorBase", xinN (i := 147) (by decide +kernel) rfl⟩⟩
theorem f_St_46 : xFl R_St 46 R_St F_St 11 9 := ⟨by decide, rfl, Or.inl (xin (i := 148) (by decide +kernel) rfl)⟩
theorem f_St_33 : xFl R_St 33 R_St F_St 11 10 := ⟨by decide, rfl, Or.inl (xin (i := 149) (by decide +kernel) rfl)⟩
theorem g_St_33 : 10 < 11 ∧ (F_St 10).1 = R_St ∧ Cond.fieldLink R_St 33 R_St (F_St 10).2.1 (F_St 10).2.2.1 ∈ xT := ⟨by decide, rfl, xin (i := 149) (by decide +kernel) rfl⟩
theorem f_Pa_18 : xFl R_Pa 18 R_Pa F_Pa 3 0 := ⟨by decide, rfl, Or.inl (xin (i := 173) (by decide +kernel) rfl)⟩
theorem g_Pa_18 : 0 < 3 ∧ (F_Pa 0).1 = R_Pa ∧ Cond.fieldLink R_Pa 18 R_Pa (F_Pa 0).2.1 (F_Pa 0).2.2.1 ∈ xT := ⟨by decide, rfl, xin (i := 173) (by decide +kernel) rfl⟩
theorem f_Pa_12 : xFl R_Pa 12 R_Pa F_Pa 3 1 := ⟨by decide, rfl, Or.inl (xin (i := 174) (by decide +kernel) rfl)⟩
theorem g_Pa_12 : 1 < 3 ∧ (F_Pa 1).1 = R_Pa ∧ Cond.fieldLink R_Pa 12 R_Pa (F_Pa 1).2.1 (F_Pa 1).2.2.1 ∈ xT := ⟨by decide, rfl, xin (i := 174) (by decide +kernel) rfl⟩
theorem f_Pa_52 : xFl R_Pa 52 R_Pa F_Pa 3 2 := ⟨by decide, rfl, Or.inl (xin (i := 175) (by decide +kernel) rfl)⟩
theorem c_Pa_122 : Cond.classLink R_Pa 122 R_Op ∈ xT := xin (i := 231) (by decide +kernel) rfl
theorem f_Op_9 : xFl R_Op 9 R_Op F_Op 2 0 := ⟨by decide, rfl, Or.inl (xin (i := 237) (by decide +kernel) rfl)⟩
theorem g_Op_9 : 0 < 2 ∧ (F_Op 0).1 = R_Op ∧ Cond.fieldLink R_Op 9 R_Op (F_Op 0).2.1 (F_Op 0).2.2.1 ∈ xT := ⟨by decide, rfl, xin (i := 237) (by decide +kernel) rfl⟩
theorem f_Op_15 : xFl R_Op 15 R_Op F_Op 2 1 := ⟨by decide, rfl, Or.inl (xin (i := 238) (by decide +kernel) rfl)⟩
theorem g_Op_15 : 1 < 2 ∧ (F_Op 1).1 = R_Op ∧ Cond.fieldLink R_Op 15 R_Op (F_Op 1).2.1 (F_Op 1).2.2.1 ∈ xT := ⟨by decide, rfl, xin (i := 238) (by decide +kernel) rfl⟩
theorem c_Pa_117 : Cond.classLink R_Pa 117 R_Cn ∈ xT := xin (i := 244) (by decide +kernel) rfl
theorem f_Cn_9 : xFl R_Cn 9 R_Cn F_Cn 3 0 := ⟨by decide, rfl, Or.inl (xin (i := 250) (by decide +kernel) rfl)⟩
theorem g_Cn_9 : 0 < 3 ∧ (F_Cn 0).1 = R_Cn ∧ Cond.fieldLink R_Cn 9 R_Cn (F_Cn 0).2.1 (F_Cn 0).2.2.1 ∈ xT := ⟨by decide, rfl, xin (i := 250) (by decide +kernel) rfl⟩
theorem f_Cn_15 : xFl R_Cn 15 R_Cn F_Cn 3 1 := ⟨by decide, rfl, Or.inl (xin (i := 251) (by decide +kernel) rfl)⟩
theorem g_Cn_15 : 1 < 3 ∧ (F_Cn 1).1 = R_Cn ∧ Cond.fieldLink R_Cn 15 R_Cn (F_Cn 1).2.1 (F_Cn 1).2.2.1 ∈ xT := ⟨by decide, rfl, xin (i := 251) (by decide +kernel) rfl⟩
theorem f_Cn_19 : xFl R_Cn 19 R_Cn F_Cn 3 2 := ⟨by decide, rfl, Or.inl (xin (i := 252) (by decide +kernel) rfl)⟩
theorem g_Cn_19 : 2 < 3 ∧ (F_Cn 2).1 = R_Cn ∧ Cond.fieldLink R_Cn 19 R_Cn (F_Cn 2).2.1 (F_Cn 2).2.2.1 ∈ xT := ⟨by decide, rfl, xin (i := 252) (by decide +kernel) rfl⟩
theorem q_Ru_99 : Cond.constant R_Ru 99 160000 ∈ xT := xin (i := 538) (by decide +kernel) rfl
theorem c_La_42 : Cond.classLink R_La 42 R_Mo ∈ xT := xin (i := 628) (by decide +kernel) rfl
theorem f_Mo_31 : xFl R_Mo 31 R_Mo F_Mo 29 0 := ⟨by decide, rfl, Or.inl (xin (i := 634) (by decide +kernel) rfl)⟩
theorem f_Mo_7 : xFl R_Mo 7 R_Mo F_Mo 29 1 := ⟨by decide, rfl, Or.inl (xin (i := 635) (by decide +kernel) rfl)⟩
theorem g_Mo_7 : 1 < 29 ∧ (F_Mo 1).1 = R_Mo ∧ Cond.fieldLink R_Mo 7 R_Mo (F_Mo 1).2.1 (F_Mo 1).2.2.1 ∈ xT := ⟨by decide, rfl, xin (i := 635) (by decide +kernel) rfl⟩
theorem f_Mo_13 : xFl R_Mo 13 R_Mo F_Mo 29 2 := ⟨by decide, rfl, Or.inl (xin (i := 636) (by decide +kernel) rfl)⟩
theorem g_Mo_13 : 2 < 29 ∧ (F_Mo 2).1 = R_Mo ∧ Cond.fieldLink R_Mo 13 R_Mo (F_Mo 2).2.1 (F_Mo 2).2.2.1 ∈ xT := ⟨by decide, rfl, xin (i := 636) (by decide +kernel) rfl⟩
theorem f_Mo_16 : xFl R_Mo 16 R_Mo F_Mo 29 3 := ⟨by decide, rfl, Or.inl (xin (i := 637) (by decide +kernel) rfl)⟩
theorem g_Mo_16 : 3 < 29 ∧ (F_Mo 3).1 = R_Mo ∧ Cond.fieldLink R_Mo 16 R_Mo (F_Mo 3).2.1 (F_Mo 3).2.2.1 ∈ xT := ⟨by decide, rfl, xin (i := 637) (by decide +kernel) rfl⟩
theorem f_Mo_159 : xFl R_Mo 159 R_Mo F_Mo 29 4 := ⟨by decide, rfl, Or.inl (xin (i := 638) (by decide +kernel) rfl)⟩
theorem f_Mo_19 : xFl R_Mo 19 R_Mo F_Mo 29 5 := ⟨by decide, rfl, Or.inl (xin (i := 639) (by decide +kernel) rfl)⟩
theorem g_Mo_19 : 5 < 29 ∧ (F_Mo 5).1 = R_Mo ∧ Cond.fieldLink R_Mo 19 R_Mo (F_Mo 5).2.1 (F_Mo 5).2.2.1 ∈ xT := ⟨by decide, rfl, xin (i := 639) (by decide +kernel) rfl⟩
theorem f_Mo_22 : xFl R_Mo 22 R_Mo F_Mo 29 6 := ⟨by decide, rfl, Or.inl (xin (i := 640) (by decide +kernel) rfl)⟩
theorem g_Mo_22 : 6 < 29 ∧ (F_Mo 6).1 = R_Mo ∧ Cond.fieldLink R_Mo 22 R_Mo (F_Mo 6).2.1 (F_Mo 6).2.2.1 ∈ xT := ⟨by decide, rfl, xin (i := 640) (by decide +kernel) rfl⟩
theorem f_Mo_49 : xFl R_Mo 49 R_Mo F_Mo 29 7 := ⟨by decide, rfl, Or.inl (xin (i := 641) (by decide +kernel) rfl)⟩
theorem f_Mo_25 : xFl R_Mo 25 R_Mo F_Mo 29 8 := ⟨by decide, rfl, Or.inl (xin (i := 642) (by decide +kernel) rfl)⟩
theorem g_Mo_25 : 8 < 29 ∧ (F_Mo 8).1 = R_Mo ∧ Cond.fieldLink R_Mo 25 R_Mo (F_Mo 8).2.1 (F_Mo 8).2.2.1 ∈ xT := ⟨by decide, rfl, xin (i := 642) (by decide +kernel) rfl⟩
theorem f_Mo_28 : xFl R_Mo 28 R_Mo F_Mo 29 9 := ⟨by decide, rfl, Or.inl (xin (i := 643) (by decide +kernel) rfl)⟩
theorem g_Mo_28 : 9 < 29 ∧ (F_Mo 9).1 = R_Mo ∧ Cond.fieldLink R_Mo 28 R_Mo (F_Mo 9).2.1 (F_Mo 9).2.2.1 ∈ xT := ⟨by decide, rfl, xin (i := 643) (by decide +kernel) rfl⟩
theorem f_Mo_112 : xFl R_Mo 112 R_Mo F_Mo 29 10 := ⟨by decide, rfl, Or.inl (xin (i := 644) (by decide +kernel) rfl)⟩
theorem f_Mo_130 : xFl R_Mo 130 R_Mo F_Mo 29 11 := ⟨by decide, rfl, Or.inl (xin (i := 645) (by decide +kernel) rfl)⟩
theorem f_Mo_115 : xFl R_Mo 115 R_Mo F_Mo 29 12 := ⟨by decide, rfl, Or.inl (xin (i := 646) (by decide +kernel) rfl)⟩
theorem f_Mo_118 : xFl R_Mo 118 R_Mo F_Mo 29 13 := ⟨by decide, rfl, Or.inl (xin (i := 647) (by decide +kernel) rfl)⟩
theorem f_Mo_121 : xFl R_Mo 121 R_Mo F_Mo 29 14 := ⟨by decide, rfl, Or.inl (xin (i := 648) (by decide +kernel) rfl)⟩
theorem f_Mo_124 : xFl R_Mo 124 R_Mo F_Mo 29 15 := ⟨by decide, rfl, Or.inl (xin (i := 649) (by decide +kernel) rfl)⟩
theorem f_Mo_127 : xFl R_Mo 127 R_Mo F_Mo 29 16 := ⟨by decide, rfl, Or.inl (xin (i := 650) (by decide +kernel) rfl)⟩
theorem f_Mo_136 : xFl R_Mo 136 R_Mo F_Mo 29 17 := ⟨by decide, rfl, Or.inl (xin (i := 651) (by decide +kernel) rfl)⟩
theorem f_Mo_139 : xFl R_Mo 139 R_Mo F_Mo 29 18 := ⟨by decide, rfl, Or.inl (xin (i := 652) (by decide +kernel) rfl)⟩
theorem f_Mo_142 : xFl R_Mo 142 R_Mo F_Mo 29 19 := ⟨by decide, rfl, Or.inl (xin (i := 653) (by decide +kernel) rfl)⟩
theorem f_Mo_145 : xFl R_Mo 145 R_Mo F_Mo 29 20 := ⟨by decide, rfl, Or.inl (xin (i := 654) (by decide +kernel) rfl)⟩
theorem f_Mo_148 : xFl R_Mo 148 R_Mo F_Mo 29 21 := ⟨by decide, rfl, Or.inl (xin (i := 655) (by decide +kernel) rfl)⟩
theorem f_Mo_172 : xFl R_Mo 172 R_Mo F_Mo 29 22 := ⟨by decide, rfl, Or.inl (xin (i := 656) (by decide +kernel) rfl)⟩
theorem f_Mo_52 : xFl R_Mo 52 R_Mo F_Mo 29 23 := ⟨by decide, rfl, Or.inl (xin (i := 657) (by decide +kernel) rfl)⟩
theorem f_Mo_82 : xFl R_Mo 82 R_Mo F_Mo 29 24 := ⟨by decide, rfl, Or.inl (xin (i := 658) (by decide +kernel) rfl)⟩
theorem f_Mo_85 : xFl R_Mo 85 R_Mo F_Mo 29 25 := ⟨by decide, rfl, Or.inl (xin (i := 659) (by decide +kernel) rfl)⟩
theorem f_Mo_62 : xFl R_Mo 62 R_Mo F_Mo 29 26 := ⟨by decide, rfl, Or.inl (xin (i := 660) (by decide +kernel) rfl)⟩
theorem f_Mo_65 : xFl R_Mo 65 R_Mo F_Mo 29 27 := ⟨by decide, rfl, Or.inl (xin (i := 661) (by decide +kernel) rfl)⟩
theorem f_Mo_91 : xFl R_Mo 91 R_Mo F_Mo 29 28 := ⟨by decide, rfl, Or.inl (xin (i := 662) (by decide +kernel) rfl)⟩
theorem q_Mo_35 : Cond.constantLong R_Mo 35 13 ∈ xT := xin (i := 730) (by decide +kernel) rfl
theorem q_Mo_41 : Cond.constantLong R_Mo 41 9 ∈ xT := xin (i := 734) (by decide +kernel) rfl
theorem q_Mo_43 : Cond.constantLong R_Mo 43 5 ∈ xT := xin (i := 735) (by decide +kernel) rfl
theorem q_Mo_45 : Cond.constantLong R_Mo 45 10 ∈ xT := xin (i := 736) (by decide +kernel) rfl
theorem q_Mo_47 : Cond.constantLong R_Mo 47 15 ∈ xT := xin (i := 737) (by decide +kernel) rfl
theorem q_Mo_104 : Cond.constantLong R_Mo 104 6 ∈ xT := xin (i := 786) (by decide +kernel) rfl
theorem v_CB_init : xY 1 y_CB_init b_CB_init 1 none 0 := ⟨xin (i := 21) (by decide +kernel) rfl, xin (i := 1) (by decide +kernel) rfl, ⟨by decide +kernel, by decide +kernel⟩, by decide +kernel, fun h => absurd h (by decide), fun _ => ⟨xin (i := 20) (by decide +kernel) rfl, rfl, rfl⟩, fun h => absurd h (by decide)⟩
theorem v_To_init : xY 1 y_To_init b_To_init 1 none 0 := ⟨xin (i := 29) (by decide +kernel) rfl, xin (i := 2) (by decide +kernel) rfl, ⟨by decide +kernel, by decide +kernel⟩, by decide +kernel, fun h => absurd h (by decide), fun _ => ⟨xin (i := 28) (by decide +kernel) rfl, rfl, rfl⟩, fun h => absurd h (by decide)⟩
theorem v_Ta_init : xY 1 y_Ta_init b_Ta_init 1 none 0 := ⟨xin (i := 50) (by decide +kernel) rfl, xin (i := 3) (by decide +kernel) rfl, ⟨by decide +kernel, by decide +kernel⟩, by decide +kernel, fun h => absurd h (by decide), fun _ => ⟨xin (i := 49) (by decide +kernel) rfl, rfl, rfl⟩, fun h => absurd h (by decide)⟩
theorem v_Ru_init : xY 1 y_Ru_init b_Ru_init 1 none 0 := ⟨xin (i := 66) (by decide +kernel) rfl, xin (i := 4) (by decide +kernel) rfl, ⟨by decide +kernel, by decide +kernel⟩, by decide +kernel, fun h => absurd h (by decide), fun _ => ⟨xin (i := 65) (by decide +kernel) rfl, rfl, rfl⟩, fun h => absurd h (by decide)⟩
theorem v_CB_prepare : xY 0 y_CB_prepare b_CB_prepare 3 (some .int) 0 := ⟨xin (i := 109) (by decide +kernel) rfl, xin (i := 1) (by decide +kernel) rfl, ⟨by decide +kernel, by decide +kernel⟩, by decide +kernel, fun _ => ⟨xin (i := 107) (by decide +kernel) rfl, xin (i := 108) (by decide +kernel) rfl⟩, fun h => absurd h (by decide), fun h => absurd h (by decide)⟩
theorem v_Pa_init : xY 1 y_Pa_init b_Pa_init 2 none 1 := ⟨xin (i := 114) (by decide +kernel) rfl, xin (i := 11) (by decide +kernel) rfl, ⟨by decide +kernel, by decide +kernel⟩, by decide +kernel, fun h => absurd h (by decide), fun _ => ⟨xin (i := 113) (by decide +kernel) rfl, rfl, rfl⟩, fun h => absurd h (by decide)⟩
theorem v_St_init : xY 1 y_St_init b_St_init 1 none 0 := ⟨xin (i := 120) (by decide +kernel) rfl, xin (i := 12) (by decide +kernel) rfl, ⟨by decide +kernel, by decide +kernel⟩, by decide +kernel, fun h => absurd h (by decide), fun _ => ⟨xin (i := 119) (by decide +kernel) rfl, rfl, rfl⟩, fun h => absurd h (by decide)⟩
theorem v_Pa_parse : xY 0 y_Pa_parse b_Pa_parse 2 (some (.object "CursorBase$Statement")) 0 := ⟨xin (i := 186) (by decide +kernel) rfl, xin (i := 11) (by decide +kernel) rfl, ⟨by decide +kernel, by decide +kernel⟩, by decide +kernel, fun _ => ⟨xin (i := 184) (by decide +kernel) rfl, xin (i := 185) (by decide +kernel) rfl⟩, fun h => absurd h (by decide), fun h => absurd h (by decide)⟩
theorem v_Pa_takeWordBetween : xY 0 y_Pa_takeWordBetween b_Pa_takeWordBetween 3 (some .int) 2 := ⟨xin (i := 190) (by decide +kernel) rfl, xin (i := 11) (by decide +kernel) rfl, ⟨by decide +kernel, by decide +kernel⟩, by decide +kernel, fun _ => ⟨xin (i := 189) (by decide +kernel) rfl, xinP (i := 0) (by decide +kernel) rfl⟩, fun h => absurd h (by decide), fun h => absurd h (by decide)⟩
theorem v_To_isKind : xY 0 y_To_isKind b_To_isKind 3 (some .boolean) 2 := ⟨xin (i := 194) (by decide +kernel) rfl, xin (i := 2) (by decide +kernel) rfl, ⟨by decide +kernel, by decide +kernel⟩, by decide +kernel, fun _ => ⟨xin (i := 192) (by decide +kernel) rfl, xin (i := 193) (by decide +kernel) rfl⟩, fun h => absurd h (by decide), fun h => absurd h (by decide)⟩
theorem v_Pa_takeFirstTable : xY 0 y_Pa_takeFirstTable b_Pa_takeFirstTable 1 (some .boolean) 0 := ⟨xin (i := 198) (by decide +kernel) rfl, xin (i := 11) (by decide +kernel) rfl, ⟨by decide +kernel, by decide +kernel⟩, by decide +kernel, fun _ => ⟨xin (i := 197) (by decide +kernel) rfl, xinP (i := 1) (by decide +kernel) rfl⟩, fun h => absurd h (by decide), fun h => absurd h (by decide)⟩
theorem v_Pa_takeTable : xY 0 y_Pa_takeTable b_Pa_takeTable 1 (some .int) 0 := ⟨xin (i := 202) (by decide +kernel) rfl, xin (i := 11) (by decide +kernel) rfl, ⟨by decide +kernel, by decide +kernel⟩, by decide +kernel, fun _ => ⟨xin (i := 201) (by decide +kernel) rfl, xinP (i := 2) (by decide +kernel) rfl⟩, fun h => absurd h (by decide), fun h => absurd h (by decide)⟩
theorem v_Pa_takeNumber : xY 0 y_Pa_takeNumber b_Pa_takeNumber 1 (some .boolean) 0 := ⟨xin (i := 206) (by decide +kernel) rfl, xin (i := 11) (by decide +kernel) rfl, ⟨by decide +kernel, by decide +kernel⟩, by decide +kernel, fun _ => ⟨xin (i := 205) (by decide +kernel) rfl, xinP (i := 3) (by decide +kernel) rfl⟩, fun h => absurd h (by decide), fun h => absurd h (by decide)⟩
theorem v_St_addNumber : xY 0 y_St_addNumber b_St_addNumber 2 none 1 := ⟨xin (i := 210) (by decide +kernel) rfl, xin (i := 12) (by decide +kernel) rfl, ⟨by decide +kernel, by decide +kernel⟩, by decide +kernel, fun _ => ⟨xin (i := 208) (by decide +kernel) rfl, xin (i := 209) (by decide +kernel) rfl⟩, fun h => absurd h (by decide), fun h => absurd h (by decide)⟩
theorem v_Pa_takeNumbers : xY 0 y_Pa_takeNumbers b_Pa_takeNumbers 3 (some .boolean) 0 := ⟨xin (i := 214) (by decide +kernel) rfl, xin (i := 11) (by decide +kernel) rfl, ⟨by decide +kernel, by decide +kernel⟩, by decide +kernel, fun _ => ⟨xin (i := 213) (by decide +kernel) rfl, xinP (i := 4) (by decide +kernel) rfl⟩, fun h => absurd h (by decide), fun h => absurd h (by decide)⟩
theorem v_Pa_takeConditions : xY 0 y_Pa_takeConditions b_Pa_takeConditions 4 (some .boolean) 0 := ⟨xin (i := 218) (by decide +kernel) rfl, xin (i := 11) (by decide +kernel) rfl, ⟨by decide +kernel, by decide +kernel⟩, by decide +kernel, fun _ => ⟨xin (i := 217) (by decide +kernel) rfl, xinP (i := 5) (by decide +kernel) rfl⟩, fun h => absurd h (by decide), fun h => absurd h (by decide)⟩
theorem v_Pa_takeWord : xY 0 y_Pa_takeWord b_Pa_takeWord 2 (some .boolean) 1 := ⟨xin (i := 222) (by decide +kernel) rfl, xin (i := 11) (by decide +kernel) rfl, ⟨by decide +kernel, by decide +kernel⟩, by decide +kernel, fun _ => ⟨xin (i := 221) (by decide +kernel) rfl, xinP (i := 6) (by decide +kernel) rfl⟩, fun h => absurd h (by decide), fun h => absurd h (by decide)⟩
theorem v_Pa_takeCondition : xY 0 y_Pa_takeCondition b_Pa_takeCondition 4 (some (.object "CursorBase$Condition")) 0 := ⟨xin (i := 226) (by decide +kernel) rfl, xin (i := 11) (by decide +kernel) rfl, ⟨by decide +kernel, by decide +kernel⟩, by decide +kernel, fun _ => ⟨xin (i := 225) (by decide +kernel) rfl, xinP (i := 7) (by decide +kernel) rfl⟩, fun h => absurd h (by decide), fun h => absurd h (by decide)⟩
theorem v_Pa_takeOperand : xY 0 y_Pa_takeOperand b_Pa_takeOperand 1 (some (.object "CursorBase$Operand")) 0 := ⟨xin (i := 230) (by decide +kernel) rfl, xin (i := 11) (by decide +kernel) rfl, ⟨by decide +kernel, by decide +kernel⟩, by decide +kernel, fun _ => ⟨xin (i := 229) (by decide +kernel) rfl, xinP (i := 8) (by decide +kernel) rfl⟩, fun h => absurd h (by decide), fun h => absurd h (by decide)⟩
theorem v_Op_init : xY 1 y_Op_init b_Op_init 3 none 2 := ⟨xin (i := 235) (by decide +kernel) rfl, xin (i := 13) (by decide +kernel) rfl, ⟨by decide +kernel, by decide +kernel⟩, by decide +kernel, fun h => absurd h (by decide), fun _ => ⟨xin (i := 234) (by decide +kernel) rfl, rfl, rfl⟩, fun h => absurd h (by decide)⟩
theorem v_Cn_init : xY 1 y_Cn_init b_Cn_init 4 none 3 := ⟨xin (i := 248) (by decide +kernel) rfl, xin (i := 14) (by decide +kernel) rfl, ⟨by decide +kernel, by decide +kernel⟩, by decide +kernel, fun h => absurd h (by decide), fun _ => ⟨xin (i := 247) (by decide +kernel) rfl, rfl, rfl⟩, fun h => absurd h (by decide)⟩
theorem v_St_addCondition : xY 0 y_St_addCondition b_St_addCondition 2 none 1 := ⟨xin (i := 263) (by decide +kernel) rfl, xin (i := 12) (by decide +kernel) rfl, ⟨by decide +kernel, by decide +kernel⟩, by decide +kernel, fun _ => ⟨xin (i := 261) (by decide +kernel) rfl, xin (i := 262) (by decide +kernel) rfl⟩, fun h => absurd h (by decide), fun h => absurd h (by decide)⟩
theorem v_Pa_takeList : xY 0 y_Pa_takeList b_Pa_takeList 1 (some .boolean) 0 := ⟨xin (i := 267) (by decide +kernel) rfl, xin (i := 11) (by decide +kernel) rfl, ⟨by decide +kernel, by decide +kernel⟩, by decide +kernel, fun _ => ⟨xin (i := 266) (by decide +kernel) rfl, xinP (i := 9) (by decide +kernel) rfl⟩, fun h => absurd h (by decide), fun h => absurd h (by decide)⟩
theorem v_Pa_takeColumns : xY 0 y_Pa_takeColumns b_Pa_takeColumns 3 (some .boolean) 1 := ⟨xin (i := 271) (by decide +kernel) rfl, xin (i := 11) (by decide +kernel) rfl, ⟨by decide +kernel, by decide +kernel⟩, by decide +kernel, fun _ => ⟨xin (i := 270) (by decide +kernel) rfl, xinP (i := 10) (by decide +kernel) rfl⟩, fun h => absurd h (by decide), fun h => absurd h (by decide)⟩
theorem v_St_addPick : xY 0 y_St_addPick b_St_addPick 2 none 1 := ⟨xin (i := 275) (by decide +kernel) rfl, xin (i := 12) (by decide +kernel) rfl, ⟨by decide +kernel, by decide +kernel⟩, by decide +kernel, fun _ => ⟨xin (i := 273) (by decide +kernel) rfl, xin (i := 274) (by decide +kernel) rfl⟩, fun h => absurd h (by decide), fun h => absurd h (by decide)⟩
theorem v_Pa_takeFrom : xY 0 y_Pa_takeFrom b_Pa_takeFrom 1 (some .boolean) 0 := ⟨xin (i := 280) (by decide +kernel) rfl, xin (i := 11) (by decide +kernel) rfl, ⟨by decide +kernel, by decide +kernel⟩, by decide +kernel, fun _ => ⟨xin (i := 279) (by decide +kernel) rfl, xinP (i := 11) (by decide +kernel) rfl⟩, fun h => absurd h (by decide), fun h => absurd h (by decide)⟩
theorem v_Pa_takeOrder : xY 0 y_Pa_takeOrder b_Pa_takeOrder 1 (some .boolean) 0 := ⟨xin (i := 284) (by decide +kernel) rfl, xin (i := 11) (by decide +kernel) rfl, ⟨by decide +kernel, by decide +kernel⟩, by decide +kernel, fun _ => ⟨xin (i := 283) (by decide +kernel) rfl, xinP (i := 12) (by decide +kernel) rfl⟩, fun h => absurd h (by decide), fun h => absurd h (by decide)⟩
theorem v_To_drop : xY 0 y_To_drop b_To_drop 1 none 0 := ⟨xin (i := 288) (by decide +kernel) rfl, xin (i := 2) (by decide +kernel) rfl, ⟨by decide +kernel, by decide +kernel⟩, by decide +kernel, fun _ => ⟨xin (i := 286) (by decide +kernel) rfl, xin (i := 287) (by decide +kernel) rfl⟩, fun h => absurd h (by decide), fun h => absurd h (by decide)⟩
theorem v_St_fault : xY 0 y_St_fault b_St_fault 2 (some .int) 1 := ⟨xin (i := 292) (by decide +kernel) rfl, xin (i := 12) (by decide +kernel) rfl, ⟨by decide +kernel, by decide +kernel⟩, by decide +kernel, fun _ => ⟨xin (i := 290) (by decide +kernel) rfl, xin (i := 291) (by decide +kernel) rfl⟩, fun h => absurd h (by decide), fun h => absurd h (by decide)⟩
theorem v_St_faultOfCreate : xY 0 y_St_faultOfCreate b_St_faultOfCreate 2 (some .int) 1 := ⟨xin (i := 296) (by decide +kernel) rfl, xin (i := 12) (by decide +kernel) rfl, ⟨by decide +kernel, by decide +kernel⟩, by decide +kernel, fun _ => ⟨xin (i := 295) (by decide +kernel) rfl, xinP (i := 13) (by decide +kernel) rfl⟩, fun h => absurd h (by decide), fun h => absurd h (by decide)⟩
theorem v_Ta_isThere : xY 0 y_Ta_isThere b_Ta_isThere 2 (some .boolean) 1 := ⟨xin (i := 300) (by decide +kernel) rfl, xin (i := 3) (by decide +kernel) rfl, ⟨by decide +kernel, by decide +kernel⟩, by decide +kernel, fun _ => ⟨xin (i := 298) (by decide +kernel) rfl, xin (i := 299) (by decide +kernel) rfl⟩, fun h => absurd h (by decide), fun h => absurd h (by decide)⟩
theorem v_Ta_columnsOf : xY 0 y_Ta_columnsOf b_Ta_columnsOf 2 (some .int) 1 := ⟨xin (i := 304) (by decide +kernel) rfl, xin (i := 3) (by decide +kernel) rfl, ⟨by decide +kernel, by decide +kernel⟩, by decide +kernel, fun _ => ⟨xin (i := 302) (by decide +kernel) rfl, xin (i := 303) (by decide +kernel) rfl⟩, fun h => absurd h (by decide), fun h => absurd h (by decide)⟩
theorem v_St_columnsAreThere : xY 0 y_St_columnsAreThere b_St_columnsAreThere 4 (some .boolean) 2 := ⟨xin (i := 309) (by decide +kernel) rfl, xin (i := 12) (by decide +kernel) rfl, ⟨by decide +kernel, by decide +kernel⟩, by decide +kernel, fun _ => ⟨xin (i := 308) (by decide +kernel) rfl, xinP (i := 14) (by decide +kernel) rfl⟩, fun h => absurd h (by decide), fun h => absurd h (by decide)⟩
theorem v_Op_isThere : xY 0 y_Op_isThere b_Op_isThere 3 (some .boolean) 2 := ⟨xin (i := 313) (by decide +kernel) rfl, xin (i := 13) (by decide +kernel) rfl, ⟨by decide +kernel, by decide +kernel⟩, by decide +kernel, fun _ => ⟨xin (i := 311) (by decide +kernel) rfl, xin (i := 312) (by decide +kernel) rfl⟩, fun h => absurd h (by decide), fun h => absurd h (by decide)⟩
theorem v_Cn_isThere : xY 0 y_Cn_isThere b_Cn_isThere 3 (some .boolean) 2 := ⟨xin (i := 317) (by decide +kernel) rfl, xin (i := 14) (by decide +kernel) rfl, ⟨by decide +kernel, by decide +kernel⟩, by decide +kernel, fun _ => ⟨xin (i := 315) (by decide +kernel) rfl, xin (i := 316) (by decide +kernel) rfl⟩, fun h => absurd h (by decide), fun h => absurd h (by decide)⟩
theorem v_St_spellOutAll : xY 0 y_St_spellOutAll b_St_spellOutAll 2 none 1 := ⟨xin (i := 322) (by decide +kernel) rfl, xin (i := 12) (by decide +kernel) rfl, ⟨by decide +kernel, by decide +kernel⟩, by decide +kernel, fun _ => ⟨xin (i := 320) (by decide +kernel) rfl, xin (i := 321) (by decide +kernel) rfl⟩, fun h => absurd h (by decide), fun h => absurd h (by decide)⟩
theorem v_St_addPicks : xY 0 y_St_addPicks b_St_addPicks 4 none 2 := ⟨xin (i := 326) (by decide +kernel) rfl, xin (i := 12) (by decide +kernel) rfl, ⟨by decide +kernel, by decide +kernel⟩, by decide +kernel, fun _ => ⟨xin (i := 325) (by decide +kernel) rfl, xinP (i := 15) (by decide +kernel) rfl⟩, fun h => absurd h (by decide), fun h => absurd h (by decide)⟩
theorem v_Ru_begin : xY 0 y_Ru_begin b_Ru_begin 2 none 1 := ⟨xin (i := 331) (by decide +kernel) rfl, xin (i := 4) (by decide +kernel) rfl, ⟨by decide +kernel, by decide +kernel⟩, by decide +kernel, fun _ => ⟨xin (i := 329) (by decide +kernel) rfl, xin (i := 330) (by decide +kernel) rfl⟩, fun h => absurd h (by decide), fun h => absurd h (by decide)⟩
theorem v_CB_all : xY 0 y_CB_all b_CB_all 1 (some .int) 0 := ⟨xin (i := 335) (by decide +kernel) rfl, xin (i := 1) (by decide +kernel) rfl, ⟨by decide +kernel, by decide +kernel⟩, by decide +kernel, fun _ => ⟨xin (i := 333) (by decide +kernel) rfl, xin (i := 334) (by decide +kernel) rfl⟩, fun h => absurd h (by decide), fun h => absurd h (by decide)⟩
theorem v_Ta_rowsInAll : xY 0 y_Ta_rowsInAll b_Ta_rowsInAll 1 (some .int) 0 := ⟨xin (i := 339) (by decide +kernel) rfl, xin (i := 3) (by decide +kernel) rfl, ⟨by decide +kernel, by decide +kernel⟩, by decide +kernel, fun _ => ⟨xin (i := 337) (by decide +kernel) rfl, xin (i := 338) (by decide +kernel) rfl⟩, fun h => absurd h (by decide), fun h => absurd h (by decide)⟩
theorem v_CB_clear : xY 0 y_CB_clear b_CB_clear 1 none 0 := ⟨xin (i := 343) (by decide +kernel) rfl, xin (i := 1) (by decide +kernel) rfl, ⟨by decide +kernel, by decide +kernel⟩, by decide +kernel, fun _ => ⟨xin (i := 341) (by decide +kernel) rfl, xin (i := 342) (by decide +kernel) rfl⟩, fun h => absurd h (by decide), fun h => absurd h (by decide)⟩
theorem v_Ta_drop : xY 0 y_Ta_drop b_Ta_drop 2 none 0 := ⟨xin (i := 347) (by decide +kernel) rfl, xin (i := 3) (by decide +kernel) rfl, ⟨by decide +kernel, by decide +kernel⟩, by decide +kernel, fun _ => ⟨xin (i := 345) (by decide +kernel) rfl, xin (i := 346) (by decide +kernel) rfl⟩, fun h => absurd h (by decide), fun h => absurd h (by decide)⟩
theorem v_CB_feed : xY 0 y_CB_feed b_CB_feed 3 (some .int) 2 := ⟨xin (i := 356) (by decide +kernel) rfl, xin (i := 1) (by decide +kernel) rfl, ⟨by decide +kernel, by decide +kernel⟩, by decide +kernel, fun _ => ⟨xin (i := 354) (by decide +kernel) rfl, xin (i := 355) (by decide +kernel) rfl⟩, fun h => absurd h (by decide), fun h => absurd h (by decide)⟩
theorem v_To_isToken : xY 2 y_To_isToken b_To_isToken 2 (some .boolean) 2 := ⟨xin (i := 359) (by decide +kernel) rfl, xin (i := 2) (by decide +kernel) rfl, ⟨by decide +kernel, by decide +kernel⟩, by decide +kernel, fun h => absurd h (by decide), fun h => absurd h (by decide), fun _ => xin (i := 358) (by decide +kernel) rfl⟩
theorem v_To_isColumnFrom : xY 2 y_To_isColumnFrom b_To_isColumnFrom 2 (some .boolean) 2 := ⟨xin (i := 362) (by decide +kernel) rfl, xin (i := 2) (by decide +kernel) rfl, ⟨by decide +kernel, by decide +kernel⟩, by decide +kernel, fun h => absurd h (by decide), fun h => absurd h (by decide), fun _ => xin (i := 361) (by decide +kernel) rfl⟩
theorem v_To_isFull : xY 0 y_To_isFull b_To_isFull 1 (some .boolean) 0 := ⟨xin (i := 434) (by decide +kernel) rfl, xin (i := 2) (by decide +kernel) rfl, ⟨by decide +kernel, by decide +kernel⟩, by decide +kernel, fun _ => ⟨xin (i := 432) (by decide +kernel) rfl, xin (i := 433) (by decide +kernel) rfl⟩, fun h => absurd h (by decide), fun h => absurd h (by decide)⟩
theorem v_To_put : xY 0 y_To_put b_To_put 3 none 2 := ⟨xin (i := 454) (by decide +kernel) rfl, xin (i := 2) (by decide +kernel) rfl, ⟨by decide +kernel, by decide +kernel⟩, by decide +kernel, fun _ => ⟨xin (i := 452) (by decide +kernel) rfl, xin (i := 453) (by decide +kernel) rfl⟩, fun h => absurd h (by decide), fun h => absurd h (by decide)⟩
theorem v_CB_step : xY 0 y_CB_step b_CB_step 1 (some .int) 0 := ⟨xin (i := 462) (by decide +kernel) rfl, xin (i := 1) (by decide +kernel) rfl, ⟨by decide +kernel, by decide +kernel⟩, by decide +kernel, fun _ => ⟨xin (i := 460) (by decide +kernel) rfl, xin (i := 461) (by decide +kernel) rfl⟩, fun h => absurd h (by decide), fun h => absurd h (by decide)⟩
theorem v_Ru_advance : xY 0 y_Ru_advance b_Ru_advance 3 (some .int) 1 := ⟨xin (i := 467) (by decide +kernel) rfl, xin (i := 4) (by decide +kernel) rfl, ⟨by decide +kernel, by decide +kernel⟩, by decide +kernel, fun _ => ⟨xin (i := 465) (by decide +kernel) rfl, xin (i := 466) (by decide +kernel) rfl⟩, fun h => absurd h (by decide), fun h => absurd h (by decide)⟩
theorem v_Ta_create : xY 0 y_Ta_create b_Ta_create 3 (some .int) 2 := ⟨xin (i := 471) (by decide +kernel) rfl, xin (i := 3) (by decide +kernel) rfl, ⟨by decide +kernel, by decide +kernel⟩, by decide +kernel, fun _ => ⟨xin (i := 469) (by decide +kernel) rfl, xin (i := 470) (by decide +kernel) rfl⟩, fun h => absurd h (by decide), fun h => absurd h (by decide)⟩
theorem v_Ta_insert : xY 0 y_Ta_insert b_Ta_insert 5 (some .int) 2 := ⟨xin (i := 476) (by decide +kernel) rfl, xin (i := 3) (by decide +kernel) rfl, ⟨by decide +kernel, by decide +kernel⟩, by decide +kernel, fun _ => ⟨xin (i := 474) (by decide +kernel) rfl, xin (i := 475) (by decide +kernel) rfl⟩, fun h => absurd h (by decide), fun h => absurd h (by decide)⟩
theorem v_Ta_placeNotBelow : xY 0 y_Ta_placeNotBelow b_Ta_placeNotBelow 5 (some .int) 2 := ⟨xin (i := 480) (by decide +kernel) rfl, xin (i := 3) (by decide +kernel) rfl, ⟨by decide +kernel, by decide +kernel⟩, by decide +kernel, fun _ => ⟨xin (i := 479) (by decide +kernel) rfl, xinP (i := 17) (by decide +kernel) rfl⟩, fun h => absurd h (by decide), fun h => absurd h (by decide)⟩
theorem v_Ta_rowsOf : xY 0 y_Ta_rowsOf b_Ta_rowsOf 2 (some .int) 1 := ⟨xin (i := 484) (by decide +kernel) rfl, xin (i := 3) (by decide +kernel) rfl, ⟨by decide +kernel, by decide +kernel⟩, by decide +kernel, fun _ => ⟨xin (i := 482) (by decide +kernel) rfl, xin (i := 483) (by decide +kernel) rfl⟩, fun h => absurd h (by decide), fun h => absurd h (by decide)⟩
theorem v_Ta_keyAt : xY 0 y_Ta_keyAt b_Ta_keyAt 3 (some .int) 2 := ⟨xin (i := 488) (by decide +kernel) rfl, xin (i := 3) (by decide +kernel) rfl, ⟨by decide +kernel, by decide +kernel⟩, by decide +kernel, fun _ => ⟨xin (i := 486) (by decide +kernel) rfl, xin (i := 487) (by decide +kernel) rfl⟩, fun h => absurd h (by decide), fun h => absurd h (by decide)⟩
theorem v_Ta_cellOf : xY 0 y_Ta_cellOf b_Ta_cellOf 3 (some .int) 2 := ⟨xin (i := 492) (by decide +kernel) rfl, xin (i := 3) (by decide +kernel) rfl, ⟨by decide +kernel, by decide +kernel⟩, by decide +kernel, fun _ => ⟨xin (i := 491) (by decide +kernel) rfl, xinP (i := 18) (by decide +kernel) rfl⟩, fun h => absurd h (by decide), fun h => absurd h (by decide)⟩
theorem v_Ta_hasKeyAt : xY 0 y_Ta_hasKeyAt b_Ta_hasKeyAt 4 (some .boolean) 3 := ⟨xin (i := 496) (by decide +kernel) rfl, xin (i := 3) (by decide +kernel) rfl, ⟨by decide +kernel, by decide +kernel⟩, by decide +kernel, fun _ => ⟨xin (i := 495) (by decide +kernel) rfl, xinP (i := 19) (by decide +kernel) rfl⟩, fun h => absurd h (by decide), fun h => absurd h (by decide)⟩
theorem v_Ta_moveStartsBehind : xY 0 y_Ta_moveStartsBehind b_Ta_moveStartsBehind 4 none 2 := ⟨xin (i := 504) (by decide +kernel) rfl, xin (i := 3) (by decide +kernel) rfl, ⟨by decide +kernel, by decide +kernel⟩, by decide +kernel, fun _ => ⟨xin (i := 503) (by decide +kernel) rfl, xinP (i := 20) (by decide +kernel) rfl⟩, fun h => absurd h (by decide), fun h => absurd h (by decide)⟩
theorem v_Ru_deleteRows : xY 0 y_Ru_deleteRows b_Ru_deleteRows 3 none 1 := ⟨xin (i := 508) (by decide +kernel) rfl, xin (i := 4) (by decide +kernel) rfl, ⟨by decide +kernel, by decide +kernel⟩, by decide +kernel, fun _ => ⟨xin (i := 507) (by decide +kernel) rfl, xinP (i := 21) (by decide +kernel) rfl⟩, fun h => absurd h (by decide), fun h => absurd h (by decide)⟩
theorem v_Ta_read : xY 0 y_Ta_read b_Ta_read 5 none 4 := ⟨xin (i := 513) (by decide +kernel) rfl, xin (i := 3) (by decide +kernel) rfl, ⟨by decide +kernel, by decide +kernel⟩, by decide +kernel, fun _ => ⟨xin (i := 511) (by decide +kernel) rfl, xin (i := 512) (by decide +kernel) rfl⟩, fun h => absurd h (by decide), fun h => absurd h (by decide)⟩
theorem v_St_holds : xY 0 y_St_holds b_St_holds 3 (some .boolean) 1 := ⟨xin (i := 517) (by decide +kernel) rfl, xin (i := 12) (by decide +kernel) rfl, ⟨by decide +kernel, by decide +kernel⟩, by decide +kernel, fun _ => ⟨xin (i := 515) (by decide +kernel) rfl, xin (i := 516) (by decide +kernel) rfl⟩, fun h => absurd h (by decide), fun h => absurd h (by decide)⟩
theorem v_Cn_holds : xY 0 y_Cn_holds b_Cn_holds 4 (some .boolean) 1 := ⟨xin (i := 521) (by decide +kernel) rfl, xin (i := 14) (by decide +kernel) rfl, ⟨by decide +kernel, by decide +kernel⟩, by decide +kernel, fun _ => ⟨xin (i := 519) (by decide +kernel) rfl, xin (i := 520) (by decide +kernel) rfl⟩, fun h => absurd h (by decide), fun h => absurd h (by decide)⟩
theorem v_Op_value : xY 0 y_Op_value b_Op_value 2 (some .int) 1 := ⟨xin (i := 525) (by decide +kernel) rfl, xin (i := 13) (by decide +kernel) rfl, ⟨by decide +kernel, by decide +kernel⟩, by decide +kernel, fun _ => ⟨xin (i := 523) (by decide +kernel) rfl, xin (i := 524) (by decide +kernel) rfl⟩, fun h => absurd h (by decide), fun h => absurd h (by decide)⟩
theorem v_Ta_remove : xY 0 y_Ta_remove b_Ta_remove 4 none 2 := ⟨xin (i := 529) (by decide +kernel) rfl, xin (i := 3) (by decide +kernel) rfl, ⟨by decide +kernel, by decide +kernel⟩, by decide +kernel, fun _ => ⟨xin (i := 527) (by decide +kernel) rfl, xin (i := 528) (by decide +kernel) rfl⟩, fun h => absurd h (by decide), fun h => absurd h (by decide)⟩
theorem v_St_hasTotal : xY 0 y_St_hasTotal b_St_hasTotal 1 (some .boolean) 0 := ⟨xin (i := 533) (by decide +kernel) rfl, xin (i := 12) (by decide +kernel) rfl, ⟨by decide +kernel, by decide +kernel⟩, by decide +kernel, fun _ => ⟨xin (i := 531) (by decide +kernel) rfl, xin (i := 532) (by decide +kernel) rfl⟩, fun h => absurd h (by decide), fun h => absurd h (by decide)⟩
theorem v_Ru_giveTotal : xY 0 y_Ru_giveTotal b_Ru_giveTotal 3 (some .int) 1 := ⟨xin (i := 537) (by decide +kernel) rfl, xin (i := 4) (by decide +kernel) rfl, ⟨by decide +kernel, by decide +kernel⟩, by decide +kernel, fun _ => ⟨xin (i := 536) (by decide +kernel) rfl, xinP (i := 22) (by decide +kernel) rfl⟩, fun h => absurd h (by decide), fun h => absurd h (by decide)⟩
theorem v_Ru_findRow : xY 0 y_Ru_findRow b_Ru_findRow 4 (some .boolean) 1 := ⟨xin (i := 542) (by decide +kernel) rfl, xin (i := 4) (by decide +kernel) rfl, ⟨by decide +kernel, by decide +kernel⟩, by decide +kernel, fun _ => ⟨xin (i := 541) (by decide +kernel) rfl, xinP (i := 23) (by decide +kernel) rfl⟩, fun h => absurd h (by decide), fun h => absurd h (by decide)⟩
theorem v_Ru_place : xY 0 y_Ru_place b_Ru_place 3 (some .int) 2 := ⟨xin (i := 546) (by decide +kernel) rfl, xin (i := 4) (by decide +kernel) rfl, ⟨by decide +kernel, by decide +kernel⟩, by decide +kernel, fun _ => ⟨xin (i := 545) (by decide +kernel) rfl, xinP (i := 24) (by decide +kernel) rfl⟩, fun h => absurd h (by decide), fun h => absurd h (by decide)⟩
theorem v_Ru_giveRow : xY 0 y_Ru_giveRow b_Ru_giveRow 2 (some .int) 1 := ⟨xin (i := 551) (by decide +kernel) rfl, xin (i := 4) (by decide +kernel) rfl, ⟨by decide +kernel, by decide +kernel⟩, by decide +kernel, fun _ => ⟨xin (i := 550) (by decide +kernel) rfl, xinP (i := 25) (by decide +kernel) rfl⟩, fun h => absurd h (by decide), fun h => absurd h (by decide)⟩
theorem v_Ru_note : xY 0 y_Ru_note b_Ru_note 2 none 1 := ⟨xin (i := 555) (by decide +kernel) rfl, xin (i := 4) (by decide +kernel) rfl, ⟨by decide +kernel, by decide +kernel⟩, by decide +kernel, fun _ => ⟨xin (i := 554) (by decide +kernel) rfl, xinP (i := 26) (by decide +kernel) rfl⟩, fun h => absurd h (by decide), fun h => absurd h (by decide)⟩
theorem v_CB_reset : xY 0 y_CB_reset b_CB_reset 2 (some .int) 0 := ⟨xin (i := 562) (by decide +kernel) rfl, xin (i := 1) (by decide +kernel) rfl, ⟨by decide +kernel, by decide +kernel⟩, by decide +kernel, fun _ => ⟨xin (i := 560) (by decide +kernel) rfl, xin (i := 561) (by decide +kernel) rfl⟩, fun h => absurd h (by decide), fun h => absurd h (by decide)⟩
theorem v_CB_width : xY 0 y_CB_width b_CB_width 1 (some .int) 0 := ⟨xin (i := 569) (by decide +kernel) rfl, xin (i := 1) (by decide +kernel) rfl, ⟨by decide +kernel, by decide +kernel⟩, by decide +kernel, fun _ => ⟨xin (i := 567) (by decide +kernel) rfl, xin (i := 568) (by decide +kernel) rfl⟩, fun h => absurd h (by decide), fun h => absurd h (by decide)⟩
theorem v_St_columnCount : xY 0 y_St_columnCount b_St_columnCount 1 (some .int) 0 := ⟨xin (i := 573) (by decide +kernel) rfl, xin (i := 12) (by decide +kernel) rfl, ⟨by decide +kernel, by decide +kernel⟩, by decide +kernel, fun _ => ⟨xin (i := 571) (by decide +kernel) rfl, xin (i := 572) (by decide +kernel) rfl⟩, fun h => absurd h (by decide), fun h => absurd h (by decide)⟩
theorem v_CB_column : xY 0 y_CB_column b_CB_column 2 (some .long) 1 := ⟨xin (i := 582) (by decide +kernel) rfl, xin (i := 1) (by decide +kernel) rfl, ⟨by decide +kernel, by decide +kernel⟩, by decide +kernel, fun _ => ⟨xin (i := 580) (by decide +kernel) rfl, xin (i := 581) (by decide +kernel) rfl⟩, fun h => absurd h (by decide), fun h => absurd h (by decide)⟩
theorem v_Ru_valueAt : xY 0 y_Ru_valueAt b_Ru_valueAt 2 (some .long) 1 := ⟨xin (i := 603) (by decide +kernel) rfl, xin (i := 4) (by decide +kernel) rfl, ⟨by decide +kernel, by decide +kernel⟩, by decide +kernel, fun _ => ⟨xin (i := 601) (by decide +kernel) rfl, xin (i := 602) (by decide +kernel) rfl⟩, fun h => absurd h (by decide), fun h => absurd h (by decide)⟩
theorem v_CB_rows : xY 0 y_CB_rows b_CB_rows 2 (some .int) 1 := ⟨xin (i := 610) (by decide +kernel) rfl, xin (i := 1) (by decide +kernel) rfl, ⟨by decide +kernel, by decide +kernel⟩, by decide +kernel, fun _ => ⟨xin (i := 608) (by decide +kernel) rfl, xin (i := 609) (by decide +kernel) rfl⟩, fun h => absurd h (by decide), fun h => absurd h (by decide)⟩
theorem v_CB_nearest : xY 0 y_CB_nearest b_CB_nearest 5 (some .int) 3 := ⟨xin (i := 620) (by decide +kernel) rfl, xin (i := 1) (by decide +kernel) rfl, ⟨by decide +kernel, by decide +kernel⟩, by decide +kernel, fun _ => ⟨xin (i := 618) (by decide +kernel) rfl, xin (i := 619) (by decide +kernel) rfl⟩, fun h => absurd h (by decide), fun h => absurd h (by decide)⟩
theorem v_Ta_placeNearest : xY 0 y_Ta_placeNearest b_Ta_placeNearest 5 (some .int) 3 := ⟨xin (i := 625) (by decide +kernel) rfl, xin (i := 3) (by decide +kernel) rfl, ⟨by decide +kernel, by decide +kernel⟩, by decide +kernel, fun _ => ⟨xin (i := 623) (by decide +kernel) rfl, xin (i := 624) (by decide +kernel) rfl⟩, fun h => absurd h (by decide), fun h => absurd h (by decide)⟩
theorem v_Mo_init : xY 1 y_Mo_init b_Mo_init 1 none 0 := ⟨xin (i := 632) (by decide +kernel) rfl, xin (i := 5) (by decide +kernel) rfl, ⟨by decide +kernel, by decide +kernel⟩, by decide +kernel, fun h => absurd h (by decide), fun _ => ⟨xin (i := 631) (by decide +kernel) rfl, rfl, rfl⟩, fun h => absurd h (by decide)⟩
theorem v_Mo_thrown : xY 0 y_Mo_thrown b_Mo_thrown 1 (some .int) 0 := ⟨xin (i := 725) (by decide +kernel) rfl, xin (i := 5) (by decide +kernel) rfl, ⟨by decide +kernel, by decide +kernel⟩, by decide +kernel, fun _ => ⟨xin (i := 723) (by decide +kernel) rfl, xin (i := 724) (by decide +kernel) rfl⟩, fun h => absurd h (by decide), fun h => absurd h (by decide)⟩
theorem v_Mo_feed : xY 0 y_Mo_feed b_Mo_feed 4 (some .int) 2 := ⟨xin (i := 729) (by decide +kernel) rfl, xin (i := 5) (by decide +kernel) rfl, ⟨by decide +kernel, by decide +kernel⟩, by decide +kernel, fun _ => ⟨xin (i := 727) (by decide +kernel) rfl, xin (i := 728) (by decide +kernel) rfl⟩, fun h => absurd h (by decide), fun h => absurd h (by decide)⟩
theorem v_Mo_in : xY 2 y_Mo_in b_Mo_in 6 (some .boolean) 3 := ⟨xin (i := 733) (by decide +kernel) rfl, xin (i := 5) (by decide +kernel) rfl, ⟨by decide +kernel, by decide +kernel⟩, by decide +kernel, fun h => absurd h (by decide), fun h => absurd h (by decide), fun _ => xin (i := 732) (by decide +kernel) rfl⟩
theorem v_Mo_prepare : xY 0 y_Mo_prepare b_Mo_prepare 3 (some .int) 0 := ⟨xin (i := 741) (by decide +kernel) rfl, xin (i := 5) (by decide +kernel) rfl, ⟨by decide +kernel, by decide +kernel⟩, by decide +kernel, fun _ => ⟨xin (i := 739) (by decide +kernel) rfl, xin (i := 740) (by decide +kernel) rfl⟩, fun h => absurd h (by decide), fun h => absurd h (by decide)⟩
theorem v_Mo_wrong : xY 0 y_Mo_wrong b_Mo_wrong 2 (some .int) 0 := ⟨xin (i := 745) (by decide +kernel) rfl, xin (i := 5) (by decide +kernel) rfl, ⟨by decide +kernel, by decide +kernel⟩, by decide +kernel, fun _ => ⟨xin (i := 744) (by decide +kernel) rfl, xinP (i := 27) (by decide +kernel) rfl⟩, fun h => absurd h (by decide), fun h => absurd h (by decide)⟩
theorem v_Mo_reads : xY 0 y_Mo_reads b_Mo_reads 2 (some .boolean) 0 := ⟨xin (i := 749) (by decide +kernel) rfl, xin (i := 5) (by decide +kernel) rfl, ⟨by decide +kernel, by decide +kernel⟩, by decide +kernel, fun _ => ⟨xin (i := 748) (by decide +kernel) rfl, xinP (i := 28) (by decide +kernel) rfl⟩, fun h => absurd h (by decide), fun h => absurd h (by decide)⟩
theorem v_Mo_readsSelect : xY 0 y_Mo_readsSelect b_Mo_readsSelect 1 (some .boolean) 0 := ⟨xin (i := 753) (by decide +kernel) rfl, xin (i := 5) (by decide +kernel) rfl, ⟨by decide +kernel, by decide +kernel⟩, by decide +kernel, fun _ => ⟨xin (i := 752) (by decide +kernel) rfl, xinP (i := 29) (by decide +kernel) rfl⟩, fun h => absurd h (by decide), fun h => absurd h (by decide)⟩
theorem v_Mo_readsList : xY 0 y_Mo_readsList b_Mo_readsList 3 (some .boolean) 0 := ⟨xin (i := 757) (by decide +kernel) rfl, xin (i := 5) (by decide +kernel) rfl, ⟨by decide +kernel, by decide +kernel⟩, by decide +kernel, fun _ => ⟨xin (i := 756) (by decide +kernel) rfl, xinP (i := 30) (by decide +kernel) rfl⟩, fun h => absurd h (by decide), fun h => absurd h (by decide)⟩
theorem v_Mo_skips : xY 0 y_Mo_skips b_Mo_skips 2 (some .boolean) 1 := ⟨xin (i := 761) (by decide +kernel) rfl, xin (i := 5) (by decide +kernel) rfl, ⟨by decide +kernel, by decide +kernel⟩, by decide +kernel, fun _ => ⟨xin (i := 760) (by decide +kernel) rfl, xinP (i := 31) (by decide +kernel) rfl⟩, fun h => absurd h (by decide), fun h => absurd h (by decide)⟩
theorem v_Mo_isWord : xY 0 y_Mo_isWord b_Mo_isWord 2 (some .boolean) 1 := ⟨xin (i := 765) (by decide +kernel) rfl, xin (i := 5) (by decide +kernel) rfl, ⟨by decide +kernel, by decide +kernel⟩, by decide +kernel, fun _ => ⟨xin (i := 764) (by decide +kernel) rfl, xinP (i := 32) (by decide +kernel) rfl⟩, fun h => absurd h (by decide), fun h => absurd h (by decide)⟩
theorem v_Mo_isKind : xY 0 y_Mo_isKind b_Mo_isKind 2 (some .boolean) 1 := ⟨xin (i := 769) (by decide +kernel) rfl, xin (i := 5) (by decide +kernel) rfl, ⟨by decide +kernel, by decide +kernel⟩, by decide +kernel, fun _ => ⟨xin (i := 768) (by decide +kernel) rfl, xinP (i := 33) (by decide +kernel) rfl⟩, fun h => absurd h (by decide), fun h => absurd h (by decide)⟩
theorem v_Mo_readsTable : xY 0 y_Mo_readsTable b_Mo_readsTable 1 (some .int) 0 := ⟨xin (i := 773) (by decide +kernel) rfl, xin (i := 5) (by decide +kernel) rfl, ⟨by decide +kernel, by decide +kernel⟩, by decide +kernel, fun _ => ⟨xin (i := 772) (by decide +kernel) rfl, xinP (i := 34) (by decide +kernel) rfl⟩, fun h => absurd h (by decide), fun h => absurd h (by decide)⟩
theorem v_Mo_readsConditions : xY 0 y_Mo_readsConditions b_Mo_readsConditions 2 (some .boolean) 0 := ⟨xin (i := 777) (by decide +kernel) rfl, xin (i := 5) (by decide +kernel) rfl, ⟨by decide +kernel, by decide +kernel⟩, by decide +kernel, fun _ => ⟨xin (i := 776) (by decide +kernel) rfl, xinP (i := 35) (by decide +kernel) rfl⟩, fun h => absurd h (by decide), fun h => absurd h (by decide)⟩
theorem v_Mo_readsOperand : xY 0 y_Mo_readsOperand b_Mo_readsOperand 1 (some .boolean) 0 := ⟨xin (i := 781) (by decide +kernel) rfl, xin (i := 5) (by decide +kernel) rfl, ⟨by decide +kernel, by decide +kernel⟩, by decide +kernel, fun _ => ⟨xin (i := 780) (by decide +kernel) rfl, xinP (i := 36) (by decide +kernel) rfl⟩, fun h => absurd h (by decide), fun h => absurd h (by decide)⟩
theorem v_Mo_isThere : xY 0 y_Mo_isThere b_Mo_isThere 2 (some .boolean) 1 := ⟨xin (i := 785) (by decide +kernel) rfl, xin (i := 5) (by decide +kernel) rfl, ⟨by decide +kernel, by decide +kernel⟩, by decide +kernel, fun _ => ⟨xin (i := 784) (by decide +kernel) rfl, xinP (i := 37) (by decide +kernel) rfl⟩, fun h => absurd h (by decide), fun h => absurd h (by decide)⟩
theorem v_Mo_haveColumns : xY 0 y_Mo_haveColumns b_Mo_haveColumns 5 (some .boolean) 0 := ⟨xin (i := 790) (by decide +kernel) rfl, xin (i := 5) (by decide +kernel) rfl, ⟨by decide +kernel, by decide +kernel⟩, by decide +kernel, fun _ => ⟨xin (i := 789) (by decide +kernel) rfl, xinP (i := 38) (by decide +kernel) rfl⟩, fun h => absurd h (by decide), fun h => absurd h (by decide)⟩
theorem v_Mo_begins : xY 0 y_Mo_begins b_Mo_begins 1 none 0 := ⟨xin (i := 794) (by decide +kernel) rfl, xin (i := 5) (by decide +kernel) rfl, ⟨by decide +kernel, by decide +kernel⟩, by decide +kernel, fun _ => ⟨xin (i := 793) (by decide +kernel) rfl, xinP (i := 39) (by decide +kernel) rfl⟩, fun h => absurd h (by decide), fun h => absurd h (by decide)⟩
theorem v_Mo_step : xY 0 y_Mo_step b_Mo_step 1 (some .int) 0 := ⟨xin (i := 798) (by decide +kernel) rfl, xin (i := 5) (by decide +kernel) rfl, ⟨by decide +kernel, by decide +kernel⟩, by decide +kernel, fun _ => ⟨xin (i := 796) (by decide +kernel) rfl, xin (i := 797) (by decide +kernel) rfl⟩, fun h => absurd h (by decide), fun h => absurd h (by decide)⟩
theorem v_Mo_selects : xY 0 y_Mo_selects b_Mo_selects 2 (some .int) 0 := ⟨xin (i := 802) (by decide +kernel) rfl, xin (i := 5) (by decide +kernel) rfl, ⟨by decide +kernel, by decide +kernel⟩, by decide +kernel, fun _ => ⟨xin (i := 801) (by decide +kernel) rfl, xinP (i := 40) (by decide +kernel) rfl⟩, fun h => absurd h (by decide), fun h => absurd h (by decide)⟩
theorem v_Mo_isFold : xY 0 y_Mo_isFold b_Mo_isFold 1 (some .boolean) 0 := ⟨xin (i := 806) (by decide +kernel) rfl, xin (i := 5) (by decide +kernel) rfl, ⟨by decide +kernel, by decide +kernel⟩, by decide +kernel, fun _ => ⟨xin (i := 805) (by decide +kernel) rfl, xinP (i := 41) (by decide +kernel) rfl⟩, fun h => absurd h (by decide), fun h => absurd h (by decide)⟩
theorem v_Mo_folds : xY 0 y_Mo_folds b_Mo_folds 4 none 0 := ⟨xin (i := 810) (by decide +kernel) rfl, xin (i := 5) (by decide +kernel) rfl, ⟨by decide +kernel, by decide +kernel⟩, by decide +kernel, fun _ => ⟨xin (i := 809) (by decide +kernel) rfl, xinP (i := 42) (by decide +kernel) rfl⟩, fun h => absurd h (by decide), fun h => absurd h (by decide)⟩
theorem v_Mo_holds : xY 0 y_Mo_holds b_Mo_holds 8 (some .boolean) 2 := ⟨xin (i := 814) (by decide +kernel) rfl, xin (i := 5) (by decide +kernel) rfl, ⟨by decide +kernel, by decide +kernel⟩, by decide +kernel, fun _ => ⟨xin (i := 813) (by decide +kernel) rfl, xinP (i := 43) (by decide +kernel) rfl⟩, fun h => absurd h (by decide), fun h => absurd h (by decide)⟩
theorem v_Mo_value : xY 0 y_Mo_value b_Mo_value 5 (some .int) 3 := ⟨xin (i := 818) (by decide +kernel) rfl, xin (i := 5) (by decide +kernel) rfl, ⟨by decide +kernel, by decide +kernel⟩, by decide +kernel, fun _ => ⟨xin (i := 817) (by decide +kernel) rfl, xinP (i := 44) (by decide +kernel) rfl⟩, fun h => absurd h (by decide), fun h => absurd h (by decide)⟩
theorem v_Mo_cell : xY 0 y_Mo_cell b_Mo_cell 3 (some .int) 2 := ⟨xin (i := 822) (by decide +kernel) rfl, xin (i := 5) (by decide +kernel) rfl, ⟨by decide +kernel, by decide +kernel⟩, by decide +kernel, fun _ => ⟨xin (i := 821) (by decide +kernel) rfl, xinP (i := 45) (by decide +kernel) rfl⟩, fun h => absurd h (by decide), fun h => absurd h (by decide)⟩
theorem v_Mo_moves : xY 0 y_Mo_moves b_Mo_moves 1 (some .boolean) 0 := ⟨xin (i := 826) (by decide +kernel) rfl, xin (i := 5) (by decide +kernel) rfl, ⟨by decide +kernel, by decide +kernel⟩, by decide +kernel, fun _ => ⟨xin (i := 825) (by decide +kernel) rfl, xinP (i := 46) (by decide +kernel) rfl⟩, fun h => absurd h (by decide), fun h => absurd h (by decide)⟩
theorem v_Mo_behind : xY 0 y_Mo_behind b_Mo_behind 6 (some .int) 2 := ⟨xin (i := 830) (by decide +kernel) rfl, xin (i := 5) (by decide +kernel) rfl, ⟨by decide +kernel, by decide +kernel⟩, by decide +kernel, fun _ => ⟨xin (i := 829) (by decide +kernel) rfl, xinP (i := 47) (by decide +kernel) rfl⟩, fun h => absurd h (by decide), fun h => absurd h (by decide)⟩
theorem v_Mo_creates : xY 0 y_Mo_creates b_Mo_creates 1 (some .int) 0 := ⟨xin (i := 834) (by decide +kernel) rfl, xin (i := 5) (by decide +kernel) rfl, ⟨by decide +kernel, by decide +kernel⟩, by decide +kernel, fun _ => ⟨xin (i := 833) (by decide +kernel) rfl, xinP (i := 48) (by decide +kernel) rfl⟩, fun h => absurd h (by decide), fun h => absurd h (by decide)⟩
theorem v_Mo_inserts : xY 0 y_Mo_inserts b_Mo_inserts 2 (some .int) 0 := ⟨xin (i := 838) (by decide +kernel) rfl, xin (i := 5) (by decide +kernel) rfl, ⟨by decide +kernel, by decide +kernel⟩, by decide +kernel, fun _ => ⟨xin (i := 837) (by decide +kernel) rfl, xinP (i := 49) (by decide +kernel) rfl⟩, fun h => absurd h (by decide), fun h => absurd h (by decide)⟩
theorem v_Mo_findKey : xY 0 y_Mo_findKey b_Mo_findKey 5 (some .int) 2 := ⟨xin (i := 842) (by decide +kernel) rfl, xin (i := 5) (by decide +kernel) rfl, ⟨by decide +kernel, by decide +kernel⟩, by decide +kernel, fun _ => ⟨xin (i := 841) (by decide +kernel) rfl, xinP (i := 50) (by decide +kernel) rfl⟩, fun h => absurd h (by decide), fun h => absurd h (by decide)⟩
theorem v_Mo_deletes : xY 0 y_Mo_deletes b_Mo_deletes 4 (some .int) 0 := ⟨xin (i := 846) (by decide +kernel) rfl, xin (i := 5) (by decide +kernel) rfl, ⟨by decide +kernel, by decide +kernel⟩, by decide +kernel, fun _ => ⟨xin (i := 845) (by decide +kernel) rfl, xinP (i := 51) (by decide +kernel) rfl⟩, fun h => absurd h (by decide), fun h => absurd h (by decide)⟩
theorem v_Mo_reset : xY 0 y_Mo_reset b_Mo_reset 2 (some .int) 0 := ⟨xin (i := 850) (by decide +kernel) rfl, xin (i := 5) (by decide +kernel) rfl, ⟨by decide +kernel, by decide +kernel⟩, by decide +kernel, fun _ => ⟨xin (i := 848) (by decide +kernel) rfl, xin (i := 849) (by decide +kernel) rfl⟩, fun h => absurd h (by decide), fun h => absurd h (by decide)⟩
theorem v_Mo_width : xY 0 y_Mo_width b_Mo_width 1 (some .int) 0 := ⟨xin (i := 854) (by decide +kernel) rfl, xin (i := 5) (by decide +kernel) rfl, ⟨by decide +kernel, by decide +kernel⟩, by decide +kernel, fun _ => ⟨xin (i := 852) (by decide +kernel) rfl, xin (i := 853) (by decide +kernel) rfl⟩, fun h => absurd h (by decide), fun h => absurd h (by decide)⟩
theorem v_Mo_wide : xY 0 y_Mo_wide b_Mo_wide 1 (some .int) 0 := ⟨xin (i := 858) (by decide +kernel) rfl, xin (i := 5) (by decide +kernel) rfl, ⟨by decide +kernel, by decide +kernel⟩, by decide +kernel, fun _ => ⟨xin (i := 857) (by decide +kernel) rfl, xinP (i := 52) (by decide +kernel) rfl⟩, fun h => absurd h (by decide), fun h => absurd h (by decide)⟩
theorem v_Mo_listed : xY 0 y_Mo_listed b_Mo_listed 2 (some .int) 0 := ⟨xin (i := 862) (by decide +kernel) rfl, xin (i := 5) (by decide +kernel) rfl, ⟨by decide +kernel, by decide +kernel⟩, by decide +kernel, fun _ => ⟨xin (i := 861) (by decide +kernel) rfl, xinP (i := 53) (by decide +kernel) rfl⟩, fun h => absurd h (by decide), fun h => absurd h (by decide)⟩
theorem v_Mo_column : xY 0 y_Mo_column b_Mo_column 3 (some .long) 1 := ⟨xin (i := 866) (by decide +kernel) rfl, xin (i := 5) (by decide +kernel) rfl, ⟨by decide +kernel, by decide +kernel⟩, by decide +kernel, fun _ => ⟨xin (i := 864) (by decide +kernel) rfl, xin (i := 865) (by decide +kernel) rfl⟩, fun h => absurd h (by decide), fun h => absurd h (by decide)⟩
theorem v_Mo_rows : xY 0 y_Mo_rows b_Mo_rows 4 (some .int) 1 := ⟨xin (i := 870) (by decide +kernel) rfl, xin (i := 5) (by decide +kernel) rfl, ⟨by decide +kernel, by decide +kernel⟩, by decide +kernel, fun _ => ⟨xin (i := 868) (by decide +kernel) rfl, xin (i := 869) (by decide +kernel) rfl⟩, fun h => absurd h (by decide), fun h => absurd h (by decide)⟩
theorem v_Mo_all : xY 0 y_Mo_all b_Mo_all 1 (some .int) 0 := ⟨xin (i := 874) (by decide +kernel) rfl, xin (i := 5) (by decide +kernel) rfl, ⟨by decide +kernel, by decide +kernel⟩, by decide +kernel, fun _ => ⟨xin (i := 872) (by decide +kernel) rfl, xin (i := 873) (by decide +kernel) rfl⟩, fun h => absurd h (by decide), fun h => absurd h (by decide)⟩
theorem v_Mo_nearest : xY 0 y_Mo_nearest b_Mo_nearest 8 (some .int) 3 := ⟨xin (i := 878) (by decide +kernel) rfl, xin (i := 5) (by decide +kernel) rfl, ⟨by decide +kernel, by decide +kernel⟩, by decide +kernel, fun _ => ⟨xin (i := 876) (by decide +kernel) rfl, xin (i := 877) (by decide +kernel) rfl⟩, fun h => absurd h (by decide), fun h => absurd h (by decide)⟩
theorem v_Mo_clear : xY 0 y_Mo_clear b_Mo_clear 2 none 0 := ⟨xin (i := 882) (by decide +kernel) rfl, xin (i := 5) (by decide +kernel) rfl, ⟨by decide +kernel, by decide +kernel⟩, by decide +kernel, fun _ => ⟨xin (i := 880) (by decide +kernel) rfl, xin (i := 881) (by decide +kernel) rfl⟩, fun h => absurd h (by decide), fun h => absurd h (by decide)⟩
theorem l_La_41 : xLk R_La 41 y_CB_init := Or.inl (xin (i := 19) (by decide +kernel) rfl)
theorem l_CB_1 : Cond.methodLink R_CB 1 objectInit ∈ xT := xin (i := 22) (by decide +kernel) rfl
theorem l_CB_9 : xLk R_CB 9 y_To_init := Or.inr ⟨"CursorBase", xinN (i := 27) (by decide +kernel) rfl⟩
theorem l_To_3 : Cond.methodLink R_To 3 objectInit ∈ xT := xin (i := 30) (by decide +kernel) rfl
theorem l_CB_18 : xLk R_CB 18 y_Ta_init := Or.inr ⟨"CursorBase", xinN (i := 48) (by decide +kernel) rfl⟩
theorem l_Ta_3 : Cond.methodLink R_Ta 3 objectInit ∈ xT := xin (i := 51) (by decide +kernel) rfl
theorem l_CB_25 : xLk R_CB 25 y_Ru_init := Or.inr ⟨"CursorBase", xinN (i := 64) (by decide +kernel) rfl⟩
theorem l_Ru_3 : Cond.methodLink R_Ru 3 objectInit ∈ xT := xin (i := 67) (by decide +kernel) rfl
theorem l_La_54 : xLk R_La 54 y_CB_prepare := Or.inl (xin (i := 106) (by decide +kernel) rfl)
theorem l_CB_60 : xLk R_CB 60 y_Pa_init := Or.inl (xin (i := 112) (by decide +kernel) rfl)
theorem l_Pa_3 : Cond.methodLink R_Pa 3 objectInit ∈ xT := xin (i := 115) (by decide +kernel) rfl
theorem l_Pa_11 : xLk R_Pa 11 y_St_init := Or.inr ⟨"CursorBase", xinN (i := 118) (by decide +kernel) rfl⟩
theorem l_St_3 : Cond.methodLink R_St 3 objectInit ∈ xT := xin (i := 121) (by decide +kernel) rfl
theorem l_CB_63 : xLk R_CB 63 y_Pa_parse := Or.inl (xin (i := 183) (by decide +kernel) rfl)
theorem l_Pa_22 : xLk R_Pa 22 y_Pa_takeWordBetween := Or.inl (xin (i := 187) (by decide +kernel) rfl)
theorem l_Pa_75 : xLk R_Pa 75 y_To_isKind := Or.inl (xin (i := 191) (by decide +kernel) rfl)
theorem l_Pa_30 : xLk R_Pa 30 y_Pa_takeFirstTable := Or.inl (xin (i := 195) (by decide +kernel) rfl)
theorem l_Pa_64 : xLk R_Pa 64 y_Pa_takeTable := Or.inl (xin (i := 199) (by decide +kernel) rfl)
theorem l_Pa_34 : xLk R_Pa 34 y_Pa_takeNumber := Or.inl (xin (i := 203) (by decide +kernel) rfl)
theorem l_Pa_86 : xLk R_Pa 86 y_St_addNumber := Or.inl (xin (i := 207) (by decide +kernel) rfl)
theorem l_Pa_37 : xLk R_Pa 37 y_Pa_takeNumbers := Or.inl (xin (i := 211) (by decide +kernel) rfl)
theorem l_Pa_40 : xLk R_Pa 40 y_Pa_takeConditions := Or.inl (xin (i := 215) (by decide +kernel) rfl)
theorem l_Pa_60 : xLk R_Pa 60 y_Pa_takeWord := Or.inl (xin (i := 219) (by decide +kernel) rfl)
theorem l_Pa_105 : xLk R_Pa 105 y_Pa_takeCondition := Or.inl (xin (i := 223) (by decide +kernel) rfl)
theorem l_Pa_113 : xLk R_Pa 113 y_Pa_takeOperand := Or.inl (xin (i := 227) (by decide +kernel) rfl)
theorem l_Pa_127 : xLk R_Pa 127 y_Op_init := Or.inl (xin (i := 233) (by decide +kernel) rfl)
theorem l_Op_3 : Cond.methodLink R_Op 3 objectInit ∈ xT := xin (i := 236) (by decide +kernel) rfl
theorem l_Pa_119 : xLk R_Pa 119 y_Cn_init := Or.inl (xin (i := 246) (by decide +kernel) rfl)
theorem l_Cn_3 : Cond.methodLink R_Cn 3 objectInit ∈ xT := xin (i := 249) (by decide +kernel) rfl
theorem l_Pa_109 : xLk R_Pa 109 y_St_addCondition := Or.inl (xin (i := 260) (by decide +kernel) rfl)
theorem l_Pa_43 : xLk R_Pa 43 y_Pa_takeList := Or.inl (xin (i := 264) (by decide +kernel) rfl)
theorem l_Pa_96 : xLk R_Pa 96 y_Pa_takeColumns := Or.inl (xin (i := 268) (by decide +kernel) rfl)
theorem l_Pa_99 : xLk R_Pa 99 y_St_addPick := Or.inl (xin (i := 272) (by decide +kernel) rfl)
theorem l_St_43 : xLk R_St 43 y_Op_init := Or.inl (xin (i := 276) (by decide +kernel) rfl)
theorem l_Pa_46 : xLk R_Pa 46 y_Pa_takeFrom := Or.inl (xin (i := 277) (by decide +kernel) rfl)
theorem l_Pa_49 : xLk R_Pa 49 y_Pa_takeOrder := Or.inl (xin (i := 281) (by decide +kernel) rfl)
theorem l_CB_67 : xLk R_CB 67 y_To_drop := Or.inl (xin (i := 285) (by decide +kernel) rfl)
theorem l_CB_70 : xLk R_CB 70 y_St_fault := Or.inl (xin (i := 289) (by decide +kernel) rfl)
theorem l_St_52 : xLk R_St 52 y_St_faultOfCreate := Or.inl (xin (i := 293) (by decide +kernel) rfl)
theorem l_St_56 : xLk R_St 56 y_Ta_isThere := Or.inl (xin (i := 297) (by decide +kernel) rfl)
theorem l_Ta_21 : xLk R_Ta 21 y_Ta_columnsOf := Or.inl (xin (i := 301) (by decide +kernel) rfl)
theorem l_St_62 : xLk R_St 62 y_Ta_columnsOf := Or.inl (xin (i := 305) (by decide +kernel) rfl)
theorem l_St_66 : xLk R_St 66 y_St_columnsAreThere := Or.inl (xin (i := 306) (by decide +kernel) rfl)
theorem l_St_70 : xLk R_St 70 y_Op_isThere := Or.inl (xin (i := 310) (by decide +kernel) rfl)
theorem l_St_72 : xLk R_St 72 y_Cn_isThere := Or.inl (xin (i := 314) (by decide +kernel) rfl)
theorem l_Cn_22 : xLk R_Cn 22 y_Op_isThere := Or.inl (xin (i := 318) (by decide +kernel) rfl)
theorem l_CB_76 : xLk R_CB 76 y_St_spellOutAll := Or.inl (xin (i := 319) (by decide +kernel) rfl)
theorem l_St_73 : xLk R_St 73 y_St_addPicks := Or.inl (xin (i := 323) (by decide +kernel) rfl)
theorem l_St_76 : xLk R_St 76 y_St_addPick := Or.inl (xin (i := 327) (by decide +kernel) rfl)
theorem l_CB_80 : xLk R_CB 80 y_Ru_begin := Or.inl (xin (i := 328) (by decide +kernel) rfl)
theorem l_La_75 : xLk R_La 75 y_CB_all := Or.inl (xin (i := 332) (by decide +kernel) rfl)
theorem l_CB_125 : xLk R_CB 125 y_Ta_rowsInAll := Or.inl (xin (i := 336) (by decide +kernel) rfl)
theorem l_La_83 : xLk R_La 83 y_CB_clear := Or.inl (xin (i := 340) (by decide +kernel) rfl)
theorem l_CB_140 : xLk R_CB 140 y_Ta_drop := Or.inl (xin (i := 344) (by decide +kernel) rfl)
theorem l_La_45 : xLk R_La 45 y_La_feed := Or.inl (xin (i := 348) (by decide +kernel) rfl)
theorem l_La_7 : xLk R_La 7 y_CB_feed := Or.inl (xin (i := 353) (by decide +kernel) rfl)
theorem l_CB_30 : xLk R_CB 30 y_To_isToken := Or.inl (xin (i := 357) (by decide +kernel) rfl)
theorem l_To_18 : xLk R_To 18 y_To_isColumnFrom := Or.inl (xin (i := 360) (by decide +kernel) rfl)
theorem l_CB_41 : xLk R_CB 41 y_To_isFull := Or.inl (xin (i := 431) (by decide +kernel) rfl)
theorem l_CB_50 : xLk R_CB 50 y_To_put := Or.inl (xin (i := 451) (by decide +kernel) rfl)
theorem l_To_26 : xLk R_To 26 y_To_isFull := Or.inl (xin (i := 455) (by decide +kernel) rfl)
theorem l_La_58 : xLk R_La 58 y_La_step := Or.inl (xin (i := 456) (by decide +kernel) rfl)
theorem l_La_17 : xLk R_La 17 y_CB_step := Or.inl (xin (i := 459) (by decide +kernel) rfl)
theorem l_CB_90 : xLk R_CB 90 y_Ru_advance := Or.inl (xin (i := 464) (by decide +kernel) rfl)
theorem l_Ru_47 : xLk R_Ru 47 y_Ta_create := Or.inl (xin (i := 468) (by decide +kernel) rfl)
theorem l_Ta_48 : xLk R_Ta 48 y_Ta_isThere := Or.inl (xin (i := 472) (by decide +kernel) rfl)
theorem l_Ru_53 : xLk R_Ru 53 y_Ta_insert := Or.inl (xin (i := 473) (by decide +kernel) rfl)
theorem l_Ta_41 : xLk R_Ta 41 y_Ta_placeNotBelow := Or.inl (xin (i := 477) (by decide +kernel) rfl)
theorem l_Ta_35 : xLk R_Ta 35 y_Ta_rowsOf := Or.inl (xin (i := 481) (by decide +kernel) rfl)
theorem l_Ta_38 : xLk R_Ta 38 y_Ta_keyAt := Or.inl (xin (i := 485) (by decide +kernel) rfl)
theorem l_Ta_25 : xLk R_Ta 25 y_Ta_cellOf := Or.inl (xin (i := 489) (by decide +kernel) rfl)
theorem l_Ta_44 : xLk R_Ta 44 y_Ta_hasKeyAt := Or.inl (xin (i := 493) (by decide +kernel) rfl)
theorem l_Ta_52 : xLk R_Ta 52 y_Ta_rowsInAll := Or.inl (xin (i := 497) (by decide +kernel) rfl)
theorem l_Ta_29 : Cond.methodLink R_Ta 29 arraycopyName ∈ xT := xin (i := 498) (by decide +kernel) rfl
theorem l_Ta_56 : xLk R_Ta 56 y_Ta_moveStartsBehind := Or.inl (xin (i := 501) (by decide +kernel) rfl)
theorem l_Ru_57 : xLk R_Ru 57 y_Ru_deleteRows := Or.inl (xin (i := 505) (by decide +kernel) rfl)
theorem l_Ru_76 : xLk R_Ru 76 y_Ta_rowsOf := Or.inl (xin (i := 509) (by decide +kernel) rfl)
theorem l_Ru_80 : xLk R_Ru 80 y_Ta_read := Or.inl (xin (i := 510) (by decide +kernel) rfl)
theorem l_Ru_83 : xLk R_Ru 83 y_St_holds := Or.inl (xin (i := 514) (by decide +kernel) rfl)
theorem l_St_84 : xLk R_St 84 y_Cn_holds := Or.inl (xin (i := 518) (by decide +kernel) rfl)
theorem l_Cn_28 : xLk R_Cn 28 y_Op_value := Or.inl (xin (i := 522) (by decide +kernel) rfl)
theorem l_Ru_87 : xLk R_Ru 87 y_Ta_remove := Or.inl (xin (i := 526) (by decide +kernel) rfl)
theorem l_Ru_61 : xLk R_Ru 61 y_St_hasTotal := Or.inl (xin (i := 530) (by decide +kernel) rfl)
theorem l_Ru_65 : xLk R_Ru 65 y_Ru_giveTotal := Or.inl (xin (i := 534) (by decide +kernel) rfl)
theorem l_Ru_91 : xLk R_Ru 91 y_Ru_findRow := Or.inl (xin (i := 539) (by decide +kernel) rfl)
theorem l_Ru_116 : xLk R_Ru 116 y_Ru_place := Or.inl (xin (i := 543) (by decide +kernel) rfl)
theorem l_Ru_107 : xLk R_Ru 107 y_Op_value := Or.inl (xin (i := 547) (by decide +kernel) rfl)
theorem l_Ru_69 : xLk R_Ru 69 y_Ru_giveRow := Or.inl (xin (i := 548) (by decide +kernel) rfl)
theorem l_Ru_72 : xLk R_Ru 72 y_Ru_note := Or.inl (xin (i := 552) (by decide +kernel) rfl)
theorem l_La_62 : xLk R_La 62 y_La_reset := Or.inl (xin (i := 556) (by decide +kernel) rfl)
theorem l_La_21 : xLk R_La 21 y_CB_reset := Or.inl (xin (i := 559) (by decide +kernel) rfl)
theorem l_La_65 : xLk R_La 65 y_La_width := Or.inl (xin (i := 563) (by decide +kernel) rfl)
theorem l_La_24 : xLk R_La 24 y_CB_width := Or.inl (xin (i := 566) (by decide +kernel) rfl)
theorem l_CB_96 : xLk R_CB 96 y_St_columnCount := Or.inl (xin (i := 570) (by decide +kernel) rfl)
theorem l_St_80 : xLk R_St 80 y_St_hasTotal := Or.inl (xin (i := 574) (by decide +kernel) rfl)
theorem l_La_68 : xLk R_La 68 y_La_column := Or.inl (xin (i := 575) (by decide +kernel) rfl)
theorem l_La_27 : xLk R_La 27 y_CB_column := Or.inl (xin (i := 579) (by decide +kernel) rfl)
theorem l_CB_111 : xLk R_CB 111 y_Ru_valueAt := Or.inl (xin (i := 600) (by decide +kernel) rfl)
theorem l_La_72 : xLk R_La 72 y_La_rows := Or.inl (xin (i := 604) (by decide +kernel) rfl)
theorem l_La_33 : xLk R_La 33 y_CB_rows := Or.inl (xin (i := 607) (by decide +kernel) rfl)
theorem l_CB_117 : xLk R_CB 117 y_Ta_isThere := Or.inl (xin (i := 612) (by decide +kernel) rfl)
theorem l_CB_121 : xLk R_CB 121 y_Ta_rowsOf := Or.inl (xin (i := 613) (by decide +kernel) rfl)
theorem l_La_79 : xLk R_La 79 y_La_nearest := Or.inl (xin (i := 614) (by decide +kernel) rfl)
theorem l_La_37 : xLk R_La 37 y_CB_nearest := Or.inl (xin (i := 617) (by decide +kernel) rfl)
theorem l_CB_130 : xLk R_CB 130 y_Ta_placeNearest := Or.inl (xin (i := 622) (by decide +kernel) rfl)
theorem l_CB_136 : xLk R_CB 136 y_Ta_keyAt := Or.inl (xin (i := 627) (by decide +kernel) rfl)
theorem l_La_44 : xLk R_La 44 y_Mo_init := Or.inl (xin (i := 630) (by decide +kernel) rfl)
theorem l_Mo_1 : Cond.methodLink R_Mo 1 objectInit ∈ xT := xin (i := 633) (by decide +kernel) rfl
theorem l_La_51 : xLk R_La 51 y_Mo_thrown := Or.inl (xin (i := 722) (by decide +kernel) rfl)
theorem l_La_50 : xLk R_La 50 y_Mo_feed := Or.inl (xin (i := 726) (by decide +kernel) rfl)
theorem l_Mo_37 : xLk R_Mo 37 y_Mo_in := Or.inl (xin (i := 731) (by decide +kernel) rfl)
theorem l_La_57 : xLk R_La 57 y_Mo_prepare := Or.inl (xin (i := 738) (by decide +kernel) rfl)
theorem l_Mo_109 : xLk R_Mo 109 y_Mo_wrong := Or.inl (xin (i := 742) (by decide +kernel) rfl)
theorem l_Mo_98 : xLk R_Mo 98 y_Mo_reads := Or.inl (xin (i := 746) (by decide +kernel) rfl)
theorem l_Mo_95 : xLk R_Mo 95 y_Mo_readsSelect := Or.inl (xin (i := 750) (by decide +kernel) rfl)
theorem l_Mo_75 : xLk R_Mo 75 y_Mo_readsList := Or.inl (xin (i := 754) (by decide +kernel) rfl)
theorem l_Mo_68 : xLk R_Mo 68 y_Mo_skips := Or.inl (xin (i := 758) (by decide +kernel) rfl)
theorem l_Mo_59 : xLk R_Mo 59 y_Mo_isWord := Or.inl (xin (i := 762) (by decide +kernel) rfl)
theorem l_Mo_55 : xLk R_Mo 55 y_Mo_isKind := Or.inl (xin (i := 766) (by decide +kernel) rfl)
theorem l_Mo_78 : xLk R_Mo 78 y_Mo_readsTable := Or.inl (xin (i := 770) (by decide +kernel) rfl)
theorem l_Mo_88 : xLk R_Mo 88 y_Mo_readsConditions := Or.inl (xin (i := 774) (by decide +kernel) rfl)
theorem l_Mo_71 : xLk R_Mo 71 y_Mo_readsOperand := Or.inl (xin (i := 778) (by decide +kernel) rfl)
theorem l_Mo_101 : xLk R_Mo 101 y_Mo_isThere := Or.inl (xin (i := 782) (by decide +kernel) rfl)
theorem l_Mo_106 : xLk R_Mo 106 y_Mo_haveColumns := Or.inl (xin (i := 787) (by decide +kernel) rfl)
theorem l_Mo_133 : xLk R_Mo 133 y_Mo_begins := Or.inl (xin (i := 791) (by decide +kernel) rfl)
theorem l_La_61 : xLk R_La 61 y_Mo_step := Or.inl (xin (i := 795) (by decide +kernel) rfl)
theorem l_Mo_185 : xLk R_Mo 185 y_Mo_selects := Or.inl (xin (i := 799) (by decide +kernel) rfl)
theorem l_Mo_176 : xLk R_Mo 176 y_Mo_isFold := Or.inl (xin (i := 803) (by decide +kernel) rfl)
theorem l_Mo_179 : xLk R_Mo 179 y_Mo_folds := Or.inl (xin (i := 807) (by decide +kernel) rfl)
theorem l_Mo_168 : xLk R_Mo 168 y_Mo_holds := Or.inl (xin (i := 811) (by decide +kernel) rfl)
theorem l_Mo_155 : xLk R_Mo 155 y_Mo_value := Or.inl (xin (i := 815) (by decide +kernel) rfl)
theorem l_Mo_151 : xLk R_Mo 151 y_Mo_cell := Or.inl (xin (i := 819) (by decide +kernel) rfl)
theorem l_Mo_182 : xLk R_Mo 182 y_Mo_moves := Or.inl (xin (i := 823) (by decide +kernel) rfl)
theorem l_Mo_162 : xLk R_Mo 162 y_Mo_behind := Or.inl (xin (i := 827) (by decide +kernel) rfl)
theorem l_Mo_188 : xLk R_Mo 188 y_Mo_creates := Or.inl (xin (i := 831) (by decide +kernel) rfl)
theorem l_Mo_191 : xLk R_Mo 191 y_Mo_inserts := Or.inl (xin (i := 835) (by decide +kernel) rfl)
theorem l_Mo_165 : xLk R_Mo 165 y_Mo_findKey := Or.inl (xin (i := 839) (by decide +kernel) rfl)
theorem l_Mo_194 : xLk R_Mo 194 y_Mo_deletes := Or.inl (xin (i := 843) (by decide +kernel) rfl)
theorem l_La_64 : xLk R_La 64 y_Mo_reset := Or.inl (xin (i := 847) (by decide +kernel) rfl)
theorem l_La_67 : xLk R_La 67 y_Mo_width := Or.inl (xin (i := 851) (by decide +kernel) rfl)
theorem l_Mo_200 : xLk R_Mo 200 y_Mo_wide := Or.inl (xin (i := 855) (by decide +kernel) rfl)
theorem l_Mo_197 : xLk R_Mo 197 y_Mo_listed := Or.inl (xin (i := 859) (by decide +kernel) rfl)
theorem l_La_71 : xLk R_La 71 y_Mo_column := Or.inl (xin (i := 863) (by decide +kernel) rfl)
theorem l_La_74 : xLk R_La 74 y_Mo_rows := Or.inl (xin (i := 867) (by decide +kernel) rfl)
theorem l_La_78 : xLk R_La 78 y_Mo_all := Or.inl (xin (i := 871) (by decide +kernel) rfl)
theorem l_La_82 : xLk R_La 82 y_Mo_nearest := Or.inl (xin (i := 875) (by decide +kernel) rfl)
theorem l_La_86 : xLk R_La 86 y_Mo_clear := Or.inl (xin (i := 879) (by decide +kernel) rfl)
theorem oi_i : Cond.instanceMethod objectInit ∈ xT := xin (i := 23) (by decide +kernel) rfl
theorem oi_c : Cond.code objectInit ⟨#[0xb1]⟩ 1 none ∈ xT := xin (i := 24) (by decide +kernel) rfl
theorem acp : Cond.native arraycopyName ∈ xT ∧ Cond.static arraycopyName ∈ xT ∧ Cond.initialized "java/lang/System" ∈ xT := ⟨xin (i := 500) (by decide +kernel) rfl, xin (i := 499) (by decide +kernel) rfl, xin (i := 15) (by decide +kernel) rfl⟩
end
section
/-! THE MACHINE, AS I WALK IT. A view h of the heap: address -> what lies there (a cell of the kit's worlds), for the cells that the law has made since its start. K mc ms h pc lv st: 'from here the method comes to its end', with mc cells and ms slots still to spend. -/
abbrev xH : Type := Nat → Option va_E
/-- launch; numbers of classes and of slots; classes of arrays (0 int, 1 long, 2 Operand, 3 Condition); the heap's size at the law's start -/
abbrev xV : Type := Launch × va_G × (Nat → ClassId) × Nat
abbrev xA (V : xV) : Nat → Prop := fun q => V.2.2.2 ≤ q
abbrev xTy (V : xV) : List (ClassId × FieldType) := [(V.2.2.1 0, .int), (V.2.2.1 1, .long), (V.2.2.1 2, .object "CursorBase$Operand"), (V.2.2.1 3, .object "CursorBase$Condition")]
abbrev xI (V : xV) (n : Nat) (f : Nat → Int32) : va_E := .inl (V.2.2.1 0, n, .inl f)
abbrev xJ (V : xV) (n : Nat) (f : Nat → Int64) : va_E := .inl (V.2.2.1 1, n, .inr (.inl f))
abbrev xR (V : xV) (t n : Nat) (f : Nat → Option Nat) : va_E := .inl (V.2.2.1 t, n, .inr (.inr (.inr (.inr f))))
def xRep (V : xV) (h : xH) (H : Heap) : Prop := ∃ (L : List Nat) (f : Nat → va_E), (∀ q e, h q = some e → q ∈ L ∧ f q = e) ∧ va_P V.2.1 vwCl (va_pl L f) H ∧ va_D (xA V) (va_pl L f)
def xE (V : xV) (U : State) : Prop := va_K V.2.1 vwCl (xTy V) U ∧ (∀ w ∈ xNN, va_Nw w U) ∧ va_AO "CursorBase$Operand" U ∧ va_AO "CursorBase$Condition" U
theorem xE.moved {V : xV} {s U : State} (hW : s.WarmedH U.vm) (h : xE V s) : xE V U := by
  refine ⟨va_K.moved hW.alike h.1, fun w hw => ?_, va_AO.moved hW.alike h.2.2.1, va_AO.moved hW.alike h.2.2.2⟩
  have h1 := h.2.1 w hw
  have h2 := (List.mem_filter.mp hw).2
  cases w <;> first | exact va_Nw.warmM hW h1 | exact va_Nw.warmF hW h1 | (simp [xnw] at h2)
theorem xRep.pos {V : xV} {h : xH} {H : Heap} {a : Nat} {e : va_E} (hr : xRep V h H) (ha : h a = some e) : ∃ (L : List Nat) (f : Nat → va_E) (k : Nat), (∀ q e, h q = some e → q ∈ L ∧ f q = e) ∧ va_P V.2.1 vwCl (va_pl L f) H ∧ va_D (xA V) (va_pl L f) ∧ a ∈ L ∧ f a = e ∧ (va_pl L f)[k]? = some (a, e) := by
  obtain ⟨L, f, h1, h2, h3⟩ := hr
  obtain ⟨h4, h5⟩ := h1 a e ha
  obtain ⟨k, hk⟩ := va_pl_get (X := []) (f := f) h4
  exact ⟨L, f, k, h1, h2, h3, h4, h5, by rw [← h5]; exact hk⟩
theorem xRep.set {V : xV} {h : xH} {H1 : Heap} {L : List Nat} {f : Nat → va_E} {a k : Nat} {e e' : va_E} (hL : ∀ q e, h q = some e → q ∈ L ∧ f q = e) (haL : a ∈ L) (hf : f a = e) (hk : (va_pl L f)[k]? = some (a, e)) (hD0 : va_D (xA V) (va_pl L f))
    (hP : va_P V.2.1 vwCl ((va_pl L f).set k (a, e')) H1) (hD : va_D (xA V) ((va_pl L f).set k (a, e'))) : xRep V (va_up h a (some e')) H1 := by
  have hs : (va_pl L f).set k (a, e') = va_pl L (va_up f a e') := va_pl_set (X := []) hD0 haL (by rw [hf]; exact hk)
  rw [hs] at hP hD
  refine ⟨L, va_up f a e', fun q e9 hq => ?_, hP, hD⟩
  by_cases hqa : q = a
  · subst hqa
    rw [va_up_self] at hq ⊢
    exact ⟨haL, Option.some.inj hq⟩
  · rw [va_up_ne _ _ hqa] at hq ⊢
    exact hL q e9 hq
theorem xRep.push {V : xV} {h : xH} {H1 : Heap} {L : List Nat} {f : Nat → va_E} {q : Nat} {e : va_E} (hL : ∀ q e, h q = some e → q ∈ L ∧ f q = e)
    (hP : va_P V.2.1 vwCl (va_pl L f ++ [(q, e)]) H1) (hD : va_D (xA V) (va_pl L f ++ [(q, e)])) : h q = none ∧ xRep V (va_up h q (some e)) H1 := by
  have hf : q ∉ L := va_pl_fresh2 (X := []) hD
  rw [va_pl_push hf] at hP hD
  refine ⟨?_, L ++ [q], va_up f q e, fun r e9 hr => ?_, hP, hD⟩
  · cases hh : h q with
    | none => rfl
    | some e9 => exact absurd (hL q e9 hh).1 hf
  · by_cases hqa : r = q
    · subst hqa
      rw [va_up_self] at hr ⊢
      exact ⟨by simp, Option.some.inj hr⟩
    · rw [va_up_ne _ _ hqa] at hr ⊢
      have := hL r e9 hr
      exact ⟨by simp [this.1], this.2⟩
theorem xRep.less {V : xV} {h h' : xH} {H : Heap} (hr : xRep V h H) (hh : ∀ q e, h' q = some e → h q = some e) : xRep V h' H := by
  obtain ⟨L, f, h1, h2, h3⟩ := hr
  exact ⟨L, f, fun q e hq => h1 q e (hh q e hq), h2, h3⟩
/-- a local's value -/
def xg : List (Nat × Value) → Nat → Option Value
  | [], _ => none
  | (j, v) :: t, i => bif Nat.beq j i then some v else xg t i
theorem xUp_at {h h' : xH} {a : Nat} {e : va_E} (u : h' = va_up h a (some e)) : h' a = some e := by rw [u]; exact va_up_self _ _ _
theorem xUp_ne {h h' : xH} {a b : Nat} {e : va_E} {x : Option va_E} (u : h' = va_up h a (some e)) (hb : h b = x) (hne : b ≠ a) : h' b = x := by rw [u, va_up_ne _ _ hne]; exact hb
theorem xUp_new {h h' : xH} {a b : Nat} {e eb : va_E} (u : h' = va_up h a (some e)) (ha : h a = none) (hb : h b = some eb) : h' b = some eb := xUp_ne u hb (fun e9 => by rw [e9, ha] at hb; cases hb)
theorem x_ne {h : xH} {a b : Nat} {ea eb : va_E} (hb : h b = some eb) (ha : h a = some ea) (hd : ¬ ea = eb) : b ≠ a := fun e9 => hd (by rw [e9, ha] at hb; exact Option.some.inj hb)
theorem x_nn {h : xH} {a b : Nat} {eb : va_E} (hb : h b = some eb) (ha : h a = none) : b ≠ a := fun e9 => by rw [e9, ha] at hb; cases hb
theorem xg_at {ls : Array Slot} {nL i : Nat} {v : Value} : ∀ {lv : List (Nat × Value)}, lv_has ls nL lv → xg lv i = some v → ls[i]? = some (.val v) := by
  intro lv hl hg
  have hm : ∀ lv : List (Nat × Value), xg lv i = some v → (i, v) ∈ lv := by
    intro lv
    induction lv with
    | nil => intro h; cases h
    | cons q t ih =>
      obtain ⟨j, u⟩ := q
      intro h
      cases hb : Nat.beq j i with
      | true =>
        simp only [xg, hb, cond_true] at h
        rw [Nat.eq_of_beq_eq_true hb, Option.some.inj h]
        exact List.mem_cons_self
      | false =>
        simp only [xg, hb, cond_false] at h
        exact List.mem_cons_of_mem _ (ih h)
  exact hl.2.2 (i, v) (hm lv hg)
abbrev xK : Type := Nat → Nat → xH → Nat → List (Nat × Value) → List Value → Prop
def xX (V : xV) (p : Program) (e : Env) (R : Room) (s : State) (m : MethodId) (args : Array Value) (below : List Frame) (meth : Method) (c : Code) (nL : Nat) (Q : State → Prop) : xK := fun mc ms h pc lv st =>
  ∀ (H : Heap) (locs : List Loc) (cells slots : Nat) (ls : Array Slot), xRep V h H → va_S (xA V) s.heap H locs → cells + mc ≤ R.cells → slots + ms ≤ R.slots → lv_has ls nL lv → W p V.1 e R s m args below meth c H locs cells slots Q (F0 m pc ls st)
def xFix (V : xV) (p : Program) (R : Room) (s : State) (m : MethodId) (args : Array Value) (c : Code) (cc : ByteArray) (own : String) (nL d : Nat) : Prop :=
  p.tables.exec = Jvm.exec ∧ c.code = cc ∧ c.maxLocals = nL ∧ s.vm.findClass own = some m.cls ∧ (∀ w ∈ xT, w.before args s = true) ∧ xE V s ∧ V.2.2.2 ≤ s.heap.size ∧ d ≤ R.frames ∧ 30 * d ≤ R.locals
/-- which value a return instruction at pc answers -/
def xRetI (cc : ByteArray) (ret : Option FieldType) (pc : Nat) (st : List Value) (v : Option Value) : Prop :=
  (decode cc pc = .ok (.return_, 1) ∧ ret = none ∧ st = [] ∧ v = none) ∨
  (decode cc pc = .ok (.ireturn, 1) ∧ ∃ (ty : FieldType) (x : Int32), ret = some ty ∧ narrow ty (.int x) = .int x ∧ st = [.int x] ∧ v = some (.int x)) ∨
  (decode cc pc = .ok (.lreturn, 1) ∧ ∃ x : Int64, ret = some .long ∧ st = [.long x] ∧ v = some (.long x)) ∨
  (decode cc pc = .ok (.areturn, 1) ∧ ∃ (n : String) (u : Value), ret = some (.object n) ∧ (u = .null ∨ ∃ a, u = .ref a) ∧ st = [u] ∧ v = some u)
abbrev xS : Type := Option (Nat × Nat × (Nat → Int32))
def xCtx (V : xV) (K : xK) (cc : ByteArray) (own : String) (nL d : Nat) (ini : Bool) (ret : Option FieldType) (sc : xS) (post : Option Value → xH → Prop) : Prop :=
  (∃ (p : Program) (e : Env) (R : Room) (s : State) (m : MethodId) (args : Array Value) (below : List Frame) (meth : Method) (c : Code) (Q : State → Prop), xFix V p R s m args c cc own nL d ∧ (ini = true → meth.name = "<init>") ∧
    (∀ (b L : Nat) (xs : Nat → Int32), sc = some (b, L, xs) → va_X b L xs s s.heap ∧ b < V.2.2.2) ∧ K = xX V p e R s m args below meth c nL Q) ∧
  ∀ (mc ms : Nat) (h : xH) (pc : Nat) (lv : List (Nat × Value)) (st : List Value) (v : Option Value), xRetI cc ret pc st v → post v h → K mc ms h pc lv st
section XR
variable {V : xV} {K : xK} {cc : ByteArray} {own : String} {nL d : Nat} {ini : Bool} {ret : Option FieldType} {sc : xS} {post : Option Value → xH → Prop} {mc ms pc : Nat} {h : xH} {lv : List (Nat × Value)} {st rest : List Value}
theorem x_ret {v : Option Value} (C : xCtx V K cc own nL d ini ret sc post) (hr : xRetI cc ret pc st v) (hp : post v h) : K mc ms h pc lv st := C.2 mc ms h pc lv st v hr hp
theorem x_vret (C : xCtx V K cc own nL d ini none sc post) (hd : decode cc pc = .ok (.return_, 1)) (hp : post none h) : K mc ms h pc lv [] := x_ret C (Or.inl ⟨hd, rfl, rfl, rfl⟩) hp
theorem x_iret {x : Int32} (C : xCtx V K cc own nL d ini (some .int) sc post) (hd : decode cc pc = .ok (.ireturn, 1)) (hp : post (some (.int x)) h) : K mc ms h pc lv [.int x] := x_ret C (Or.inr (Or.inl ⟨hd, .int, x, rfl, rfl, rfl, rfl⟩)) hp
theorem x_zret {x : Int32} (C : xCtx V K cc own nL d ini (some .boolean) sc post) (hd : decode cc pc = .ok (.ireturn, 1)) (hx : narrow .boolean (.int x) = .int x) (hp : post (some (.int x)) h) : K mc ms h pc lv [.int x] := x_ret C (Or.inr (Or.inl ⟨hd, .boolean, x, rfl, hx, rfl, rfl⟩)) hp
theorem x_lret {x : Int64} (C : xCtx V K cc own nL d ini (some .long) sc post) (hd : decode cc pc = .ok (.lreturn, 1)) (hp : post (some (.long x)) h) : K mc ms h pc lv [.long x] := x_ret C (Or.inr (Or.inr (Or.inl ⟨hd, x, rfl, rfl, rfl⟩))) hp
theorem x_aret {n : String} {a : Nat} (C : xCtx V K cc own nL d ini (some (.object n)) sc post) (hd : decode cc pc = .ok (.areturn, 1)) (hp : post (some (.ref a)) h) : K mc ms h pc lv [.ref a] := x_ret C (Or.inr (Or.inr (Or.inr ⟨hd, n, .ref a, rfl, Or.inr ⟨a, rfl⟩, rfl, rfl⟩))) hp
theorem x_aretN {n : String} (C : xCtx V K cc own nL d ini (some (.object n)) sc post) (hd : decode cc pc = .ok (.areturn, 1)) (hp : post (some .null) h) : K mc ms h pc lv [.null] := x_ret C (Or.inr (Or.inr (Or.inr ⟨hd, n, .null, rfl, Or.inl rfl, rfl, rfl⟩))) hp
theorem x_iconst {n : Int} {v : Int32} (C : xCtx V K cc own nL d ini ret sc post) (hd : decode cc pc = .ok (.iconst n, 1)) (hv : Int32.ofInt n = v) (k : K mc ms h (pc + 1) lv (.int v :: st)) : K mc ms h pc lv st := by
  obtain ⟨⟨p, e, R, s, m, args, below, meth, c, Q, ⟨hx, hb, hml, hown, hts, hE, hz, hdF, hdL⟩, hin, hsc, rfl⟩, -⟩ := C
  intro H locs cells slots ls hR hS hmc hms hl
  exact lv_iconst hx hb hd hv (k H locs cells slots ls hR hS hmc hms hl)
theorem x_bipush {n : Int} {v : Int32} (C : xCtx V K cc own nL d ini ret sc post) (hd : decode cc pc = .ok (.bipush n, 2)) (hv : (Int8.ofInt n).toInt32 = v) (k : K mc ms h (pc + 2) lv (.int v :: st)) : K mc ms h pc lv st := by
  obtain ⟨⟨p, e, R, s, m, args, below, meth, c, Q, ⟨hx, hb, hml, hown, hts, hE, hz, hdF, hdL⟩, hin, hsc, rfl⟩, -⟩ := C
  intro H locs cells slots ls hR hS hmc hms hl
  exact lv_bipush hx hb hd hv (k H locs cells slots ls hR hS hmc hms hl)
theorem x_sipush {n : Int} {v : Int32} (C : xCtx V K cc own nL d ini ret sc post) (hd : decode cc pc = .ok (.sipush n, 3)) (hv : (Int16.ofInt n).toInt32 = v) (k : K mc ms h (pc + 3) lv (.int v :: st)) : K mc ms h pc lv st := by
  obtain ⟨⟨p, e, R, s, m, args, below, meth, c, Q, ⟨hx, hb, hml, hown, hts, hE, hz, hdF, hdL⟩, hin, hsc, rfl⟩, -⟩ := C
  intro H locs cells slots ls hR hS hmc hms hl
  exact lv_sipush hx hb hd hv (k H locs cells slots ls hR hS hmc hms hl)
theorem x_ldc {n : Nat} {v : Int32} (C : xCtx V K cc own nL d ini ret sc post) (hw : Cond.constant own n v ∈ xT) (hd : decode cc pc = .ok (.ldc n, 2)) (k : K mc ms h (pc + 2) lv (.int v :: st)) : K mc ms h pc lv st := by
  obtain ⟨⟨p, e, R, s, m, args, below, meth, c, Q, ⟨hx, hb, hml, hown, hts, hE, hz, hdF, hdL⟩, hin, hsc, rfl⟩, -⟩ := C
  intro H locs cells slots ls hR hS hmc hms hl
  exact lv_ldc hx hb hown (hts _ hw) hd (k H locs cells slots ls hR hS hmc hms hl)
theorem x_lconst {n : Fin 2} {v : Int64} (C : xCtx V K cc own nL d ini ret sc post) (hd : decode cc pc = .ok (.lconst n, 1)) (hv : Int64.ofNat (n : Nat) = v) (k : K mc ms h (pc + 1) lv (.long v :: st)) : K mc ms h pc lv st := by
  obtain ⟨⟨p, e, R, s, m, args, below, meth, c, Q, ⟨hx, hb, hml, hown, hts, hE, hz, hdF, hdL⟩, hin, hsc, rfl⟩, -⟩ := C
  intro H locs cells slots ls hR hS hmc hms hl
  exact lv_lconst hx hb hd hv (k H locs cells slots ls hR hS hmc hms hl)
theorem x_ldc2 {n : Nat} {v : Int64} (C : xCtx V K cc own nL d ini ret sc post) (hw : Cond.constantLong own n v ∈ xT) (hd : decode cc pc = .ok (.ldc2_w n, 3)) (k : K mc ms h (pc + 3) lv (.long v :: st)) : K mc ms h pc lv st := by
  obtain ⟨⟨p, e, R, s, m, args, below, meth, c, Q, ⟨hx, hb, hml, hown, hts, hE, hz, hdF, hdL⟩, hin, hsc, rfl⟩, -⟩ := C
  intro H locs cells slots ls hR hS hmc hms hl
  exact lv_ldc2 hx hb hown (hts _ hw) hd (k H locs cells slots ls hR hS hmc hms hl)
theorem x_null  (C : xCtx V K cc own nL d ini ret sc post) (hd : decode cc pc = .ok (.aconst_null, 1)) (k : K mc ms h (pc + 1) lv (.null :: st)) : K mc ms h pc lv st := by
  obtain ⟨⟨p, e, R, s, m, args, below, meth, c, Q, ⟨hx, hb, hml, hown, hts, hE, hz, hdF, hdL⟩, hin, hsc, rfl⟩, -⟩ := C
  intro H locs cells slots ls hR hS hmc hms hl
  exact lv_null hx hb hd (k H locs cells slots ls hR hS hmc hms hl)
theorem x_iload_n {k0 : Fin 4} {i : Nat} {x : Int32} (C : xCtx V K cc own nL d ini ret sc post) (hd : decode cc pc = .ok (.iload_n k0, 1)) (hi : (k0 : Nat) = i) (hg : xg lv i = some (.int x)) (k : K mc ms h (pc + 1) lv (.int x :: st)) : K mc ms h pc lv st := by
  obtain ⟨⟨p, e, R, s, m, args, below, meth, c, Q, ⟨hx, hb, hml, hown, hts, hE, hz, hdF, hdL⟩, hin, hsc, rfl⟩, -⟩ := C
  intro H locs cells slots ls hR hS hmc hms hl
  exact lv_iload_n hx hb hd hi (xg_at hl hg) (k H locs cells slots ls hR hS hmc hms hl)
theorem x_iload {i : Nat} {x : Int32} (C : xCtx V K cc own nL d ini ret sc post) (hd : decode cc pc = .ok (.iload i, 2)) (hg : xg lv i = some (.int x)) (k : K mc ms h (pc + 2) lv (.int x :: st)) : K mc ms h pc lv st := by
  obtain ⟨⟨p, e, R, s, m, args, below, meth, c, Q, ⟨hx, hb, hml, hown, hts, hE, hz, hdF, hdL⟩, hin, hsc, rfl⟩, -⟩ := C
  intro H locs cells slots ls hR hS hmc hms hl
  exact lv_iload hx hb hd (xg_at hl hg) (k H locs cells slots ls hR hS hmc hms hl)
theorem x_lload_n {k0 : Fin 4} {i : Nat} {x : Int64} (C : xCtx V K cc own nL d ini ret sc post) (hd : decode cc pc = .ok (.lload_n k0, 1)) (hi : (k0 : Nat) = i) (hg : xg lv i = some (.long x)) (k : K mc ms h (pc + 1) lv (.long x :: st)) : K mc ms h pc lv st := by
  obtain ⟨⟨p, e, R, s, m, args, below, meth, c, Q, ⟨hx, hb, hml, hown, hts, hE, hz, hdF, hdL⟩, hin, hsc, rfl⟩, -⟩ := C
  intro H locs cells slots ls hR hS hmc hms hl
  exact lv_lload_n hx hb hd hi (xg_at hl hg) (k H locs cells slots ls hR hS hmc hms hl)
theorem x_lload {i : Nat} {x : Int64} (C : xCtx V K cc own nL d ini ret sc post) (hd : decode cc pc = .ok (.lload i, 2)) (hg : xg lv i = some (.long x)) (k : K mc ms h (pc + 2) lv (.long x :: st)) : K mc ms h pc lv st := by
  obtain ⟨⟨p, e, R, s, m, args, below, meth, c, Q, ⟨hx, hb, hml, hown, hts, hE, hz, hdF, hdL⟩, hin, hsc, rfl⟩, -⟩ := C
  intro H locs cells slots ls hR hS hmc hms hl
  exact lv_lload hx hb hd (xg_at hl hg) (k H locs cells slots ls hR hS hmc hms hl)
theorem x_aload_n {k0 : Fin 4} {i : Nat} {x : Nat} (C : xCtx V K cc own nL d ini ret sc post) (hd : decode cc pc = .ok (.aload_n k0, 1)) (hi : (k0 : Nat) = i) (hg : xg lv i = some (.ref x)) (k : K mc ms h (pc + 1) lv (.ref x :: st)) : K mc ms h pc lv st := by
  obtain ⟨⟨p, e, R, s, m, args, below, meth, c, Q, ⟨hx, hb, hml, hown, hts, hE, hz, hdF, hdL⟩, hin, hsc, rfl⟩, -⟩ := C
  intro H locs cells slots ls hR hS hmc hms hl
  exact lv_aload_n hx hb hd hi (xg_at hl hg) (k H locs cells slots ls hR hS hmc hms hl)
theorem x_aload {i : Nat} {x : Nat} (C : xCtx V K cc own nL d ini ret sc post) (hd : decode cc pc = .ok (.aload i, 2)) (hg : xg lv i = some (.ref x)) (k : K mc ms h (pc + 2) lv (.ref x :: st)) : K mc ms h pc lv st := by
  obtain ⟨⟨p, e, R, s, m, args, below, meth, c, Q, ⟨hx, hb, hml, hown, hts, hE, hz, hdF, hdL⟩, hin, hsc, rfl⟩, -⟩ := C
  intro H locs cells slots ls hR hS hmc hms hl
  exact lv_aload hx hb hd (xg_at hl hg) (k H locs cells slots ls hR hS hmc hms hl)
theorem x_aload_nN {k0 : Fin 4} {i : Nat} (C : xCtx V K cc own nL d ini ret sc post) (hd : decode cc pc = .ok (.aload_n k0, 1)) (hi : (k0 : Nat) = i) (hg : xg lv i = some .null) (k : K mc ms h (pc + 1) lv (.null :: st)) : K mc ms h pc lv st := by
  obtain ⟨⟨p, e, R, s, m, args, below, meth, c, Q, ⟨hx, hb, hml, hown, hts, hE, hz, hdF, hdL⟩, hin, hsc, rfl⟩, -⟩ := C
  intro H locs cells slots ls hR hS hmc hms hl
  exact lv_aload_nN hx hb hd hi (xg_at hl hg) (k H locs cells slots ls hR hS hmc hms hl)
theorem x_aloadN {i : Nat} (C : xCtx V K cc own nL d ini ret sc post) (hd : decode cc pc = .ok (.aload i, 2)) (hg : xg lv i = some .null) (k : K mc ms h (pc + 2) lv (.null :: st)) : K mc ms h pc lv st := by
  obtain ⟨⟨p, e, R, s, m, args, below, meth, c, Q, ⟨hx, hb, hml, hown, hts, hE, hz, hdF, hdL⟩, hin, hsc, rfl⟩, -⟩ := C
  intro H locs cells slots ls hR hS hmc hms hl
  exact lv_aloadN hx hb hd (xg_at hl hg) (k H locs cells slots ls hR hS hmc hms hl)
theorem x_istore_n {k0 : Fin 4} {i : Nat} {x : Int32} {lv' : List (Nat × Value)} (C : xCtx V K cc own nL d ini ret sc post) (hd : decode cc pc = .ok (.istore_n k0, 1)) (hi : (k0 : Nat) = i) (hn : i < nL) (hlv : (i, Value.int x) :: lv.filter (fun q => !(q.1 == i) && !(q.1 + 1 == i && q.2.category == 2)) = lv') (k : K mc ms h (pc + 1) lv' rest) : K mc ms h pc lv (Value.int x :: rest) := by
  obtain ⟨⟨p, e, R, s, m, args, below, meth, c, Q, ⟨hx, hb, hml, hown, hts, hE, hz, hdF, hdL⟩, hin, hsc, rfl⟩, -⟩ := C
  intro H locs cells slots ls hR hS hmc hms hl
  exact lv_istore_n hx hb hd hi hl hn hlv (fun ls' hl' => k H locs cells slots ls' hR hS hmc hms hl')
theorem x_istore {i : Nat} {x : Int32} {lv' : List (Nat × Value)} (C : xCtx V K cc own nL d ini ret sc post) (hd : decode cc pc = .ok (.istore i, 2)) (hn : i < nL) (hlv : (i, Value.int x) :: lv.filter (fun q => !(q.1 == i) && !(q.1 + 1 == i && q.2.category == 2)) = lv') (k : K mc ms h (pc + 2) lv' rest) : K mc ms h pc lv (Value.int x :: rest) := by
  obtain ⟨⟨p, e, R, s, m, args, below, meth, c, Q, ⟨hx, hb, hml, hown, hts, hE, hz, hdF, hdL⟩, hin, hsc, rfl⟩, -⟩ := C
  intro H locs cells slots ls hR hS hmc hms hl
  exact lv_istore hx hb hd hl hn hlv (fun ls' hl' => k H locs cells slots ls' hR hS hmc hms hl')
theorem x_astore_n {k0 : Fin 4} {i : Nat} {x : Nat} {lv' : List (Nat × Value)} (C : xCtx V K cc own nL d ini ret sc post) (hd : decode cc pc = .ok (.astore_n k0, 1)) (hi : (k0 : Nat) = i) (hn : i < nL) (hlv : (i, Value.ref x) :: lv.filter (fun q => !(q.1 == i) && !(q.1 + 1 == i && q.2.category == 2)) = lv') (k : K mc ms h (pc + 1) lv' rest) : K mc ms h pc lv (Value.ref x :: rest) := by
  obtain ⟨⟨p, e, R, s, m, args, below, meth, c, Q, ⟨hx, hb, hml, hown, hts, hE, hz, hdF, hdL⟩, hin, hsc, rfl⟩, -⟩ := C
  intro H locs cells slots ls hR hS hmc hms hl
  exact lv_astore_n hx hb hd hi hl hn hlv (fun ls' hl' => k H locs cells slots ls' hR hS hmc hms hl')
theorem x_astore {i : Nat} {x : Nat} {lv' : List (Nat × Value)} (C : xCtx V K cc own nL d ini ret sc post) (hd : decode cc pc = .ok (.astore i, 2)) (hn : i < nL) (hlv : (i, Value.ref x) :: lv.filter (fun q => !(q.1 == i) && !(q.1 + 1 == i && q.2.category == 2)) = lv') (k : K mc ms h (pc + 2) lv' rest) : K mc ms h pc lv (Value.ref x :: rest) := by
  obtain ⟨⟨p, e, R, s, m, args, below, meth, c, Q, ⟨hx, hb, hml, hown, hts, hE, hz, hdF, hdL⟩, hin, hsc, rfl⟩, -⟩ := C
  intro H locs cells slots ls hR hS hmc hms hl
  exact lv_astore hx hb hd hl hn hlv (fun ls' hl' => k H locs cells slots ls' hR hS hmc hms hl')
theorem x_astore_nN {k0 : Fin 4} {i : Nat} {lv' : List (Nat × Value)} (C : xCtx V K cc own nL d ini ret sc post) (hd : decode cc pc = .ok (.astore_n k0, 1)) (hi : (k0 : Nat) = i) (hn : i < nL) (hlv : (i, Value.null) :: lv.filter (fun q => !(q.1 == i) && !(q.1 + 1 == i && q.2.category == 2)) = lv') (k : K mc ms h (pc + 1) lv' rest) : K mc ms h pc lv (Value.null :: rest) := by
  obtain ⟨⟨p, e, R, s, m, args, below, meth, c, Q, ⟨hx, hb, hml, hown, hts, hE, hz, hdF, hdL⟩, hin, hsc, rfl⟩, -⟩ := C
  intro H locs cells slots ls hR hS hmc hms hl
  exact lv_astore_nN hx hb hd hi hl hn hlv (fun ls' hl' => k H locs cells slots ls' hR hS hmc hms hl')
theorem x_astoreN {i : Nat} {lv' : List (Nat × Value)} (C : xCtx V K cc own nL d ini ret sc post) (hd : decode cc pc = .ok (.astore i, 2)) (hn : i < nL) (hlv : (i, Value.null) :: lv.filter (fun q => !(q.1 == i) && !(q.1 + 1 == i && q.2.category == 2)) = lv') (k : K mc ms h (pc + 2) lv' rest) : K mc ms h pc lv (Value.null :: rest) := by
  obtain ⟨⟨p, e, R, s, m, args, below, meth, c, Q, ⟨hx, hb, hml, hown, hts, hE, hz, hdF, hdL⟩, hin, hsc, rfl⟩, -⟩ := C
  intro H locs cells slots ls hR hS hmc hms hl
  exact lv_astoreN hx hb hd hl hn hlv (fun ls' hl' => k H locs cells slots ls' hR hS hmc hms hl')
theorem x_lstore_n {k0 : Fin 4} {i : Nat} {x : Int64} {lv' : List (Nat × Value)} (C : xCtx V K cc own nL d ini ret sc post) (hd : decode cc pc = .ok (.lstore_n k0, 1)) (hi : (k0 : Nat) = i) (hn : i + 1 < nL) (hlv : (i, Value.long x) :: lv.filter (fun q => !(q.1 == i) && (!(q.1 == i + 1) && !(q.1 + 1 == i && q.2.category == 2))) = lv') (k : K mc ms h (pc + 1) lv' rest) : K mc ms h pc lv (Value.long x :: rest) := by
  obtain ⟨⟨p, e, R, s, m, args, below, meth, c, Q, ⟨hx, hb, hml, hown, hts, hE, hz, hdF, hdL⟩, hin, hsc, rfl⟩, -⟩ := C
  intro H locs cells slots ls hR hS hmc hms hl
  exact lv_lstore_n hx hb hd hi hl hn hlv (fun ls' hl' => k H locs cells slots ls' hR hS hmc hms hl')
theorem x_lstore {i : Nat} {x : Int64} {lv' : List (Nat × Value)} (C : xCtx V K cc own nL d ini ret sc post) (hd : decode cc pc = .ok (.lstore i, 2)) (hn : i + 1 < nL) (hlv : (i, Value.long x) :: lv.filter (fun q => !(q.1 == i) && (!(q.1 == i + 1) && !(q.1 + 1 == i && q.2.category == 2))) = lv') (k : K mc ms h (pc + 2) lv' rest) : K mc ms h pc lv (Value.long x :: rest) := by
  obtain ⟨⟨p, e, R, s, m, args, below, meth, c, Q, ⟨hx, hb, hml, hown, hts, hE, hz, hdF, hdL⟩, hin, hsc, rfl⟩, -⟩ := C
  intro H locs cells slots ls hR hS hmc hms hl
  exact lv_lstore hx hb hd hl hn hlv (fun ls' hl' => k H locs cells slots ls' hR hS hmc hms hl')
theorem x_iinc {i k0 : Nat} {n : Int} {x v : Int32} {lv' : List (Nat × Value)} (C : xCtx V K cc own nL d ini ret sc post) (hd : decode cc pc = .ok (.iinc i n, 3)) (hk : lv[k0]? = some (i, .int x)) (hv : x + Int32.ofInt n = v) (hn : i < nL) (hlv : (i, Value.int v) :: lv.filter (fun q => !(q.1 == i) && !(q.1 + 1 == i && q.2.category == 2)) = lv') (k : K mc ms h (pc + 3) lv' st) : K mc ms h pc lv st := by
  obtain ⟨⟨p, e, R, s, m, args, below, meth, c, Q, ⟨hx, hb, hml, hown, hts, hE, hz, hdF, hdL⟩, hin, hsc, rfl⟩, -⟩ := C
  intro H locs cells slots ls hR hS hmc hms hl
  exact lv_iinc hx hb hd hl hk hv hn hlv (fun ls' hl' => k H locs cells slots ls' hR hS hmc hms hl')
theorem x_iadd {x y : Int32} (C : xCtx V K cc own nL d ini ret sc post) (hd : decode cc pc = .ok (.iadd, 1)) (k : K mc ms h (pc + 1) lv (.int (x + y) :: rest)) : K mc ms h pc lv (.int y :: .int x :: rest) := by
  obtain ⟨⟨p, e, R, s, m, args, below, meth, c, Q, ⟨hx, hb, hml, hown, hts, hE, hz, hdF, hdL⟩, hin, hsc, rfl⟩, -⟩ := C
  intro H locs cells slots ls hR hS hmc hms hl
  exact lv_iadd hx hb hd (k H locs cells slots ls hR hS hmc hms hl)
theorem x_isub {x y : Int32} (C : xCtx V K cc own nL d ini ret sc post) (hd : decode cc pc = .ok (.isub, 1)) (k : K mc ms h (pc + 1) lv (.int (x - y) :: rest)) : K mc ms h pc lv (.int y :: .int x :: rest) := by
  obtain ⟨⟨p, e, R, s, m, args, below, meth, c, Q, ⟨hx, hb, hml, hown, hts, hE, hz, hdF, hdL⟩, hin, hsc, rfl⟩, -⟩ := C
  intro H locs cells slots ls hR hS hmc hms hl
  exact lv_isub hx hb hd (k H locs cells slots ls hR hS hmc hms hl)
theorem x_imul {x y : Int32} (C : xCtx V K cc own nL d ini ret sc post) (hd : decode cc pc = .ok (.imul, 1)) (k : K mc ms h (pc + 1) lv (.int (x * y) :: rest)) : K mc ms h pc lv (.int y :: .int x :: rest) := by
  obtain ⟨⟨p, e, R, s, m, args, below, meth, c, Q, ⟨hx, hb, hml, hown, hts, hE, hz, hdF, hdL⟩, hin, hsc, rfl⟩, -⟩ := C
  intro H locs cells slots ls hR hS hmc hms hl
  exact lv_imul hx hb hd (k H locs cells slots ls hR hS hmc hms hl)
theorem x_iand {x y : Int32} (C : xCtx V K cc own nL d ini ret sc post) (hd : decode cc pc = .ok (.iand, 1)) (k : K mc ms h (pc + 1) lv (.int (x &&& y) :: rest)) : K mc ms h pc lv (.int y :: .int x :: rest) := by
  obtain ⟨⟨p, e, R, s, m, args, below, meth, c, Q, ⟨hx, hb, hml, hown, hts, hE, hz, hdF, hdL⟩, hin, hsc, rfl⟩, -⟩ := C
  intro H locs cells slots ls hR hS hmc hms hl
  exact lv_iand hx hb hd (k H locs cells slots ls hR hS hmc hms hl)
theorem x_ladd {x y : Int64} (C : xCtx V K cc own nL d ini ret sc post) (hd : decode cc pc = .ok (.ladd, 1)) (k : K mc ms h (pc + 1) lv (.long (x + y) :: rest)) : K mc ms h pc lv (.long y :: .long x :: rest) := by
  obtain ⟨⟨p, e, R, s, m, args, below, meth, c, Q, ⟨hx, hb, hml, hown, hts, hE, hz, hdF, hdL⟩, hin, hsc, rfl⟩, -⟩ := C
  intro H locs cells slots ls hR hS hmc hms hl
  exact lv_ladd hx hb hd (k H locs cells slots ls hR hS hmc hms hl)
theorem x_lsub {x y : Int64} (C : xCtx V K cc own nL d ini ret sc post) (hd : decode cc pc = .ok (.lsub, 1)) (k : K mc ms h (pc + 1) lv (.long (x - y) :: rest)) : K mc ms h pc lv (.long y :: .long x :: rest) := by
  obtain ⟨⟨p, e, R, s, m, args, below, meth, c, Q, ⟨hx, hb, hml, hown, hts, hE, hz, hdF, hdL⟩, hin, hsc, rfl⟩, -⟩ := C
  intro H locs cells slots ls hR hS hmc hms hl
  exact lv_lsub hx hb hd (k H locs cells slots ls hR hS hmc hms hl)
theorem x_i2l {x : Int32} (C : xCtx V K cc own nL d ini ret sc post) (hd : decode cc pc = .ok (.i2l, 1)) (k : K mc ms h (pc + 1) lv (.long x.toInt64 :: rest)) : K mc ms h pc lv (.int x :: rest) := by
  obtain ⟨⟨p, e, R, s, m, args, below, meth, c, Q, ⟨hx, hb, hml, hown, hts, hE, hz, hdF, hdL⟩, hin, hsc, rfl⟩, -⟩ := C
  intro H locs cells slots ls hR hS hmc hms hl
  exact lv_i2l hx hb hd rfl (k H locs cells slots ls hR hS hmc hms hl)
theorem x_lcmp {x y : Int64} (C : xCtx V K cc own nL d ini ret sc post) (hd : decode cc pc = .ok (.lcmp, 1)) (k : K mc ms h (pc + 1) lv (.int (lg_cmp x y) :: rest)) : K mc ms h pc lv (.long y :: .long x :: rest) := by
  obtain ⟨⟨p, e, R, s, m, args, below, meth, c, Q, ⟨hx, hb, hml, hown, hts, hE, hz, hdF, hdL⟩, hin, hsc, rfl⟩, -⟩ := C
  intro H locs cells slots ls hR hS hmc hms hl
  exact W.lcmp hx hb hd (k H locs cells slots ls hR hS hmc hms hl)
theorem x_dup {a : Value} (C : xCtx V K cc own nL d ini ret sc post) (hd : decode cc pc = .ok (.dup, 1)) (ha : a.category = 1) (k : K mc ms h (pc + 1) lv (a :: a :: rest)) : K mc ms h pc lv (a :: rest) := by
  obtain ⟨⟨p, e, R, s, m, args, below, meth, c, Q, ⟨hx, hb, hml, hown, hts, hE, hz, hdF, hdL⟩, hin, hsc, rfl⟩, -⟩ := C
  intro H locs cells slots ls hR hS hmc hms hl
  exact lv_dup hx hb hd ha (k H locs cells slots ls hR hS hmc hms hl)
theorem x_dup_x1 {a b : Value} (C : xCtx V K cc own nL d ini ret sc post) (hd : decode cc pc = .ok (.dup_x1, 1)) (ha : a.category = 1) (hb9 : b.category = 1) (k : K mc ms h (pc + 1) lv (a :: b :: a :: rest)) : K mc ms h pc lv (a :: b :: rest) := by
  obtain ⟨⟨p, e, R, s, m, args, below, meth, c, Q, ⟨hx, hb, hml, hown, hts, hE, hz, hdF, hdL⟩, hin, hsc, rfl⟩, -⟩ := C
  intro H locs cells slots ls hR hS hmc hms hl
  exact lv_dup_x1 hx hb hd ha hb9 (k H locs cells slots ls hR hS hmc hms hl)
theorem x_dup2 {a b : Value} (C : xCtx V K cc own nL d ini ret sc post) (hd : decode cc pc = .ok (.dup2, 1)) (ha : a.category = 1) (hb9 : b.category = 1) (k : K mc ms h (pc + 1) lv (a :: b :: a :: b :: rest)) : K mc ms h pc lv (a :: b :: rest) := by
  obtain ⟨⟨p, e, R, s, m, args, below, meth, c, Q, ⟨hx, hb, hml, hown, hts, hE, hz, hdF, hdL⟩, hin, hsc, rfl⟩, -⟩ := C
  intro H locs cells slots ls hR hS hmc hms hl
  exact lv_dup2_11 hx hb hd ha hb9 (k H locs cells slots ls hR hS hmc hms hl)
theorem x_pop {a : Value} (C : xCtx V K cc own nL d ini ret sc post) (hd : decode cc pc = .ok (.pop, 1)) (ha : a.category = 1) (k : K mc ms h (pc + 1) lv rest) : K mc ms h pc lv (a :: rest) := by
  obtain ⟨⟨p, e, R, s, m, args, below, meth, c, Q, ⟨hx, hb, hml, hown, hts, hE, hz, hdF, hdL⟩, hin, hsc, rfl⟩, -⟩ := C
  intro H locs cells slots ls hR hS hmc hms hl
  exact lv_pop hx hb hd ha (k H locs cells slots ls hR hS hmc hms hl)
theorem x_if_eq {x : Int32} {off : Int} {tgt : Nat} (C : xCtx V K cc own nL d ini ret sc post) (hd : decode cc pc = .ok (.ifCond .eq off, 3)) (ht : (pc : Int) + off = (tgt : Int)) (kt : x = 0 → K mc ms h tgt lv rest) (kf : ¬ x = 0 → K mc ms h (pc + 3) lv rest) : K mc ms h pc lv (.int x :: rest) := by
  obtain ⟨⟨p, e, R, s, m, args, below, meth, c, Q, ⟨hx, hb, hml, hown, hts, hE, hz, hdF, hdL⟩, hin, hsc, rfl⟩, -⟩ := C
  intro H locs cells slots ls hR hS hmc hms hl
  exact lv_if_eq hx hb hd ht (fun q => kt q H locs cells slots ls hR hS hmc hms hl) (fun q => kf q H locs cells slots ls hR hS hmc hms hl)
theorem x_icmp_eq {x y : Int32} {off : Int} {tgt : Nat} (C : xCtx V K cc own nL d ini ret sc post) (hd : decode cc pc = .ok (.if_icmp .eq off, 3)) (ht : (pc : Int) + off = (tgt : Int)) (kt : x = y → K mc ms h tgt lv rest) (kf : ¬ x = y → K mc ms h (pc + 3) lv rest) : K mc ms h pc lv (.int y :: .int x :: rest) := by
  obtain ⟨⟨p, e, R, s, m, args, below, meth, c, Q, ⟨hx, hb, hml, hown, hts, hE, hz, hdF, hdL⟩, hin, hsc, rfl⟩, -⟩ := C
  intro H locs cells slots ls hR hS hmc hms hl
  exact lv_icmp_eq hx hb hd ht (fun q => kt q H locs cells slots ls hR hS hmc hms hl) (fun q => kf q H locs cells slots ls hR hS hmc hms hl)
theorem x_if_ne {x : Int32} {off : Int} {tgt : Nat} (C : xCtx V K cc own nL d ini ret sc post) (hd : decode cc pc = .ok (.ifCond .ne off, 3)) (ht : (pc : Int) + off = (tgt : Int)) (kt : ¬ x = 0 → K mc ms h tgt lv rest) (kf : x = 0 → K mc ms h (pc + 3) lv rest) : K mc ms h pc lv (.int x :: rest) := by
  obtain ⟨⟨p, e, R, s, m, args, below, meth, c, Q, ⟨hx, hb, hml, hown, hts, hE, hz, hdF, hdL⟩, hin, hsc, rfl⟩, -⟩ := C
  intro H locs cells slots ls hR hS hmc hms hl
  exact lv_if_ne hx hb hd ht (fun q => kt q H locs cells slots ls hR hS hmc hms hl) (fun q => kf q H locs cells slots ls hR hS hmc hms hl)
theorem x_icmp_ne {x y : Int32} {off : Int} {tgt : Nat} (C : xCtx V K cc own nL d ini ret sc post) (hd : decode cc pc = .ok (.if_icmp .ne off, 3)) (ht : (pc : Int) + off = (tgt : Int)) (kt : ¬ x = y → K mc ms h tgt lv rest) (kf : x = y → K mc ms h (pc + 3) lv rest) : K mc ms h pc lv (.int y :: .int x :: rest) := by
  obtain ⟨⟨p, e, R, s, m, args, below, meth, c, Q, ⟨hx, hb, hml, hown, hts, hE, hz, hdF, hdL⟩, hin, hsc, rfl⟩, -⟩ := C
  intro H locs cells slots ls hR hS hmc hms hl
  exact lv_icmp_ne hx hb hd ht (fun q => kt q H locs cells slots ls hR hS hmc hms hl) (fun q => kf q H locs cells slots ls hR hS hmc hms hl)
theorem x_if_lt {x : Int32} {off : Int} {tgt : Nat} (C : xCtx V K cc own nL d ini ret sc post) (hd : decode cc pc = .ok (.ifCond .lt off, 3)) (ht : (pc : Int) + off = (tgt : Int)) (kt : x < 0 → K mc ms h tgt lv rest) (kf : ¬ x < 0 → K mc ms h (pc + 3) lv rest) : K mc ms h pc lv (.int x :: rest) := by
  obtain ⟨⟨p, e, R, s, m, args, below, meth, c, Q, ⟨hx, hb, hml, hown, hts, hE, hz, hdF, hdL⟩, hin, hsc, rfl⟩, -⟩ := C
  intro H locs cells slots ls hR hS hmc hms hl
  exact lv_if_lt hx hb hd ht (fun q => kt q H locs cells slots ls hR hS hmc hms hl) (fun q => kf q H locs cells slots ls hR hS hmc hms hl)
theorem x_icmp_lt {x y : Int32} {off : Int} {tgt : Nat} (C : xCtx V K cc own nL d ini ret sc post) (hd : decode cc pc = .ok (.if_icmp .lt off, 3)) (ht : (pc : Int) + off = (tgt : Int)) (kt : x < y → K mc ms h tgt lv rest) (kf : ¬ x < y → K mc ms h (pc + 3) lv rest) : K mc ms h pc lv (.int y :: .int x :: rest) := by
  obtain ⟨⟨p, e, R, s, m, args, below, meth, c, Q, ⟨hx, hb, hml, hown, hts, hE, hz, hdF, hdL⟩, hin, hsc, rfl⟩, -⟩ := C
  intro H locs cells slots ls hR hS hmc hms hl
  exact lv_icmp_lt hx hb hd ht (fun q => kt q H locs cells slots ls hR hS hmc hms hl) (fun q => kf q H locs cells slots ls hR hS hmc hms hl)
theorem x_if_ge {x : Int32} {off : Int} {tgt : Nat} (C : xCtx V K cc own nL d ini ret sc post) (hd : decode cc pc = .ok (.ifCond .ge off, 3)) (ht : (pc : Int) + off = (tgt : Int)) (kt : 0 ≤ x → K mc ms h tgt lv rest) (kf : ¬ 0 ≤ x → K mc ms h (pc + 3) lv rest) : K mc ms h pc lv (.int x :: rest) := by
  obtain ⟨⟨p, e, R, s, m, args, below, meth, c, Q, ⟨hx, hb, hml, hown, hts, hE, hz, hdF, hdL⟩, hin, hsc, rfl⟩, -⟩ := C
  intro H locs cells slots ls hR hS hmc hms hl
  exact lv_if_ge hx hb hd ht (fun q => kt q H locs cells slots ls hR hS hmc hms hl) (fun q => kf q H locs cells slots ls hR hS hmc hms hl)
theorem x_icmp_ge {x y : Int32} {off : Int} {tgt : Nat} (C : xCtx V K cc own nL d ini ret sc post) (hd : decode cc pc = .ok (.if_icmp .ge off, 3)) (ht : (pc : Int) + off = (tgt : Int)) (kt : y ≤ x → K mc ms h tgt lv rest) (kf : ¬ y ≤ x → K mc ms h (pc + 3) lv rest) : K mc ms h pc lv (.int y :: .int x :: rest) := by
  obtain ⟨⟨p, e, R, s, m, args, below, meth, c, Q, ⟨hx, hb, hml, hown, hts, hE, hz, hdF, hdL⟩, hin, hsc, rfl⟩, -⟩ := C
  intro H locs cells slots ls hR hS hmc hms hl
  exact lv_icmp_ge hx hb hd ht (fun q => kt q H locs cells slots ls hR hS hmc hms hl) (fun q => kf q H locs cells slots ls hR hS hmc hms hl)
theorem x_if_gt {x : Int32} {off : Int} {tgt : Nat} (C : xCtx V K cc own nL d ini ret sc post) (hd : decode cc pc = .ok (.ifCond .gt off, 3)) (ht : (pc : Int) + off = (tgt : Int)) (kt : 0 < x → K mc ms h tgt lv rest) (kf : ¬ 0 < x → K mc ms h (pc + 3) lv rest) : K mc ms h pc lv (.int x :: rest) := by
  obtain ⟨⟨p, e, R, s, m, args, below, meth, c, Q, ⟨hx, hb, hml, hown, hts, hE, hz, hdF, hdL⟩, hin, hsc, rfl⟩, -⟩ := C
  intro H locs cells slots ls hR hS hmc hms hl
  exact lv_if_gt hx hb hd ht (fun q => kt q H locs cells slots ls hR hS hmc hms hl) (fun q => kf q H locs cells slots ls hR hS hmc hms hl)
theorem x_icmp_gt {x y : Int32} {off : Int} {tgt : Nat} (C : xCtx V K cc own nL d ini ret sc post) (hd : decode cc pc = .ok (.if_icmp .gt off, 3)) (ht : (pc : Int) + off = (tgt : Int)) (kt : y < x → K mc ms h tgt lv rest) (kf : ¬ y < x → K mc ms h (pc + 3) lv rest) : K mc ms h pc lv (.int y :: .int x :: rest) := by
  obtain ⟨⟨p, e, R, s, m, args, below, meth, c, Q, ⟨hx, hb, hml, hown, hts, hE, hz, hdF, hdL⟩, hin, hsc, rfl⟩, -⟩ := C
  intro H locs cells slots ls hR hS hmc hms hl
  exact lv_icmp_gt hx hb hd ht (fun q => kt q H locs cells slots ls hR hS hmc hms hl) (fun q => kf q H locs cells slots ls hR hS hmc hms hl)
theorem x_if_le {x : Int32} {off : Int} {tgt : Nat} (C : xCtx V K cc own nL d ini ret sc post) (hd : decode cc pc = .ok (.ifCond .le off, 3)) (ht : (pc : Int) + off = (tgt : Int)) (kt : x ≤ 0 → K mc ms h tgt lv rest) (kf : ¬ x ≤ 0 → K mc ms h (pc + 3) lv rest) : K mc ms h pc lv (.int x :: rest) := by
  obtain ⟨⟨p, e, R, s, m, args, below, meth, c, Q, ⟨hx, hb, hml, hown, hts, hE, hz, hdF, hdL⟩, hin, hsc, rfl⟩, -⟩ := C
  intro H locs cells slots ls hR hS hmc hms hl
  exact lv_if_le hx hb hd ht (fun q => kt q H locs cells slots ls hR hS hmc hms hl) (fun q => kf q H locs cells slots ls hR hS hmc hms hl)
theorem x_icmp_le {x y : Int32} {off : Int} {tgt : Nat} (C : xCtx V K cc own nL d ini ret sc post) (hd : decode cc pc = .ok (.if_icmp .le off, 3)) (ht : (pc : Int) + off = (tgt : Int)) (kt : x ≤ y → K mc ms h tgt lv rest) (kf : ¬ x ≤ y → K mc ms h (pc + 3) lv rest) : K mc ms h pc lv (.int y :: .int x :: rest) := by
  obtain ⟨⟨p, e, R, s, m, args, below, meth, c, Q, ⟨hx, hb, hml, hown, hts, hE, hz, hdF, hdL⟩, hin, hsc, rfl⟩, -⟩ := C
  intro H locs cells slots ls hR hS hmc hms hl
  exact lv_icmp_le hx hb hd ht (fun q => kt q H locs cells slots ls hR hS hmc hms hl) (fun q => kf q H locs cells slots ls hR hS hmc hms hl)
theorem x_goto {off : Int} {tgt : Nat} (C : xCtx V K cc own nL d ini ret sc post) (hd : decode cc pc = .ok (.goto off, 3)) (ht : (pc : Int) + off = (tgt : Int)) (k : K mc ms h tgt lv st) : K mc ms h pc lv st := by
  obtain ⟨⟨p, e, R, s, m, args, below, meth, c, Q, ⟨hx, hb, hml, hown, hts, hE, hz, hdF, hdL⟩, hin, hsc, rfl⟩, -⟩ := C
  intro H locs cells slots ls hR hS hmc hms hl
  exact lv_goto hx hb hd ht (k H locs cells slots ls hR hS hmc hms hl)
theorem x_ifnull {x : Nat} {off : Int} (C : xCtx V K cc own nL d ini ret sc post) (hd : decode cc pc = .ok (.ifnull off, 3)) (k : K mc ms h (pc + 3) lv rest) : K mc ms h pc lv (.ref x :: rest) := by
  obtain ⟨⟨p, e, R, s, m, args, below, meth, c, Q, ⟨hx, hb, hml, hown, hts, hE, hz, hdF, hdL⟩, hin, hsc, rfl⟩, -⟩ := C
  intro H locs cells slots ls hR hS hmc hms hl
  exact lv_ifnull hx hb hd (k H locs cells slots ls hR hS hmc hms hl)
theorem x_ifnullN {off : Int} {tgt : Nat} (C : xCtx V K cc own nL d ini ret sc post) (hd : decode cc pc = .ok (.ifnull off, 3)) (ht : (pc : Int) + off = (tgt : Int)) (k : K mc ms h tgt lv rest) : K mc ms h pc lv (.null :: rest) := by
  obtain ⟨⟨p, e, R, s, m, args, below, meth, c, Q, ⟨hx, hb, hml, hown, hts, hE, hz, hdF, hdL⟩, hin, hsc, rfl⟩, -⟩ := C
  intro H locs cells slots ls hR hS hmc hms hl
  exact lv_ifnullN hx hb hd ht (k H locs cells slots ls hR hS hmc hms hl)
theorem x_ifnonnull {x : Nat} {off : Int} {tgt : Nat} (C : xCtx V K cc own nL d ini ret sc post) (hd : decode cc pc = .ok (.ifnonnull off, 3)) (ht : (pc : Int) + off = (tgt : Int)) (k : K mc ms h tgt lv rest) : K mc ms h pc lv (.ref x :: rest) := by
  obtain ⟨⟨p, e, R, s, m, args, below, meth, c, Q, ⟨hx, hb, hml, hown, hts, hE, hz, hdF, hdL⟩, hin, hsc, rfl⟩, -⟩ := C
  intro H locs cells slots ls hR hS hmc hms hl
  exact lv_ifnonnull hx hb hd ht (k H locs cells slots ls hR hS hmc hms hl)
theorem x_ifnonnullN {off : Int} (C : xCtx V K cc own nL d ini ret sc post) (hd : decode cc pc = .ok (.ifnonnull off, 3)) (k : K mc ms h (pc + 3) lv rest) : K mc ms h pc lv (.null :: rest) := by
  obtain ⟨⟨p, e, R, s, m, args, below, meth, c, Q, ⟨hx, hb, hml, hown, hts, hE, hz, hdF, hdL⟩, hin, hsc, rfl⟩, -⟩ := C
  intro H locs cells slots ls hR hS hmc hms hl
  exact lv_ifnonnullN hx hb hd (k H locs cells slots ls hR hS hmc hms hl)
theorem x_tabIn {dflt lo hi : Int} {offs : Array Int} {len : Nat} {x : Int32} {off : Int} {tgt : Nat} (C : xCtx V K cc own nL d ini ret sc post) (hd : decode cc pc = .ok (.tableswitch dflt lo hi offs, len)) (h1 : ¬ x.toInt < lo) (h2 : ¬ hi < x.toInt) (ho : offs[(x.toInt - lo).toNat]? = some off) (ht : (pc : Int) + off = (tgt : Int)) (k : K mc ms h tgt lv rest) : K mc ms h pc lv (.int x :: rest) := by
  obtain ⟨⟨p, e, R, s, m, args, below, meth, c, Q, ⟨hx, hb, hml, hown, hts, hE, hz, hdF, hdL⟩, hin, hsc, rfl⟩, -⟩ := C
  intro H locs cells slots ls hR hS hmc hms hl
  exact lv_tableIn hx hb hd h1 h2 ho ht (k H locs cells slots ls hR hS hmc hms hl)
theorem x_tabOut {dflt lo hi : Int} {offs : Array Int} {len : Nat} {x : Int32} {tgt : Nat} (C : xCtx V K cc own nL d ini ret sc post) (hd : decode cc pc = .ok (.tableswitch dflt lo hi offs, len)) (h1 : x.toInt < lo ∨ hi < x.toInt) (ht : (pc : Int) + dflt = (tgt : Int)) (k : K mc ms h tgt lv rest) : K mc ms h pc lv (.int x :: rest) := by
  obtain ⟨⟨p, e, R, s, m, args, below, meth, c, Q, ⟨hx, hb, hml, hown, hts, hE, hz, hdF, hdL⟩, hin, hsc, rfl⟩, -⟩ := C
  intro H locs cells slots ls hR hS hmc hms hl
  exact lv_tableOut hx hb hd h1 ht (k H locs cells slots ls hR hS hmc hms hl)
theorem x_look {dflt : Int} {ps : Array (Int × Int)} {len : Nat} {x : Int32} {off : Int} {tgt : Nat} (C : xCtx V K cc own nL d ini ret sc post) (hd : decode cc pc = .ok (.lookupswitch dflt ps, len)) (hp : (ps.toList.zip (ps.toList.drop 1)).all (fun (a, next) => a.1 < next.1) = true) (ho : Op.lookupswitch.offset ps.toList dflt x.toInt = off) (ht : (pc : Int) + off = (tgt : Int)) (k : K mc ms h tgt lv rest) : K mc ms h pc lv (.int x :: rest) := by
  obtain ⟨⟨p, e, R, s, m, args, below, meth, c, Q, ⟨hx, hb, hml, hown, hts, hE, hz, hdF, hdL⟩, hin, hsc, rfl⟩, -⟩ := C
  intro H locs cells slots ls hR hS hmc hms hl
  exact lv_lookup hx hb hd hp ho ht (k H locs cells slots ls hR hS hmc hms hl)
theorem x_mono {mc' ms' : Nat} (C : xCtx V K cc own nL d ini ret sc post) (h1 : mc ≤ mc') (h2 : ms ≤ ms') (k : K mc ms h pc lv st) : K mc' ms' h pc lv st := by
  obtain ⟨⟨p, e, R, s, m, args, below, meth, c, Q, ⟨hx, hb, hml, hown, hts, hE, hz, hdF, hdL⟩, hin, hsc, rfl⟩, -⟩ := C
  intro H locs cells slots ls hR hS hmc hms hl
  exact k H locs cells slots ls hR hS (by omega) (by omega) hl
theorem x_less {h' : xH} (C : xCtx V K cc own nL d ini ret sc post) (hh : ∀ q e, h' q = some e → h q = some e) (k : K mc ms h' pc lv st) : K mc ms h pc lv st := by
  obtain ⟨⟨p, e, R, s, m, args, below, meth, c, Q, ⟨hx, hb, hml, hown, hts, hE, hz, hdF, hdL⟩, hin, hsc, rfl⟩, -⟩ := C
  intro H locs cells slots ls hR hS hmc hms hl
  exact k H locs cells slots ls (hR.less hh) hS hmc hms hl
theorem x_lv {lv' : List (Nat × Value)} (ks : List Nat) (C : xCtx V K cc own nL d ini ret sc post) (hs : lv_pick lv ks = lv') (k : K mc ms h pc lv' st) : K mc ms h pc lv st := by
  obtain ⟨⟨p, e, R, s, m, args, below, meth, c, Q, ⟨hx, hb, hml, hown, hts, hE, hz, hdF, hdL⟩, hin, hsc, rfl⟩, -⟩ := C
  intro H locs cells slots ls hR hS hmc hms hl
  exact k H locs cells slots ls hR hS hmc hms (lv_sub hl ks hs)
theorem x_get {idx ci a k0 N : Nat} {Cn : String} {T : u_T} {ty : Nat → FieldType} {fs : List Value} {v : Value} (C : xCtx V K cc own nL d ini ret sc post) (kc : xCls ci Cn T N ty) (fl : xFl own idx Cn T N k0) (hd : decode cc pc = .ok (.getfield idx, 3)) (hq : h a = some (.inr (ci, fs))) (hv : fs[k0]? = some v) (k : K mc ms h (pc + 3) lv (v :: rest)) : K mc ms h pc lv (.ref a :: rest) := by
  obtain ⟨⟨p, e, R, s, m, args, below, meth, c, Q, ⟨hx, hb, hml, hown, hts, hE, hz, hdF, hdL⟩, hin, hsc, rfl⟩, -⟩ := C
  intro H locs cells slots ls hR hS hmc hms hl
  obtain ⟨L, f, j, hLf, hP, hD, haL, hfa, hj⟩ := hR.pos hq
  obtain ⟨hk0, hT1, hw | ⟨host, hw⟩⟩ := fl
  · exact va_get hx hb hts kc.2.1 hown hE.1 hP j hj kc.1 k0 hk0 (hts _ hw) (fun x9 h9 => by rw [hT1] at h9; exact h9) hv hd (k H locs cells slots ls hR hS hmc hms hl)
  · exact va_getN hx hb hts kc.2.1 hown hE.1 hP j hj kc.1 k0 hk0 (va_Nw.use rfl (hE.2.1 _ hw)) (fun x9 h9 => by rw [hT1] at h9; exact h9) hv hd (k H locs cells slots ls hR hS hmc hms hl)
theorem x_put {idx ci a k0 N : Nat} {Cn : String} {T : u_T} {ty : Nat → FieldType} {fs : List Value} {v : Value} (C : xCtx V K cc own nL d ini ret sc post) (kc : xCls ci Cn T N ty) (fl : xFl own idx Cn T N k0) (hd : decode cc pc = .ok (.putfield idx, 3)) (hq : h a = some (.inr (ci, fs))) (hfin : (T k0).2.2.2 = false) (hn : narrow (ty k0) v = v) (hfit : fits (ty k0) v = true) (hlen : k0 < fs.length) {fs' : List Value} (hfs : fs.set k0 v = fs') (k : ∀ h' : xH, h' = va_up h a (some (.inr (ci, fs'))) → K mc ms h' (pc + 3) lv rest) : K mc ms h pc lv (v :: .ref a :: rest) := by
  obtain ⟨⟨p, e, R, s, m, args, below, meth, c, Q, ⟨hx, hb, hml, hown, hts, hE, hz, hdF, hdL⟩, hin, hsc, rfl⟩, -⟩ := C
  intro H locs cells slots ls hR hS hmc hms hl
  subst hfs
  obtain ⟨L, f, j, hLf, hP, hD, haL, hfa, hj⟩ := hR.pos hq
  obtain ⟨hk0, hT1, hw | ⟨host, hw⟩⟩ := fl
  · exact va_put hx hb hts kc.2.1 ty kc.2.2.1 kc.2.2.2 hown hE.1 hP hD hS j hj kc.1 k0 hk0 (hts _ hw) (fun x9 h9 => by rw [hT1] at h9; exact h9) hfin (kc.2.2.1 k0 hk0) hn hfit hlen hd (fun H1 locs1 hP1 hD1 hS1 => k _ rfl H1 locs1 cells slots ls (xRep.set hLf haL hfa hj hD hP1 hD1) hS1 hmc hms hl)
  · exact va_putN hx hb hts kc.2.1 ty kc.2.2.1 kc.2.2.2 hown hE.1 hP hD hS j hj kc.1 k0 hk0 (va_Nw.use rfl (hE.2.1 _ hw)) (fun x9 h9 => by rw [hT1] at h9; exact h9) hfin (kc.2.2.1 k0 hk0) hn hfit hlen hd (fun H1 locs1 hP1 hD1 hS1 => k _ rfl H1 locs1 cells slots ls (xRep.set hLf haL hfa hj hD hP1 hD1) hS1 hmc hms hl)
theorem x_putF {idx ci a k0 N : Nat} {T : u_T} {ty : Nat → FieldType} {fs : List Value} {v : Value} (C : xCtx V K cc own nL d true ret sc post) (kc : xCls ci own T N ty) (fl : k0 < N ∧ (T k0).1 = own ∧ Cond.fieldLink own idx own (T k0).2.1 (T k0).2.2.1 ∈ xT) (hd : decode cc pc = .ok (.putfield idx, 3)) (hq : h a = some (.inr (ci, fs))) (hfin : (T k0).2.2.2 = true) (hn : narrow (ty k0) v = v) (hfit : fits (ty k0) v = true) (hlen : k0 < fs.length) {fs' : List Value} (hfs : fs.set k0 v = fs') (k : ∀ h' : xH, h' = va_up h a (some (.inr (ci, fs'))) → K mc ms h' (pc + 3) lv rest) : K mc ms h pc lv (v :: .ref a :: rest) := by
  obtain ⟨⟨p, e, R, s, m, args, below, meth, c, Q, ⟨hx, hb, hml, hown, hts, hE, hz, hdF, hdL⟩, hin, hsc, rfl⟩, -⟩ := C
  intro H locs cells slots ls hR hS hmc hms hl
  subst hfs
  obtain ⟨L, f, j, hLf, hP, hD, haL, hfa, hj⟩ := hR.pos hq
  obtain ⟨hk0, hT1, hw⟩ := fl
  exact va_putF hx hb hts kc.2.1 ty kc.2.2.1 kc.2.2.2 hown hE.1 hP hD hS j hj kc.1 k0 hk0 (hts _ hw) (fun x9 h9 => by rw [hT1] at h9; exact h9) hfin (hin rfl) hT1 (kc.2.2.1 k0 hk0) hn hfit hlen hd (fun H1 locs1 hP1 hD1 hS1 => k _ rfl H1 locs1 cells slots ls (xRep.set hLf haL hfa hj hD hP1 hD1) hS1 hmc hms hl)
theorem x_iald {a n : Nat} {f : Nat → Int32} {i : Int32} (C : xCtx V K cc own nL d ini ret sc post) (hd : decode cc pc = .ok (.iaload, 1)) (hq : h a = some (xI V n f)) (hi : vp_in i n) (k : K mc ms h (pc + 1) lv (.int (f i.toNatClampNeg) :: rest)) : K mc ms h pc lv (.int i :: .ref a :: rest) := by
  obtain ⟨⟨p, e, R, s, m, args, below, meth, c, Q, ⟨hx, hb, hml, hown, hts, hE, hz, hdF, hdL⟩, hin, hsc, rfl⟩, -⟩ := C
  intro H locs cells slots ls hR hS hmc hms hl
  obtain ⟨L, f9, j, hLf, hP, hD, haL, hfa, hj⟩ := hR.pos hq
  exact va_iald hx hb hE.1 hP j 0 hj rfl hi hd (k H locs cells slots ls hR hS hmc hms hl)
theorem x_iast {a n : Nat} {f : Nat → Int32} {i x : Int32} (C : xCtx V K cc own nL d ini ret sc post) (hd : decode cc pc = .ok (.iastore, 1)) (hq : h a = some (xI V n f)) (hi : vp_in i n) (k : ∀ h' : xH, h' = va_up h a (some (xI V n (upd f i.toNatClampNeg x))) → K mc ms h' (pc + 1) lv rest) : K mc ms h pc lv (.int x :: .int i :: .ref a :: rest) := by
  obtain ⟨⟨p, e, R, s, m, args, below, meth, c, Q, ⟨hx, hb, hml, hown, hts, hE, hz, hdF, hdL⟩, hin, hsc, rfl⟩, -⟩ := C
  intro H locs cells slots ls hR hS hmc hms hl
  obtain ⟨L, f9, j, hLf, hP, hD, haL, hfa, hj⟩ := hR.pos hq
  exact va_iast hx hb hE.1 hP hD hS j 0 hj rfl hi hd (fun H1 locs1 hP1 hD1 hS1 => k _ rfl H1 locs1 cells slots ls (xRep.set hLf haL hfa hj hD hP1 hD1) hS1 hmc hms hl)
theorem x_lald {a n : Nat} {f : Nat → Int64} {i : Int32} (C : xCtx V K cc own nL d ini ret sc post) (hd : decode cc pc = .ok (.laload, 1)) (hq : h a = some (xJ V n f)) (hi : vp_in i n) (k : K mc ms h (pc + 1) lv (.long (f i.toNatClampNeg) :: rest)) : K mc ms h pc lv (.int i :: .ref a :: rest) := by
  obtain ⟨⟨p, e, R, s, m, args, below, meth, c, Q, ⟨hx, hb, hml, hown, hts, hE, hz, hdF, hdL⟩, hin, hsc, rfl⟩, -⟩ := C
  intro H locs cells slots ls hR hS hmc hms hl
  obtain ⟨L, f9, j, hLf, hP, hD, haL, hfa, hj⟩ := hR.pos hq
  exact va_lald hx hb hE.1 hP j 1 hj rfl hi hd (k H locs cells slots ls hR hS hmc hms hl)
theorem x_last {a n : Nat} {f : Nat → Int64} {i : Int32} {x : Int64} (C : xCtx V K cc own nL d ini ret sc post) (hd : decode cc pc = .ok (.lastore, 1)) (hq : h a = some (xJ V n f)) (hi : vp_in i n) (k : ∀ h' : xH, h' = va_up h a (some (xJ V n (vp_updL f i.toNatClampNeg x))) → K mc ms h' (pc + 1) lv rest) : K mc ms h pc lv (.long x :: .int i :: .ref a :: rest) := by
  obtain ⟨⟨p, e, R, s, m, args, below, meth, c, Q, ⟨hx, hb, hml, hown, hts, hE, hz, hdF, hdL⟩, hin, hsc, rfl⟩, -⟩ := C
  intro H locs cells slots ls hR hS hmc hms hl
  obtain ⟨L, f9, j, hLf, hP, hD, haL, hfa, hj⟩ := hR.pos hq
  exact va_last hx hb hE.1 hP hD hS j 1 hj rfl hi hd (fun H1 locs1 hP1 hD1 hS1 => k _ rfl H1 locs1 cells slots ls (xRep.set hLf haL hfa hj hD hP1 hD1) hS1 hmc hms hl)
theorem x_aald {a n t : Nat} {Cn : String} {f : Nat → Option Nat} {i : Int32} (C : xCtx V K cc own nL d ini ret sc post) (ht : (xTy V)[t]? = some (V.2.2.1 t, .object Cn)) (hd : decode cc pc = .ok (.aaload, 1)) (hq : h a = some (xR V t n f)) (hi : vp_in i n) (k : K mc ms h (pc + 1) lv (va_rf (f i.toNatClampNeg) :: rest)) : K mc ms h pc lv (.int i :: .ref a :: rest) := by
  obtain ⟨⟨p, e, R, s, m, args, below, meth, c, Q, ⟨hx, hb, hml, hown, hts, hE, hz, hdF, hdL⟩, hin, hsc, rfl⟩, -⟩ := C
  intro H locs cells slots ls hR hS hmc hms hl
  obtain ⟨L, f9, j, hLf, hP, hD, haL, hfa, hj⟩ := hR.pos hq
  exact va_aldq hx hb hE.1 hP j t hj ht hi hd (k H locs cells slots ls hR hS hmc hms hl)
theorem x_aast {a n t b ci N : Nat} {Cn : String} {T : u_T} {fs : List Value} {f : Nat → Option Nat} {i : Int32} (C : xCtx V K cc own nL d ini ret sc post) (ht : (xTy V)[t]? = some (V.2.2.1 t, .object Cn)) (hc : vwCl[ci]? = some (Cn, T, N)) (hd : decode cc pc = .ok (.aastore, 1)) (hq : h a = some (xR V t n f)) (hq2 : h b = some (.inr (ci, fs))) (hi : vp_in i n) (k : ∀ h' : xH, h' = va_up h a (some (xR V t n (va_up f i.toNatClampNeg (some b)))) → K mc ms h' (pc + 1) lv rest) : K mc ms h pc lv (.ref b :: .int i :: .ref a :: rest) := by
  obtain ⟨⟨p, e, R, s, m, args, below, meth, c, Q, ⟨hx, hb, hml, hown, hts, hE, hz, hdF, hdL⟩, hin, hsc, rfl⟩, -⟩ := C
  intro H locs cells slots ls hR hS hmc hms hl
  obtain ⟨L, f9, j, hLf, hP, hD, haL, hfa, hj⟩ := hR.pos hq
  obtain ⟨hb1, hb2⟩ := hLf b _ hq2
  obtain ⟨j2, hj2⟩ := va_pl_get (X := []) (f := f9) hb1
  rw [hb2] at hj2
  exact va_astq hx hb hE.1 hP hD hS j t j2 ci hj ht hj2 hc hi hd (fun H1 locs1 hP1 hD1 hS1 => k _ rfl H1 locs1 cells slots ls (xRep.set hLf haL hfa hj hD hP1 hD1) hS1 hmc hms hl)
theorem x_alenI {a n : Nat} {f : Nat → Int32} (C : xCtx V K cc own nL d ini ret sc post) (hd : decode cc pc = .ok (.arraylength, 1)) (hq : h a = some (xI V n f)) (k : K mc ms h (pc + 1) lv (.int (Int32.ofNat n) :: rest)) : K mc ms h pc lv (.ref a :: rest) := by
  obtain ⟨⟨p, e, R, s, m, args, below, meth, c, Q, ⟨hx, hb, hml, hown, hts, hE, hz, hdF, hdL⟩, hin, hsc, rfl⟩, -⟩ := C
  intro H locs cells slots ls hR hS hmc hms hl
  obtain ⟨L, f9, j, hLf, hP, hD, haL, hfa, hj⟩ := hR.pos hq
  exact va_alen hx hb hE.1 hP j 0 hj (ty := .int) rfl rfl hd (k H locs cells slots ls hR hS hmc hms hl)
theorem x_alenR {a n t : Nat} {Cn : String} {f : Nat → Option Nat} (C : xCtx V K cc own nL d ini ret sc post) (ht : (xTy V)[t]? = some (V.2.2.1 t, .object Cn)) (hd : decode cc pc = .ok (.arraylength, 1)) (hq : h a = some (xR V t n f)) (k : K mc ms h (pc + 1) lv (.int (Int32.ofNat n) :: rest)) : K mc ms h pc lv (.ref a :: rest) := by
  obtain ⟨⟨p, e, R, s, m, args, below, meth, c, Q, ⟨hx, hb, hml, hown, hts, hE, hz, hdF, hdL⟩, hin, hsc, rfl⟩, -⟩ := C
  intro H locs cells slots ls hR hS hmc hms hl
  obtain ⟨L, f9, j, hLf, hP, hD, haL, hfa, hj⟩ := hR.pos hq
  exact va_alen hx hb hE.1 hP j t hj ht rfl hd (k H locs cells slots ls hR hS hmc hms hl)
theorem x_newI {n : Int32} {N : Nat} (C : xCtx V K cc own nL d ini ret sc post) (hw : Cond.arrayClass .int ∈ xT) (hd : decode cc pc = .ok (.newarray .int, 2)) (hn : ¬ n < 0) (hN : n.toNatClampNeg = N) (hb9 : N * 4 ≤ 536870912) (k : ∀ (q : Nat) (h' : xH), h q = none → h' = va_up h q (some (xI V N (fun _ => 0))) → K mc ms h' (pc + 2) lv (.ref q :: rest)) : K (mc + 1) (ms + N) h pc lv (.int n :: rest) := by
  obtain ⟨⟨p, e, R, s, m, args, below, meth, c, Q, ⟨hx, hb, hml, hown, hts, hE, hz, hdF, hdL⟩, hin, hsc, rfl⟩, -⟩ := C
  intro H locs cells slots ls hR hS hmc hms hl
  obtain ⟨L, f, hLf, hP, hD⟩ := hR
  refine va_newa (atype := .int) hx hb (hts _ hw) (ty := .int) rfl hE.1 hP hD hS (fun q hq => Nat.le_trans hz hq) (a0 := (N, .inl (fun _ => 0))) (fun cA => rfl) hn hN hb9 (by omega) (by omega) hd (fun q cA H1 hK1 hP1 hD1 hS1 => ?_)
  have hcA : cA = V.2.2.1 0 := Option.some.inj (((hK1.2 4 (cA, .int) rfl).2).symm.trans (hE.1.2 0 (V.2.2.1 0, .int) rfl).2)
  subst hcA
  obtain ⟨hf, hr⟩ := xRep.push hLf hP1 hD1
  exact k q _ hf rfl H1 locs (cells + 1) (slots + N) ls hr hS1 (by omega) (by omega) hl
theorem x_newJ {n : Int32} {N : Nat} (C : xCtx V K cc own nL d ini ret sc post) (hw : Cond.arrayClass .long ∈ xT) (hd : decode cc pc = .ok (.newarray .long, 2)) (hn : ¬ n < 0) (hN : n.toNatClampNeg = N) (hb9 : N * 8 ≤ 536870912) (k : ∀ (q : Nat) (h' : xH), h q = none → h' = va_up h q (some (xJ V N (fun _ => 0))) → K mc ms h' (pc + 2) lv (.ref q :: rest)) : K (mc + 1) (ms + N) h pc lv (.int n :: rest) := by
  obtain ⟨⟨p, e, R, s, m, args, below, meth, c, Q, ⟨hx, hb, hml, hown, hts, hE, hz, hdF, hdL⟩, hin, hsc, rfl⟩, -⟩ := C
  intro H locs cells slots ls hR hS hmc hms hl
  obtain ⟨L, f, hLf, hP, hD⟩ := hR
  refine va_newa (atype := .long) hx hb (hts _ hw) (ty := .long) rfl hE.1 hP hD hS (fun q hq => Nat.le_trans hz hq) (a0 := (N, .inr (.inl (fun _ => 0)))) (fun cA => rfl) hn hN hb9 (by omega) (by omega) hd (fun q cA H1 hK1 hP1 hD1 hS1 => ?_)
  have hcA : cA = V.2.2.1 1 := Option.some.inj (((hK1.2 4 (cA, .long) rfl).2).symm.trans (hE.1.2 1 (V.2.2.1 1, .long) rfl).2)
  subst hcA
  obtain ⟨hf, hr⟩ := xRep.push hLf hP1 hD1
  exact k q _ hf rfl H1 locs (cells + 1) (slots + N) ls hr hS1 (by omega) (by omega) hl
theorem x_newR {n : Int32} {N idx t : Nat} {Cn : String} (C : xCtx V K cc own nL d ini ret sc post) (ht : (xTy V)[t]? = some (V.2.2.1 t, .object Cn)) (hAO : Cn = "CursorBase$Operand" ∨ Cn = "CursorBase$Condition") (hw : Cond.classLink own idx Cn ∈ xT) (hd : decode cc pc = .ok (.anewarray idx, 3)) (hn : ¬ n < 0) (hN : n.toNatClampNeg = N) (hb9 : N * 4 ≤ 536870912) (k : ∀ (q : Nat) (h' : xH), h q = none → h' = va_up h q (some (xR V t N (fun _ => none))) → K mc ms h' (pc + 3) lv (.ref q :: rest)) : K (mc + 1) (ms + N) h pc lv (.int n :: rest) := by
  obtain ⟨⟨p, e, R, s, m, args, below, meth, c, Q, ⟨hx, hb, hml, hown, hts, hE, hz, hdF, hdL⟩, hin, hsc, rfl⟩, -⟩ := C
  intro H locs cells slots ls hR hS hmc hms hl
  obtain ⟨L, f, hLf, hP, hD⟩ := hR
  have hao : va_AO Cn s := by rcases hAO with rfl | rfl; exact hE.2.2.1; exact hE.2.2.2
  refine va_newq hx hb hown (hts _ hw) hao hE.1 hP hD hS (fun q hq => Nat.le_trans hz hq) hn hN hb9 (by omega) (by omega) hd (fun q cA H1 hK1 hP1 hD1 hS1 => ?_)
  have hcA : cA = V.2.2.1 t := by
    obtain ⟨_, _, _, _, _, a1⟩ := (hK1.2 4 (cA, .object Cn) rfl).2
    obtain ⟨_, _, _, _, _, a2⟩ := (hE.1.2 t (V.2.2.1 t, .object Cn) ht).2
    exact Option.some.inj (a1.symm.trans a2)
  subst hcA
  obtain ⟨hf, hr⟩ := xRep.push hLf hP1 hD1
  exact k q _ hf rfl H1 locs (cells + 1) (slots + N) ls hr hS1 (by omega) (by omega) hl
theorem x_new {ci idx N : Nat} {Cn : String} {T : u_T} {ty : Nat → FieldType} {fs : List Value} (C : xCtx V K cc own nL d ini ret sc post) (kc : xCls ci Cn T N ty) (hw : Cond.classLink own idx Cn ∈ xT ∧ Cond.instantiable Cn N ∈ xT ∧ Cond.initialized Cn ∈ xT) (hd : decode cc pc = .ok (.new idx, 3)) (hfs : ∀ j, j < N → defaultValue (ty j) = vp_V fs j) (k : ∀ (q : Nat) (h' : xH), h q = none → h' = va_up h q (some (.inr (ci, fs))) → K mc ms h' (pc + 3) lv (.ref q :: st)) : K (mc + 1) (ms + N) h pc lv st := by
  obtain ⟨⟨p, e, R, s, m, args, below, meth, c, Q, ⟨hx, hb, hml, hown, hts, hE, hz, hdF, hdL⟩, hin, hsc, rfl⟩, -⟩ := C
  intro H locs cells slots ls hR hS hmc hms hl
  obtain ⟨L, f, hLf, hP, hD⟩ := hR
  refine va_new hx hb hts kc.2.1 ty kc.2.2.1 hown (hts _ hw.1) (hts _ hw.2.1) (hts _ hw.2.2) hE.1 hP hD hS (fun q hq => Nat.le_trans hz hq) kc.1 hfs (by omega) (by omega) hd (fun q H1 hP1 hD1 hS1 => ?_)
  obtain ⟨hf, hr⟩ := xRep.push hLf hP1 hD1
  exact k q _ hf rfl H1 locs (cells + 1) (slots + N) ls hr hS1 (by omega) (by omega) hl
theorem x_objInit {a idx : Nat} (C : xCtx V K cc own nL d ini ret sc post) (hw : Cond.methodLink own idx objectInit ∈ xT ∧ Cond.instanceMethod objectInit ∈ xT ∧ Cond.code objectInit ⟨#[0xb1]⟩ 1 none ∈ xT) (h1 : 1 ≤ d) (h8 : (rest.map fun v => v.category).sum ≤ 8) (hd : decode cc pc = .ok (.invokespecial idx, 3)) (k : K mc ms h (pc + 3) lv rest) : K mc ms h pc lv (.ref a :: rest) := by
  obtain ⟨⟨p, e, R, s, m, args, below, meth, c, Q, ⟨hx, hb, hml, hown, hts, hE, hz, hdF, hdL⟩, hin, hsc, rfl⟩, -⟩ := C
  intro H locs cells slots ls hR hS hmc hms hl
  have h9 := lv_room (m := m) (pc := pc) (ls := ls) (rest := Value.ref a :: rest) h8
  exact W.objInit hx hb hown (hts _ hw.1) (hts _ hw.2.1) (hts _ hw.2.2) (g := F0 m pc ls (.ref a :: rest)) rfl (hl.1.trans hml.symm) rfl hd (by omega) (by omega) (k H locs cells slots ls hR hS hmc hms hl)
theorem x_copy {a b idx n0 n1 : Nat} {f g : Nat → Int32} {sp dp n : Int32} (C : xCtx V K cc own nL d ini ret sc post) (hw : Cond.methodLink own idx arraycopyName ∈ xT ∧ Cond.native arraycopyName ∈ xT ∧ Cond.static arraycopyName ∈ xT ∧ Cond.initialized "java/lang/System" ∈ xT) (hd1 : 3 ≤ d) (h8 : (rest.map fun v => v.category).sum ≤ 8) (hq : h a = some (xI V n0 f)) (hq2 : h b = some (xI V n1 g)) (h1 : ¬ sp < 0) (h2 : ¬ dp < 0) (h3 : ¬ n < 0) (h4 : sp.toNatClampNeg + n.toNatClampNeg ≤ n0) (h5 : dp.toNatClampNeg + n.toNatClampNeg ≤ n1) (hd : decode cc pc = .ok (.invokestatic idx, 3))
    (k : ∀ h' : xH, h' = va_up h b (some (xI V n1 (va_cpy f g sp.toNatClampNeg dp.toNatClampNeg n.toNatClampNeg))) → K mc ms h' (pc + 3) lv rest) : K mc ms h pc lv (.int n :: .int dp :: .ref b :: .int sp :: .ref a :: rest) := by
  obtain ⟨⟨p, e, R, s, m, args, below, meth, c, Q, ⟨hx, hb, hml, hown, hts, hE, hz, hdF, hdL⟩, hin, hsc, rfl⟩, -⟩ := C
  intro H locs cells slots ls hR hS hmc hms hl
  obtain ⟨L, f9, j, hLf, hP, hD, haL, hfa, hj⟩ := hR.pos hq2
  obtain ⟨ha1, ha2⟩ := hLf a _ hq
  obtain ⟨j2, hj2⟩ := va_pl_get (X := []) (f := f9) ha1
  rw [ha2] at hj2
  have hnw : nativeFrameWords "java/lang/System" "arraycopy" 5 + 11 ≤ 56 := by decide +kernel
  exact va_copyi hx hb (hml.trans hl.1.symm) hown (hts _ hw.1) (hts _ hw.2.1) (hts _ hw.2.2.1) (hts _ hw.2.2.2) hE.1 hP hD hS j2 j 0 0 (ty := .int) hj2 hj rfl rfl rfl h1 h2 h3 h4 h5 (fun i hi => rfl) (by omega) (by omega) hd (fun H1 locs1 hP1 hD1 hS1 => k _ rfl H1 locs1 cells slots ls (xRep.set hLf haL hfa hj hD hP1 hD1) hS1 hmc hms hl)
theorem x_sld {b L : Nat} {xs : Nat → Int32} {i : Int32} (C : xCtx V K cc own nL d ini ret (some (b, L, xs)) post) (hd : decode cc pc = .ok (.iaload, 1)) (hi : vp_in i L) (k : K mc ms h (pc + 1) lv (.int (xs i.toNatClampNeg) :: rest)) : K mc ms h pc lv (.int i :: .ref b :: rest) := by
  obtain ⟨⟨p, e, R, s, m, args, below, meth, c, Q, ⟨hx, hb, hml, hown, hts, hE, hz, hdF, hdL⟩, hin, hsc, rfl⟩, -⟩ := C
  intro H locs cells slots ls hR hS hmc hms hl
  obtain ⟨hX, hbz⟩ := hsc b L xs rfl
  exact va_sld hx hb hX (Nat.lt_of_lt_of_le hbz hz) (fun q => by have q : V.2.2.2 ≤ b := q; omega) hS hi hd (k H locs cells slots ls hR hS hmc hms hl)
theorem x_slen {b L : Nat} {xs : Nat → Int32} (C : xCtx V K cc own nL d ini ret (some (b, L, xs)) post) (hd : decode cc pc = .ok (.arraylength, 1)) (k : K mc ms h (pc + 1) lv (.int (Int32.ofNat L) :: rest)) : K mc ms h pc lv (.ref b :: rest) := by
  obtain ⟨⟨p, e, R, s, m, args, below, meth, c, Q, ⟨hx, hb, hml, hown, hts, hE, hz, hdF, hdL⟩, hin, hsc, rfl⟩, -⟩ := C
  intro H locs cells slots ls hR hS hmc hms hl
  obtain ⟨hX, hbz⟩ := hsc b L xs rfl
  exact va_slen hx hb hX (Nat.lt_of_lt_of_le hbz hz) (fun q => by have q : V.2.2.2 ≤ b := q; omega) hS hd (k H locs cells slots ls hR hS hmc hms hl)
end XR
/-! CONTRACTS -/
abbrev xRm (d mc ms : Nat) : Room := { frames := d, cells := mc, slots := ms, locals := 30 * d }
def xPc (V : xV) (as : List Value) (h : xH) : Array Value → State → Prop := va_Pc as (fun U => V.2.2.2 ≤ U.heap.size ∧ xRep V h U.heap ∧ xE V U)
def xQ (V : xV) (post : Option Value → xH → Prop) : Array Value → State → Outcome → State → Prop := fun _ st oc t => (∃ (v : Option Value) (h' : xH), oc = .returned v ∧ post v h' ∧ xRep V h' t.heap) ∧ va_F (xA V) st t
/-- method y, from arguments 'as' and the view h, returns with 'post', at most mc cells and ms slots new; calls nest at most d deep -/
def xM (V : xV) (y : MethodName) (cc : ByteArray) (nL : Nat) (ret : Option FieldType) (d : Nat) (as : List Value) (h : xH) (mc ms : Nat) (post : Option Value → xH → Prop) : Prop :=
  Met V.1 y (Cond.code y cc nL ret :: xT) (xRm d mc ms) (xPc V as h) (xQ V post) mc ms (xA V)
theorem xPc.blind {V : xV} {as : List Value} {h : xH} : FrameBlind (xPc V as h) := fun a U g mk q => ⟨q.1, q.2.1, q.2.2.1, xE.moved (s := U) (U := U.calling g mk a) (State.WarmedH.refl U) q.2.2.2⟩
theorem xGood {y : MethodName} {cc : ByteArray} {nL : Nat} {ret : Option FieldType} (hc : Cond.code y cc nL ret ∈ xT) : GoodIn xT (Cond.code y cc nL ret :: xT) := fun w hw => by
  have h1 : w ∈ xT := by
    rcases List.mem_cons.mp hw with rfl | h
    · exact hc
    · exact h
  exact ⟨h1, good_of_word (xT_good w h1)⟩
theorem xM_of {V : xV} {y : MethodName} {cc : ByteArray} {nL : Nat} {ret : Option FieldType} {d : Nat} {as : List Value} {h : xH} {mc ms : Nat} {post : Option Value → xH → Prop} (ini : Bool) (hy : plainName y.cls = true) (hi : ini = true → y.name = "<init>") (hn : (lg_sl as).length ≤ nL)
    (body : ∀ K : xK, xCtx V K cc y.cls nL d ini ret none post → K mc ms h 0 (lv_args 0 as) []) : xM V y cc nL ret d as h mc ms post := by
  refine Met.ofW (cc := cc) (maxL := nL) (ret := ret) hy rfl ?_
  intro p e s m args below meth c s₁ B hml hv
  obtain ⟨rfl, hz, hR, hE⟩ := hv
  have hts := atoms_spec (ws := Cond.code y cc nL ret :: xT) B.pre
  have hlocks := B.notSynchronized
  have C : xCtx V (xX V p e (xRm d mc ms) s m as.toArray below meth c nL (MQ below (xQ V post) as.toArray s mc ms (xA V))) cc y.cls nL d ini ret none post := by
    refine ⟨⟨p, e, xRm d mc ms, s, m, as.toArray, below, meth, c, _, ⟨B.exec, B.bytes, hml, findClass_of_methodNamed B.named, fun w hw => hts w (List.mem_cons_of_mem _ hw), hE, hz, Nat.le_refl _, Nat.le_refl _⟩, fun q => (name_of_methodNamed B.named B.method).1.trans (hi q), fun b L xs q => (nomatch q), rfl⟩, ?_⟩
    intro mc' ms' h' pc lv st v hr hp
    intro H locs cells slots ls hR hS hmc hms hl
    have h1 : cells ≤ mc := by have : cells + mc' ≤ mc := hmc; omega
    have h2 : slots ≤ ms := by have : slots + ms' ≤ ms := hms; omega
    refine W.widen h1 h2 ?_
    rcases hr with ⟨hd, hr0, rfl, rfl⟩ | ⟨hd, ty, x, hr0, hn0, rfl, rfl⟩ | ⟨hd, x, hr0, rfl, rfl⟩ | ⟨hd, n, u, hr0, hu, rfl, rfl⟩
    · exact W.vret B.exec B.bytes (B.returns.trans hr0) (fun t ht hW => ⟨⟨none, h', rfl, hp, by rw [ht]; exact hR⟩, hS.F ht⟩) hS.2.2 hd
    · exact W.zret B.exec B.bytes (B.returns.trans hr0) hn0 (fun t ht hW => ⟨⟨some (.int x), h', rfl, hp, by rw [ht]; exact hR⟩, hS.F ht⟩) hS.2.2 hd
    · exact W.lret B.exec B.bytes (B.returns.trans hr0) (fun t ht hW => ⟨⟨some (.long x), h', rfl, hp, by rw [ht]; exact hR⟩, hS.F ht⟩) hS.2.2 hd
    · exact W.aret B.exec B.bytes (B.returns.trans hr0) (Or.inl ⟨n, rfl⟩) hu (fun t ht hW => ⟨⟨some u, h', rfl, hp, by rw [ht]; exact hR⟩, hS.F ht⟩) hS.2.2 hd
  have hl := lv_entry as (n := nL) hn
  rw [lg_entry_eq]
  exact body _ C s.heap [] 0 0 _ hR va_S.rf (by show 0 + mc ≤ mc; omega) (by show 0 + ms ≤ ms; omega) hl
theorem x_run {V : xV} {p : Program} {e : Env} {R : Room} {s : State} {m : MethodId} {args : Array Value} {below : List Frame} {meth : Method} {c : Code} {H H0 : Heap} {locs : List Loc} {cells slots mc ms pc : Nat} {Q : State → Prop} {ls : Array Slot} {st0 rest : List Value} {a : Array Value} {Qp : Option Value → xH → Prop}
    (hr : va_Run p V.1 e R s m args below meth c H locs cells slots mc ms (F0 m pc ls st0) rest (xQ V Qp a) (xA V)) (hS : va_S (xA V) H0 H locs)
    (kk : ∀ (v : Option Value) (h' : xH) (H1 : Heap) (locs1 : List Loc), Qp v h' → xRep V h' H1 → va_S (xA V) H0 H1 locs1 → W p V.1 e R s m args below meth c H1 locs1 (cells + mc) (slots + ms) Q (F0 m (pc + 3) ls (v.toList ++ rest))) : W p V.1 e R s m args below meth c H locs cells slots Q (F0 m pc ls st0) := by
  intro T hT X
  obtain ⟨v, st₀, t, T', L, h0, X', hL, e1, e2, ⟨⟨r, h', hv, hp, hb⟩, hz, hk⟩, st⟩ := hr T hT X
  cases hv
  rw [h0] at hz hk
  obtain ⟨t2, a1, b1⟩ := kk v h' T'.heap (locs ++ L) hp (by rw [e1]; exact hb)
    ⟨Nat.le_trans hS.1 (by rw [e1]; exact hz), fun q h1 h2 => by rw [e1, hk q (Nat.lt_of_lt_of_le h1 hS.1) h2]; exact hS.2.1 q h1 h2, fun q hq => by
      rcases List.mem_append.mp hq with h | h
      · exact hS.2.2 q h
      · exact hL q h⟩ T' rfl X'
  exact ⟨t2, st t2 a1, b1⟩
section XC
variable {V : xV} {K : xK} {cc : ByteArray} {own : String} {nL d : Nat} {ini : Bool} {ret : Option FieldType} {sc : xS} {post : Option Value → xH → Prop} {mc ms pc : Nat} {h : xH} {lv : List (Nat × Value)} {st rest : List Value}
variable {idx n : Nat} {y : MethodName} {ccy : ByteArray} {nLy : Nat} {rety : Option FieldType} {d' mc' ms' b : Nat} {As : List Value} {Qp : Option Value → xH → Prop}
theorem x_callV {ci N : Nat} {T : u_T} {fs : List Value} (C : xCtx V K cc own nL d ini ret sc post) (hwl : xLk own idx y) (hw : xY 0 y ccy nLy rety n) (hd : decode cc pc = .ok (.invokevirtual idx, 3)) (hM : xM V y ccy nLy rety d' (.ref b :: As) h mc' ms' Qp) (hq : h b = some (.inr (ci, fs))) (hc : vwCl[ci]? = some (y.cls, T, N)) (hst : st = As.reverse ++ .ref b :: rest) (hn : As.length = n) (hd' : d' + 1 ≤ d) (hnl : nLy ≤ 11) (h8 : (rest.map fun v => v.category).sum ≤ 8)
    (kk : ∀ (v : Option Value) (h' : xH), Qp v h' → K mc ms h' (pc + 3) lv (v.toList ++ rest)) : K (mc + mc') (ms + ms') h pc lv st := by
  obtain ⟨⟨p, e, R, s, m, args, below, meth, c, Q, ⟨hx, hb, hml, hown, hts, hE, hz, hdF, hdL⟩, hin, hsc, rfl⟩, -⟩ := C
  intro H locs cells slots ls hR hS hmc hms hl
  subst hst
  obtain ⟨hwc, hwi, hwm, hwn, hw0, hw1, hw2⟩ := hw
  have hrm : (xRm d' mc' ms').frames + 1 ≤ R.frames ∧ 8 + (nLy + 11) + (xRm d' mc' ms').locals ≤ R.locals := ⟨by show d' + 1 ≤ R.frames; omega, by show 8 + (nLy + 11) + 30 * d' ≤ R.locals; omega⟩
  have hbud : cells + mc' ≤ R.cells ∧ slots + ms' ≤ R.slots := ⟨by omega, by omega⟩
  obtain ⟨L, f9, j, hLf, hP, hD, haL, hfa, hj⟩ := hR.pos hq
  have hrc := va_recv hE.1 hP hc hj
  obtain ⟨hw3, hw4⟩ := hw0 rfl
  rcases hwl with hwl | ⟨host, hwl⟩
  · refine x_run (va_runV (cc := cc) (nL := nL) (own := own) (Ts := xT) (C := y.cls) (b := b) (As := As) (rest := rest) (g := F0 m pc ls (As.reverse ++ .ref b :: rest)) ⟨hx, hb, hml, hown, hts⟩ hM ⟨callB_of n hts (xGood hwc) rfl rfl rfl (hts _ hwi) (hts _ hwl) ⟨hwm.1, hwm.2, hwn⟩ hrm, hts _ hw3, hts _ hw4⟩ ⟨xPc.blind, hrc, fun U hU hW => ⟨rfl, by rw [hU]; exact Nat.le_trans hz hS.1, by rw [hU]; exact hR, xE.moved hW hE⟩⟩ rfl hn hl.1 rfl (lv_room h8) hd hbud) hS (fun v h' H1 locs1 hq hR1 hS1 => ?_)
    exact kk v h' hq H1 locs1 (cells + mc') (slots + ms') ls hR1 hS1 (by omega) (by omega) hl
  · refine x_run (va_runVN (cc := cc) (nL := nL) (own := own) (Ts := xT) (C := y.cls) (b := b) (As := As) (rest := rest) (g := F0 m pc ls (As.reverse ++ .ref b :: rest)) ⟨hx, hb, hml, hown, hts⟩ hM ⟨va_cnB n hts (xGood hwc) rfl rfl rfl (hE.2.1 _ hwl) (hts _ hwi) ⟨hwm.1, hwm.2, hwn⟩ hrm, hts _ hw3, hts _ hw4⟩ ⟨xPc.blind, hrc, fun U hU hW => ⟨rfl, by rw [hU]; exact Nat.le_trans hz hS.1, by rw [hU]; exact hR, xE.moved hW hE⟩⟩ rfl hn hl.1 rfl (lv_room h8) hd hbud) hS (fun v h' H1 locs1 hq hR1 hS1 => ?_)
    exact kk v h' hq H1 locs1 (cells + mc') (slots + ms') ls hR1 hS1 (by omega) (by omega) hl
theorem x_callI  (C : xCtx V K cc own nL d ini ret sc post) (hwl : xLk own idx y) (hw : xY 1 y ccy nLy rety n) (hd : decode cc pc = .ok (.invokespecial idx, 3)) (hM : xM V y ccy nLy rety d' (.ref b :: As) h mc' ms' Qp) (hr0 : rety = none) (hst : st = As.reverse ++ .ref b :: rest) (hn : As.length = n) (hd' : d' + 1 ≤ d) (hnl : nLy ≤ 11) (h8 : (rest.map fun v => v.category).sum ≤ 8)
    (kk : ∀ (v : Option Value) (h' : xH), Qp v h' → K mc ms h' (pc + 3) lv (v.toList ++ rest)) : K (mc + mc') (ms + ms') h pc lv st := by
  obtain ⟨⟨p, e, R, s, m, args, below, meth, c, Q, ⟨hx, hb, hml, hown, hts, hE, hz, hdF, hdL⟩, hin, hsc, rfl⟩, -⟩ := C
  intro H locs cells slots ls hR hS hmc hms hl
  subst hst
  obtain ⟨hwc, hwi, hwm, hwn, hw0, hw1, hw2⟩ := hw
  have hrm : (xRm d' mc' ms').frames + 1 ≤ R.frames ∧ 8 + (nLy + 11) + (xRm d' mc' ms').locals ≤ R.locals := ⟨by show d' + 1 ≤ R.frames; omega, by show 8 + (nLy + 11) + 30 * d' ≤ R.locals; omega⟩
  have hbud : cells + mc' ≤ R.cells ∧ slots + ms' ≤ R.slots := ⟨by omega, by omega⟩
  subst hr0
  obtain ⟨hw3, hw4, -⟩ := hw1 rfl
  rcases hwl with hwl | ⟨host, hwl⟩
  · refine x_run (va_runI (cc := cc) (nL := nL) (own := own) (Ts := xT) (b := b) (As := As) (rest := rest) (g := F0 m pc ls (As.reverse ++ .ref b :: rest)) ⟨hx, hb, hml, hown, hts⟩ hM ⟨callB_of n hts (xGood hwc) rfl rfl rfl (hts _ hwi) (hts _ hwl) ⟨hwm.1, hwm.2, hwn⟩ hrm, hw4, hts _ hw3⟩ ⟨xPc.blind, fun U hU hW => ⟨rfl, by rw [hU]; exact Nat.le_trans hz hS.1, by rw [hU]; exact hR, xE.moved hW hE⟩⟩ rfl hn hl.1 rfl (lv_room h8) hd hbud) hS (fun v h' H1 locs1 hq hR1 hS1 => ?_)
    exact kk v h' hq H1 locs1 (cells + mc') (slots + ms') ls hR1 hS1 (by omega) (by omega) hl
  · refine x_run (va_runIN (cc := cc) (nL := nL) (own := own) (Ts := xT) (b := b) (As := As) (rest := rest) (g := F0 m pc ls (As.reverse ++ .ref b :: rest)) ⟨hx, hb, hml, hown, hts⟩ hM ⟨va_cnB n hts (xGood hwc) rfl rfl rfl (hE.2.1 _ hwl) (hts _ hwi) ⟨hwm.1, hwm.2, hwn⟩ hrm, hw4, hts _ hw3⟩ ⟨xPc.blind, fun U hU hW => ⟨rfl, by rw [hU]; exact Nat.le_trans hz hS.1, by rw [hU]; exact hR, xE.moved hW hE⟩⟩ rfl hn hl.1 rfl (lv_room h8) hd hbud) hS (fun v h' H1 locs1 hq hR1 hS1 => ?_)
    exact kk v h' hq H1 locs1 (cells + mc') (slots + ms') ls hR1 hS1 (by omega) (by omega) hl
theorem x_callS  (C : xCtx V K cc own nL d ini ret sc post) (hwl : xLk own idx y) (hw : xY 2 y ccy nLy rety n) (hd : decode cc pc = .ok (.invokestatic idx, 3)) (hM : xM V y ccy nLy rety d' As h mc' ms' Qp) (hst : st = As.reverse ++ rest) (hn : As.length = n) (hd' : d' + 1 ≤ d) (hnl : nLy ≤ 11) (h8 : (rest.map fun v => v.category).sum ≤ 8)
    (kk : ∀ (v : Option Value) (h' : xH), Qp v h' → K mc ms h' (pc + 3) lv (v.toList ++ rest)) : K (mc + mc') (ms + ms') h pc lv st := by
  obtain ⟨⟨p, e, R, s, m, args, below, meth, c, Q, ⟨hx, hb, hml, hown, hts, hE, hz, hdF, hdL⟩, hin, hsc, rfl⟩, -⟩ := C
  intro H locs cells slots ls hR hS hmc hms hl
  subst hst
  obtain ⟨hwc, hwi, hwm, hwn, hw0, hw1, hw2⟩ := hw
  have hrm : (xRm d' mc' ms').frames + 1 ≤ R.frames ∧ 8 + (nLy + 11) + (xRm d' mc' ms').locals ≤ R.locals := ⟨by show d' + 1 ≤ R.frames; omega, by show 8 + (nLy + 11) + 30 * d' ≤ R.locals; omega⟩
  have hbud : cells + mc' ≤ R.cells ∧ slots + ms' ≤ R.slots := ⟨by omega, by omega⟩
  have hw3 := hw2 rfl
  rcases hwl with hwl | ⟨host, hwl⟩
  · refine x_run (va_runS (cc := cc) (nL := nL) (own := own) (Ts := xT) (As := As) (rest := rest) (g := F0 m pc ls (As.reverse ++ rest)) ⟨hx, hb, hml, hown, hts⟩ hM ⟨callB_of n hts (xGood hwc) rfl rfl rfl (hts _ hwi) (hts _ hwl) ⟨hwm.1, hwm.2, hwn⟩ hrm, hts _ hw3⟩ ⟨xPc.blind, fun U hU hW => ⟨rfl, by rw [hU]; exact Nat.le_trans hz hS.1, by rw [hU]; exact hR, xE.moved hW hE⟩⟩ rfl hn hl.1 rfl (lv_room h8) hd hbud) hS (fun v h' H1 locs1 hq hR1 hS1 => ?_)
    exact kk v h' hq H1 locs1 (cells + mc') (slots + ms') ls hR1 hS1 (by omega) (by omega) hl
  · refine x_run (va_runSN (cc := cc) (nL := nL) (own := own) (Ts := xT) (As := As) (rest := rest) (g := F0 m pc ls (As.reverse ++ rest)) ⟨hx, hb, hml, hown, hts⟩ hM ⟨va_cnB n hts (xGood hwc) rfl rfl rfl (hE.2.1 _ hwl) (hts _ hwi) ⟨hwm.1, hwm.2, hwn⟩ hrm, hts _ hw3, trivial⟩ ⟨xPc.blind, fun U hU hW => ⟨rfl, by rw [hU]; exact Nat.le_trans hz hS.1, by rw [hU]; exact hR, xE.moved hW hE⟩⟩ rfl hn hl.1 rfl (lv_room h8) hd hbud) hS (fun v h' H1 locs1 hq hR1 hS1 => ?_)
    exact kk v h' hq H1 locs1 (cells + mc') (slots + ms') ls hR1 hS1 (by omega) (by omega) hl
end XC
end
section
/-! STATE: what lies in the cells of the class -/
abbrev bI (b : Bool) : Int32 := bif b then 1 else 0
theorem bI_t {b : Bool} (h : ¬ bI b = 0) : b = true := by cases b with
  | true => rfl
  | false => exact absurd rfl h
theorem bI_f {b : Bool} (h : bI b = 0) : b = false := by cases b with
  | false => rfl
  | true => exact absurd h (by decide)
theorem in_of {a : Int32} {n N : Nat} (h1 : ¬ a < 0) (h2 : ¬ nI n ≤ a) (h3 : n ≤ N) (h4 : N < 2 ^ 31) : vp_in a N := by
  rcases pk_ix a (n := n) (by omega) with h | h | ⟨j, hj, rfl⟩
  · exact absurd h h1
  · exact absurd h h2
  · exact vp_in_nI (by omega) h4
theorem in_of1 {a : Int32} {n N : Nat} (h1 : ¬ a < 0) (h2 : ¬ nI n ≤ a) (h3 : n + 1 ≤ N) (h4 : N < 2 ^ 31) : vp_in (a + 1) N := by
  rcases pk_ix a (n := n) (by omega) with h | h | ⟨j, hj, rfl⟩
  · exact absurd h h1
  · exact absurd h h2
  · rw [nI_1]; exact vp_in_nI (by omega) h4
/-- what was there outside the cells of M is there -/
def xKeep (M : List Nat) (h h' : xH) : Prop := ∀ q e, h q = some e → q ∉ M → h' q = some e
theorem xKeep.rf {M : List Nat} {h : xH} : xKeep M h h := fun _ _ f _ => f
theorem xKeep.up {M : List Nat} {h h1 h2 : xH} {a : Nat} {e : va_E} (o : xKeep M h h1) (u : h2 = va_up h1 a (some e)) (ha : a ∈ M) : xKeep M h h2 := fun q e9 f hq => by
  rw [u, va_up_ne _ _ (fun z9 => hq (by rw [z9]; exact ha))]
  exact o q e9 f hq
theorem xKeep.upN {M : List Nat} {h h1 h2 : xH} {a : Nat} {e : va_E} (o : xKeep M h h1) (u : h2 = va_up h1 a (some e)) (ha : h a = none) : xKeep M h h2 := fun q e9 f hq => by
  rw [u, va_up_ne _ _ (x_nn f ha)]
  exact o q e9 f hq
theorem xKeep.isn {M : List Nat} {h h1 : xH} {q : Nat} (o : xKeep M h h1) (n : h1 q = none) (hq : q ∉ M) : h q = none := by
  cases hh : h q with
  | none => rfl
  | some e => rw [o q e hh hq] at n; cases n
theorem xKeep.tr {M : List Nat} {h h1 h2 : xH} (o : xKeep M h h1) (o2 : xKeep M h1 h2) : xKeep M h h2 := fun q e f hq => o2 q e (o q e f hq) hq
theorem xKeep.mono {M N : List Nat} {h h1 : xH} (o : xKeep M h h1) (hs : ∀ q ∈ M, q ∈ N) : xKeep N h h1 := fun q e f hq => o q e f (fun h9 => hq (hs q h9))
/-- a callee's cells are this one's, or new -/
theorem xKeep.call {M N : List Nat} {h h1 h2 : xH} (o : xKeep M h h1) (o2 : xKeep N h1 h2) (hs : ∀ q ∈ N, q ∈ M ∨ h q = none) : xKeep M h h2 := fun q e f hq => o2 q e (o q e f hq) (fun h9 => by
  rcases hs q h9 with z | z
  · exact hq z
  · rw [f] at z; cases z)
theorem xKeep.get {M : List Nat} {h h1 : xH} {q : Nat} {e : va_E} (o : xKeep M h h1) (f : h q = some e) (hq : q ∉ M) : h1 q = some e := o q e f hq
abbrev oOp (k n : Int32) : va_E := .inr (0, [.int k, .int n])
abbrev oCn (l : Nat) (c : Int32) (r : Nat) : va_E := .inr (1, [.ref l, .int c, .ref r])
abbrev oPa (T S : Nat) (p : Int32) : va_E := .inr (2, [.ref T, .ref S, .int p])
abbrev oTo (kr nr : Nat) (n : Int32) : va_E := .inr (6, [.ref kr, .ref nr, .int n])
abbrev oTa (ce co sr : Nat) : va_E := .inr (5, [.ref ce, .ref co, .ref sr])
/-- the pending tokens: n of them, kinds ks, numbers ns -/
def pTo (V : xV) (h : xH) (T kr nr : Nat) (ks ns : Nat → Int32) (n : Nat) : Prop := h T = some (oTo kr nr (nI n)) ∧ h kr = some (xI V 60 ks) ∧ h nr = some (xI V 60 ns) ∧ kr ≠ nr ∧ n ≤ 60
/-- the tables: cells f, columns c, starts s -/
def pTa (V : xV) (h : xH) (B ce co sr : Nat) (f c s : Nat → Int32) : Prop := h B = some (oTa ce co sr) ∧ h ce = some (xI V 2400 f) ∧ h co = some (xI V 10 c) ∧ h sr = some (xI V 11 s)
def colOf (c : Nat → Int32) (t : Int32) : Int32 := if t < 0 then 0 else if 10 ≤ t then 0 else c t.toNatClampNeg
def rowOf (s : Nat → Int32) (t : Int32) : Int32 := if t < 0 then 0 else if 10 ≤ t then 0 else s (t + 1).toNatClampNeg - s t.toNatClampNeg
/-- the starts as numbers -/
def pS (s : Nat → Int32) (S : Nat → Nat) : Prop := (∀ i, i ≤ 10 → s i = nI (S i)) ∧ (∀ i, i < 10 → S i ≤ S (i + 1)) ∧ S 10 ≤ 400
theorem pS.le {s : Nat → Int32} {S : Nat → Nat} (h : pS s S) : ∀ i, i ≤ 10 → S i ≤ 400 := by
  intro i hi
  have : ∀ k, i + k ≤ 10 → S i ≤ S (i + k) := by
    intro k
    induction k with
    | zero => intro _; exact Nat.le_refl _
    | succ k ih => intro hk; exact Nat.le_trans (ih (by omega)) (h.2.1 (i + k) (by omega))
  have h2 := this (10 - i) (by omega)
  rw [show i + (10 - i) = 10 by omega] at h2
  exact Nat.le_trans h2 h.2.2
theorem pS.mono {s : Nat → Int32} {S : Nat → Nat} (h : pS s S) (i j : Nat) (hij : i ≤ j) (hj : j ≤ 10) : S i ≤ S j := by
  have : ∀ k, i + k ≤ 10 → S i ≤ S (i + k) := by
    intro k
    induction k with
    | zero => intro _; exact Nat.le_refl _
    | succ k ih => intro hk; exact Nat.le_trans (ih (by omega)) (h.2.1 (i + k) (by omega))
  have h2 := this (j - i) (by omega)
  rw [show i + (j - i) = j by omega] at h2
  exact h2
theorem pS.row {s : Nat → Int32} {S : Nat → Nat} (h : pS s S) {t : Nat} (ht : t < 10) : rowOf s (nI t) = nI (S (t + 1) - S t) := by
  unfold rowOf
  rw [if_neg (nI_pos (by omega)), if_neg (show ¬ (10 : Int32) ≤ nI t from nI_ge (b := 10) ht (by decide)), nI_1, nI_clamp (by omega), nI_clamp (by omega), h.1 (t + 1) (by omega), h.1 t (by omega), pk_sub (h.2.1 t ht)]
theorem cell_eq (a j : Nat) : (nI a + nI j) * 6 = nI ((a + j) * 6) := by rw [nI_add]; exact pk_mul (a + j) 6
def opThere (k n fc sc : Int32) : Bool := if k = 3 then true else if 10 ≤ n then !decide (sc ≤ n - 10) else !decide (fc ≤ n)
def opVal (k n : Int32) (f : Nat → Int32) : Int32 := if k = 3 then n else f n.toNatClampNeg
def cmp (c x y : Int32) : Bool := if c = 10 then decide (x = y) else if c = 11 then !decide (y ≤ x) else !decide (x ≤ y)
/-- place p is the first of n whose key (by 'key') isn't below k -/
def pNB (key : Nat → Int32) (n : Nat) (k : Int32) (p : Nat) : Prop := p ≤ n ∧ (∀ j, j < p → key j < k) ∧ (p < n → ¬ key p < k)
def colIn (a k : Int32) : Bool := !decide (k < a) && !decide (a + 6 ≤ k)
def tokOK (k n : Int32) : Bool := if k = 0 then !decide (n < 0) && !decide (13 < n) else if k = 1 then !decide (n < 0) && !decide (10 ≤ n) else if k = 2 then colIn 0 n || colIn 10 n else decide (k = 3)
/-- the token at place a (of n) is of kind k -/
def isKd (ks : Nat → Int32) (n : Nat) (a k : Int32) : Bool := !decide (a < 0) && (!decide (nI n ≤ a) && decide (ks a.toNatClampNeg = k))
theorem toInt_eq {x y : Int32} (h : x.toInt = y.toInt) : x = y := Int32.toInt_inj.mp h
theorem sw4 (x : Int32) : x = 0 ∨ x = 1 ∨ x = 2 ∨ x = 3 ∨ (x.toInt < 0 ∨ 3 < x.toInt) := by
  rcases (by omega : x.toInt < 0 ∨ 0 ≤ x.toInt) with h | h
  · exact Or.inr (Or.inr (Or.inr (Or.inr (Or.inl h))))
  rcases (by omega : 3 < x.toInt ∨ x.toInt ≤ 3) with h2 | h2
  · exact Or.inr (Or.inr (Or.inr (Or.inr (Or.inr h2))))
  rcases (by omega : x.toInt = 0 ∨ x.toInt = 1 ∨ x.toInt = 2 ∨ x.toInt = 3) with z | z | z | z
  · exact Or.inl (toInt_eq z)
  · exact Or.inr (Or.inl (toInt_eq z))
  · exact Or.inr (Or.inr (Or.inl (toInt_eq z)))
  · exact Or.inr (Or.inr (Or.inr (Or.inl (toInt_eq z))))
theorem look2 {x : Int32} {a b d : Int} (h1 : ¬ x = 10) (h2 : ¬ x = 11) : Op.lookupswitch.offset [(10, a), (11, b)] d x.toInt = d := by
  have z1 : ¬ x.toInt = 10 := fun z => h1 (toInt_eq z)
  have z2 : ¬ x.toInt = 11 := fun z => h2 (toInt_eq z)
  have y1 : ¬ (10 : Int) = x.toInt := fun z => z1 z.symm
  have y2 : ¬ (11 : Int) = x.toInt := fun z => z2 z.symm
  simp [Op.lookupswitch.offset, z1, z2, y1, y2]
theorem nlt_of {a b : Nat} (h : ¬ nI b ≤ nI a) (hb : b < 2 ^ 31) (ha : a < 2 ^ 31) : a < b := by
  rcases Nat.lt_or_ge a b with z | z
  · exact z
  · exact absurd (nI_le z ha) h
theorem nge_of {a b : Nat} (h : nI b ≤ nI a) (hb : b < 2 ^ 31) : b ≤ a := by
  rcases Nat.lt_or_ge a b with z | z
  · exact absurd h (nI_ge z hb)
  · exact z
theorem llt_of {a b : Nat} (h : nI a < nI b) (ha : a < 2 ^ 31) : a < b := by
  rcases Nat.lt_or_ge a b with z | z
  · exact z
  · exact absurd h (nI_nlt z ha)
theorem lge_of {a b : Nat} (h : ¬ nI a < nI b) (hb : b < 2 ^ 31) : b ≤ a := by
  rcases Nat.lt_or_ge a b with z | z
  · exact absurd (nI_lt z hb) h
  · exact z
theorem mv_step {s s1 : Nat → Int32} {t j : Nat} {k : Int32} (h : ∀ i, s1 i = if t < i ∧ i < j then s i + k else s i) (hj : t < j) : ∀ i, upd s1 j (s1 j + k) i = if t < i ∧ i < j + 1 then s i + k else s i := by
  intro i
  by_cases hi : i = j
  · subst hi
    rw [pk_us, h i, if_neg (by omega), if_pos (by omega)]
  · rw [pk_un hi, h i]
    by_cases h1 : t < i ∧ i < j
    · rw [if_pos h1, if_pos (by omega)]
    · rw [if_neg h1, if_neg (by omega)]
/-- the place that 'nearest' answers, by the first place p (of n) not below *-/
def nearP (key : Nat → Int32) (n : Nat) (k u : Int32) (p : Nat) : Int32 := if u = 0 then (if p < n ∧ key p = k then nI p else if 0 < p then nI (p - 1) else -1) else if p < n then nI p else -1
theorem nm_c {q a : Nat} {l : List Nat} (h : q ≠ a) (t : q ∉ l) : q ∉ a :: l := fun z => by
  rcases List.mem_cons.mp z with z | z
  · exact h z
  · exact t z
theorem nm_n {q : Nat} : q ∉ ([] : List Nat) := List.not_mem_nil
theorem kc_c {M l : List Nat} {h : xH} {a : Nat} (ha : a ∈ M ∨ h a = none) (t : ∀ q ∈ l, q ∈ M ∨ h q = none) : ∀ q ∈ a :: l, q ∈ M ∨ h q = none := fun q hq => by
  rcases List.mem_cons.mp hq with rfl | z
  · exact ha
  · exact t q z
theorem kc_n {M : List Nat} {h : xH} : ∀ q ∈ ([] : List Nat), q ∈ M ∨ h q = none := fun q hq => absurd hq List.not_mem_nil
/-! the statement -/
abbrev oSt (vb ls fi se fa nc : Int32) (nb : Nat) (np : Int32) (pk : Nat) (kc : Int32) (cd : Nat) : va_E := .inr (4, [.int vb, .int ls, .int fi, .int se, .int fa, .int nc, .ref nb, .int np, .ref pk, .int kc, .ref cd])
/-- an operand: its kind and number; a condition: left, comparison, right -/
abbrev tCd : Type := (Int32 × Int32) × Int32 × (Int32 × Int32)
def pOps (h : xH) (po : Nat → Option Nat) (n : Nat) (pick : Nat → Int32) : Prop := ∀ i, i < n → ∃ a, po i = some a ∧ h a = some (oOp 2 (pick i))
def pCd (h : xH) (q : Nat) (d : tCd) : Prop := ∃ a b, h q = some (oCn a d.2.1 b) ∧ h a = some (oOp d.1.1 d.1.2) ∧ h b = some (oOp d.2.2.1 d.2.2.2)
def pCds (h : xH) (co : Nat → Option Nat) (n : Nat) (cf : Nat → tCd) : Prop := ∀ j, j < n → ∃ q, co j = some q ∧ pCd h q (cf j)
def nOp : va_E → Bool
  | .inr (0, _) => false
  | .inr (1, _) => false
  | _ => true
/-- operands and conditions stay -/
def xOps (h h' : xH) : Prop := ∀ q e, h q = some e → nOp e = false → h' q = some e
theorem xKeep.ops {M : List Nat} {h h' : xH} (kp : xKeep M h h') (hM : ∀ q ∈ M, ∀ e, h q = some e → nOp e = true) : xOps h h' := fun q e f ne => kp q e f (fun hq => by rw [hM q hq e f] at ne; cases ne)
theorem xOps.rf {h : xH} : xOps h h := fun _ _ f _ => f
theorem xOps.tr {h h1 h2 : xH} (o : xOps h h1) (o2 : xOps h1 h2) : xOps h h2 := fun q e f ne => o2 q e (o q e f ne) ne
theorem pOps.keep {h h' : xH} {po : Nat → Option Nat} {n : Nat} {pick : Nat → Int32} (p : pOps h po n pick) (o : xOps h h') : pOps h' po n pick := fun i hi => by
  obtain ⟨a, h1, h2⟩ := p i hi
  exact ⟨a, h1, o a _ h2 rfl⟩
theorem pCd.keep {h h' : xH} {q : Nat} {d : tCd} (p : pCd h q d) (o : xOps h h') : pCd h' q d := by
  obtain ⟨a, b, h1, h2, h3⟩ := p
  exact ⟨a, b, o _ _ h1 rfl, o _ _ h2 rfl, o _ _ h3 rfl⟩
theorem pCds.keep {h h' : xH} {co : Nat → Option Nat} {n : Nat} {cf : Nat → tCd} (p : pCds h co n cf) (o : xOps h h') : pCds h' co n cf := fun j hj => by
  obtain ⟨q, h1, h2⟩ := p j hj
  exact ⟨q, h1, h2.keep o⟩
theorem no_c {l : List Nat} {h : xH} {a : Nat} {ea : va_E} (fa : h a = some ea) (na : nOp ea = true) (t : ∀ q ∈ l, ∀ e, h q = some e → nOp e = true) : ∀ q ∈ a :: l, ∀ e, h q = some e → nOp e = true := fun q hq e f => by
  rcases List.mem_cons.mp hq with rfl | z
  · rw [fa] at f; rw [← Option.some.inj f]; exact na
  · exact t q z e f
theorem no_n {h : xH} : ∀ q ∈ ([] : List Nat), ∀ e, h q = some e → nOp e = true := fun q hq => absurd hq List.not_mem_nil
def cdThere (d : tCd) (fc sc : Int32) : Bool := opThere d.1.1 d.1.2 fc sc && opThere d.2.2.1 d.2.2.2 fc sc
def colsOK (np : Nat) (pick : Nat → Int32) (kc : Nat) (cf : Nat → tCd) (fc sc : Int32) : Bool := decide (∀ i, i < np → opThere 2 (pick i) fc sc = true) && decide (∀ j, j < kc → cdThere (cf j) fc sc = true)
def faultC (fi g0 : Int32) (c : Nat → Int32) : Int32 := if ¬ colOf c fi ≤ 0 then -4 else if g0 < 1 then -5 else if 6 < g0 then -5 else 0
def faultS (vb fi se nc g0 : Int32) (c : Nat → Int32) (ok : Bool) : Int32 := if vb = 0 then faultC fi g0 c else if colOf c fi ≤ 0 then -2 else if ¬ se = -1 ∧ colOf c se ≤ 0 then -2 else if ok = false then -3 else if vb = 1 ∧ ¬ nc = colOf c fi then -5 else 0
/-- a condition's value over what was read -/
def cdVal (d : tCd) (f : Nat → Int32) : Bool := cmp d.2.1 (opVal d.1.1 d.1.2 f) (opVal d.2.2.1 d.2.2.2 f)
def cdIn (d : tCd) : Prop := (d.1.1 = 3 ∨ vp_in d.1.2 16) ∧ (d.2.2.1 = 3 ∨ vp_in d.2.2.2 16)
def cdsVal (kc : Nat) (cf : Nat → tCd) (f : Nat → Int32) : Bool := decide (∀ j, j < kc → cdVal (cf j) f = true)
theorem all_no {n i : Nat} {p : Nat → Bool} (hi : i < n) (h : p i = false) : decide (∀ i, i < n → p i = true) = false := decide_eq_false (fun z => by rw [z i hi] at h; cases h)
/-! tokens, by place -/
def tK (ks : Nat → Int32) (n p : Nat) (k : Int32) : Bool := decide (p < n) && decide (ks p = k)
def tW (ks ns : Nat → Int32) (n p : Nat) (lo hi : Int32) : Bool := tK ks n p 0 && (!decide (ns p < lo) && !decide (hi < ns p))
theorem tK_iff {ks : Nat → Int32} {n p : Nat} {k : Int32} : tK ks n p k = true ↔ p < n ∧ ks p = k := by simp [tK]
theorem tW_iff {ks ns : Nat → Int32} {n p : Nat} {lo hi : Int32} : tW ks ns n p lo hi = true ↔ p < n ∧ ks p = 0 ∧ ¬ ns p < lo ∧ ¬ hi < ns p := by
  unfold tW
  rw [Bool.and_eq_true, Bool.and_eq_true, tK_iff]
  simp [and_assoc]
theorem kd_eq {ks : Nat → Int32} {n p : Nat} {k : Int32} (hp : p < 2 ^ 31) (hn : n < 2 ^ 31) : isKd ks n (nI p) k = tK ks n p k := by
  unfold isKd tK
  rw [nI_clamp hp]
  have h1 : decide (nI p < 0) = false := decide_eq_false (nI_pos hp)
  have h2 : decide (nI n ≤ nI p) = !decide (p < n) := by
    by_cases h : p < n
    · rw [decide_eq_true h]; exact decide_eq_false (nI_ge h hn)
    · rw [decide_eq_false h]; exact decide_eq_true (nI_le (by omega) hp)
  rw [h1, h2]
  simp
/-- how many tokens of kind k stand from p on, at most m -/
def tRun (ks : Nat → Int32) (n : Nat) (k : Int32) : Nat → Nat → Nat
  | 0, _ => 0
  | m + 1, p => if tK ks n p k = true then tRun ks n k m (p + 1) + 1 else 0
def tOp (ks : Nat → Int32) (n p : Nat) : Bool := tK ks n p 2 || tK ks n p 3
def tCond (ks ns : Nat → Int32) (n p : Nat) : Bool := tOp ks n p && (tW ks ns n (p + 1) 10 12 && tOp ks n (p + 2))
/-- how many conditions stand from p on (the first behind 'link', the others behind AND), at most m; none: what stands there is no condition -/
def tConds (ks ns : Nat → Int32) (n : Nat) : Nat → Int32 → Nat → Option Nat
  | 0, _, _ => some 0
  | m + 1, link, p => if tW ks ns n p link link = true then (if tCond ks ns n (p + 1) = true then (tConds ks ns n m 9 (p + 4)).map (· + 1) else none) else some 0
/-- the condition whose first operand stands at p -/
def cdAt (ks ns : Nat → Int32) (p : Nat) : tCd := ((ks p, ns p), ns (p + 1), (ks (p + 2), ns (p + 2)))
theorem tW_le {ks ns : Nat → Int32} {n p : Nat} {lo hi : Int32} (hp : p ≤ 60) (hn : n ≤ 60) : (if tW ks ns n p lo hi = true then p + 1 else p) ≤ 60 := by
  by_cases h : tW ks ns n p lo hi = true
  · have := tW_iff.mp h
    rw [if_pos h]; omega
  · rw [if_neg h]; exact hp
theorem tOp_lt {ks : Nat → Int32} {n p : Nat} (h : tOp ks n p = true) : p < n := by
  unfold tOp at h
  rcases Bool.or_eq_true_iff.mp h with h | h
  · exact (tK_iff.mp h).1
  · exact (tK_iff.mp h).1
theorem tCond_iff {ks ns : Nat → Int32} {n p : Nat} : tCond ks ns n p = true ↔ tOp ks n p = true ∧ tW ks ns n (p + 1) 10 12 = true ∧ tOp ks n (p + 2) = true := by
  unfold tCond
  rw [Bool.and_eq_true, Bool.and_eq_true]
theorem tRun_no {ks : Nat → Int32} {n p m : Nat} {k : Int32} (h : tK ks n p k = false) : tRun ks n k m p = 0 := by
  cases m with
  | zero => rfl
  | succ m => unfold tRun; rw [if_neg (by rw [h]; decide)]
theorem tRun_yes {ks : Nat → Int32} {n p m : Nat} {k : Int32} (h : tK ks n p k = true) : tRun ks n k (m + 1) p = tRun ks n k m (p + 1) + 1 := by
  rw [tRun, if_pos h]
/-- the list of a SELECT at p: is it one; how many columns; where it ends; ALL 4, COUNT 5, SUM 6, columns -1 -/
def tLst (ks ns : Nat → Int32) (n p : Nat) : Bool × Nat × Nat × Int32 := if tW ks ns n p 4 4 = true then (true, 0, p + 1, 4) else if tW ks ns n p 5 5 = true then (true, 0, p + 1, 5) else if tW ks ns n p 6 6 = true then (decide (0 < tRun ks n 2 1 (p + 1)), tRun ks n 2 1 (p + 1), p + 1 + tRun ks n 2 1 (p + 1), 6) else (decide (0 < tRun ks n 2 8 p), tRun ks n 2 8 p, p + tRun ks n 2 8 p, -1)
/-! the whole parse -/
def tT (ks ns : Nat → Int32) (n p : Nat) : Int32 := if tK ks n p 1 = true then ns p else -1
def tFT (ks ns : Nat → Int32) (n p : Nat) : Bool := !decide (tT ks ns n p = -1)
theorem tFT_iff {ks ns : Nat → Int32} {n p : Nat} : tFT ks ns n p = true ↔ tK ks n p 1 = true ∧ ¬ ns p = -1 := by
  unfold tFT tT
  by_cases h : tK ks n p 1 = true
  · rw [if_pos h]; simp [h]
  · rw [if_neg h]; simp [h]
/-- what was read: verb, list (4 ALL, 5 COUNT, 6 SUM, -1), first, second table, falling; how many numbers; how many columns listed, from which place; how many conditions, from which place (that of WHERE) -/
abbrev tD : Type := (Int32 × Int32 × Int32 × Int32 × Bool) × (Nat × Nat × Nat × Nat × Nat)
def tB (ks : Nat → Int32) (n q : Nat) : Nat := if tK ks n (q + 2) 1 = true then q + 3 else q + 2
def tEnd (ks ns : Nat → Int32) (n p : Nat) : Nat := if tW ks ns n p 13 13 = true then p + 1 else p
def tSel (ks ns : Nat → Int32) (n : Nat) (z : Bool × Nat × Nat × Int32) : Option tD :=
  if z.1 = true then
    if tW ks ns n z.2.2.1 7 7 = true ∧ tK ks n (z.2.2.1 + 1) 1 = true ∧ ¬ ns (z.2.2.1 + 1) = -1 then
      (tConds ks ns n 8 8 (tB ks n z.2.2.1)).bind fun k => if tEnd ks ns n (tB ks n z.2.2.1 + 4 * k) = n then some ((3, z.2.2.2, ns (z.2.2.1 + 1), tT ks ns n (z.2.2.1 + 2), tW ks ns n (tB ks n z.2.2.1 + 4 * k) 13 13), (0, z.2.1, if z.2.2.2 = 6 then 2 else 1, k, tB ks n z.2.2.1)) else none
    else none
  else none
def tParse (ks ns : Nat → Int32) (n : Nat) : Option tD :=
  if tW ks ns n 0 0 3 = true then
    if ns 0 = 0 then (if tFT ks ns n 1 = true then (if tK ks n 2 3 = true then (if 3 = n then some ((0, -1, ns 1, -1, false), (1, 0, 0, 0, 0)) else none) else none) else none)
    else if ns 0 = 1 then (if tFT ks ns n 1 = true then (if 0 < tRun ks n 3 60 2 then (if 2 + tRun ks n 3 60 2 = n then some ((1, -1, ns 1, -1, false), (tRun ks n 3 60 2, 0, 0, 0, 0)) else none) else none) else none)
    else if ns 0 = 2 then (if tFT ks ns n 1 = true then ((tConds ks ns n 8 8 2).bind fun k => if 2 + 4 * k = n then some ((2, -1, ns 1, -1, false), (0, 0, 0, k, 2)) else none) else none)
    else tSel ks ns n (tLst ks ns n 1)
  else none
theorem tp_vb {ks ns : Nat → Int32} {n : Nat} {k : Int32} (h : (if tW ks ns n 0 0 3 = true then ns 0 else -1) = k) (hk : ¬ k = -1) : tW ks ns n 0 0 3 = true ∧ ns 0 = k := by
  by_cases hw : tW ks ns n 0 0 3 = true
  · rw [if_pos hw] at h; exact ⟨hw, h⟩
  · rw [if_neg hw] at h; exact absurd h.symm hk
theorem tp_no {ks ns : Nat → Int32} {n : Nat} {x : Int32} (hx : x = if tW ks ns n 0 0 3 = true then ns 0 else -1) (h : x.toInt < 0 ∨ 3 < x.toInt) : tParse ks ns n = none := by
  unfold tParse
  by_cases hw : tW ks ns n 0 0 3 = true
  · exfalso
    rw [if_pos hw] at hx
    have hz := tW_iff.mp hw
    have h1 := Int32.le_iff_toInt_le.mp (Int32.not_lt.mp hz.2.2.1)
    have h2 := Int32.le_iff_toInt_le.mp (Int32.not_lt.mp hz.2.2.2)
    rw [← hx] at h1 h2
    have e0 : (0 : Int32).toInt = 0 := by decide
    have e3 : (3 : Int32).toInt = 3 := by decide
    omega
  · rw [if_neg hw]
theorem tp_0 {ks ns : Nat → Int32} {n : Nat} (hW : tW ks ns n 0 0 3 = true) (hv : ns 0 = 0) : tParse ks ns n = (if tFT ks ns n 1 = true then (if tK ks n 2 3 = true then (if 3 = n then some ((0, -1, ns 1, -1, false), (1, 0, 0, 0, 0)) else none) else none) else none) := by unfold tParse; rw [if_pos hW, if_pos hv]
theorem tp_1 {ks ns : Nat → Int32} {n : Nat} (hW : tW ks ns n 0 0 3 = true) (hv : ns 0 = 1) : tParse ks ns n = (if tFT ks ns n 1 = true then (if 0 < tRun ks n 3 60 2 then (if 2 + tRun ks n 3 60 2 = n then some ((1, -1, ns 1, -1, false), (tRun ks n 3 60 2, 0, 0, 0, 0)) else none) else none) else none) := by unfold tParse; rw [if_pos hW, if_neg (by rw [hv]; decide), if_pos hv]
theorem tp_2 {ks ns : Nat → Int32} {n : Nat} (hW : tW ks ns n 0 0 3 = true) (hv : ns 0 = 2) : tParse ks ns n = (if tFT ks ns n 1 = true then ((tConds ks ns n 8 8 2).bind fun k => if 2 + 4 * k = n then some (((2, -1, ns 1, -1, false), (0, 0, 0, k, 2)) : tD) else none) else none) := by unfold tParse; rw [if_pos hW, if_neg (by rw [hv]; decide), if_neg (by rw [hv]; decide), if_pos hv]
theorem tp_3 {ks ns : Nat → Int32} {n : Nat} (hW : tW ks ns n 0 0 3 = true) (hv : ns 0 = 3) : tParse ks ns n = tSel ks ns n (tLst ks ns n 1) := by unfold tParse; rw [if_pos hW, if_neg (by rw [hv]; decide), if_neg (by rw [hv]; decide), if_neg (by rw [hv]; decide)]
theorem tSel_eq {ks ns : Nat → Int32} {n r q : Nat} {ok : Bool} {ls : Int32} (h : tLst ks ns n 1 = (ok, r, q, ls)) : tSel ks ns n (tLst ks ns n 1) = if ok = true then if tW ks ns n q 7 7 = true ∧ tK ks n (q + 1) 1 = true ∧ ¬ ns (q + 1) = -1 then (tConds ks ns n 8 8 (tB ks n q)).bind fun k => if tEnd ks ns n (tB ks n q + 4 * k) = n then some (((3, ls, ns (q + 1), tT ks ns n (q + 2), tW ks ns n (tB ks n q + 4 * k) 13 13), (0, r, if ls = 6 then 2 else 1, k, tB ks n q)) : tD) else none else none else none := by rw [h]; rfl
end
section
/-! CursorBase$Tokens -/
set_option maxRecDepth 20000 in
set_option maxHeartbeats 1000000 in
theorem m_To_isKind {V : xV} {h : xH} {T kr nr : Nat} {ks ns : Nat → Int32} {n : Nat} (pT : pTo V h T kr nr ks ns n) (a k : Int32) : xM V y_To_isKind b_To_isKind 3 (some .boolean) 0 [.ref T, .int a, .int k] h 0 0 (fun v h' => h' = h ∧ v = some (.int (bI (isKd ks n a k)))) := by
  refine xM_of false (by decide) (fun h => nomatch h) (Nat.le_of_ble_eq_true rfl) (fun K C => ?_)
  show K 0 0 h 0 [(0, .ref T), (1, .int a), (2, .int k)] []
  obtain ⟨fT, fkr, fnr, hkn, hn60⟩ := pT
  refine x_iload_n C d_To_isKind_0 rfl rfl ?_
  refine x_if_lt (tgt := 26) C d_To_isKind_1 rfl (fun q1 => ?_) (fun q1 => ?_)
  · skip
    refine x_iconst (v := 0) C d_To_isKind_26 (by decide) ?_
    refine x_zret C d_To_isKind_27 (by rfl) ?_
    exact ⟨rfl, by simp [bI, isKd, *]⟩
  · skip
    refine x_iload_n C d_To_isKind_4 rfl rfl ?_
    refine x_aload_n C d_To_isKind_5 rfl rfl ?_
    refine x_get C k_To f_To_22 d_To_isKind_6 fT (by rfl) ?_
    refine x_icmp_ge (tgt := 26) C d_To_isKind_9 rfl (fun q9 => ?_) (fun q9 => ?_)
    · skip
      refine x_iconst (v := 0) C d_To_isKind_26 (by decide) ?_
      refine x_zret C d_To_isKind_27 (by rfl) ?_
      exact ⟨rfl, by simp [bI, isKd, *]⟩
    · skip
      refine x_aload_n C d_To_isKind_12 rfl rfl ?_
      refine x_get C k_To f_To_9 d_To_isKind_13 fT (by rfl) ?_
      refine x_iload_n C d_To_isKind_16 rfl rfl ?_
      refine x_iald C d_To_isKind_17 fkr (in_of q1 q9 hn60 (by decide)) ?_
      refine x_iload_n C d_To_isKind_18 rfl rfl ?_
      refine x_icmp_ne (tgt := 26) C d_To_isKind_19 rfl (fun q19 => ?_) (fun q19 => ?_)
      · skip
        refine x_iconst (v := 0) C d_To_isKind_26 (by decide) ?_
        refine x_zret C d_To_isKind_27 (by rfl) ?_
        exact ⟨rfl, by simp [bI, isKd, *]⟩
      · skip
        refine x_iconst (v := 1) C d_To_isKind_22 (by decide) ?_
        refine x_goto (tgt := 27) C d_To_isKind_23 rfl ?_
        refine x_zret C d_To_isKind_27 (by rfl) ?_
        exact ⟨rfl, by simp [bI, isKd, *]⟩
set_option maxRecDepth 20000 in
set_option maxHeartbeats 1000000 in
theorem m_To_isFull {V : xV} {h : xH} {T kr nr : Nat} {ks ns : Nat → Int32} {n : Nat} (pT : pTo V h T kr nr ks ns n) : xM V y_To_isFull b_To_isFull 1 (some .boolean) 0 [.ref T] h 0 0 (fun v h' => h' = h ∧ v = some (.int (bI (!decide (nI n < 60))))) := by
  refine xM_of false (by decide) (fun h => nomatch h) (Nat.le_of_ble_eq_true rfl) (fun K C => ?_)
  show K 0 0 h 0 [(0, .ref T)] []
  obtain ⟨fT, fkr, fnr, hkn, hn60⟩ := pT
  refine x_aload_n C d_To_isFull_0 rfl rfl ?_
  refine x_get C k_To f_To_22 d_To_isFull_1 fT (by rfl) ?_
  refine x_bipush (v := 60) C d_To_isFull_4 (by decide) ?_
  refine x_icmp_lt (tgt := 13) C d_To_isFull_6 rfl (fun q6 => ?_) (fun q6 => ?_)
  · skip
    refine x_iconst (v := 0) C d_To_isFull_13 (by decide) ?_
    refine x_zret C d_To_isFull_14 (by rfl) ?_
    exact ⟨rfl, by simp [bI, *]⟩
  · skip
    refine x_iconst (v := 1) C d_To_isFull_9 (by decide) ?_
    refine x_goto (tgt := 14) C d_To_isFull_10 rfl ?_
    refine x_zret C d_To_isFull_14 (by rfl) ?_
    exact ⟨rfl, by simp [bI, *]⟩
set_option maxRecDepth 20000 in
set_option maxHeartbeats 1000000 in
theorem m_To_drop {V : xV} {h : xH} {T kr nr : Nat} {ks ns : Nat → Int32} {n : Nat} (pT : pTo V h T kr nr ks ns n) : xM V y_To_drop b_To_drop 1 none 0 [.ref T] h 0 0 (fun v h' => v = none ∧ h' = va_up h T (some (oTo kr nr 0))) := by
  refine xM_of false (by decide) (fun h => nomatch h) (Nat.le_of_ble_eq_true rfl) (fun K C => ?_)
  show K 0 0 h 0 [(0, .ref T)] []
  obtain ⟨fT, fkr, fnr, hkn, hn60⟩ := pT
  refine x_aload_n C d_To_drop_0 rfl rfl ?_
  refine x_iconst (v := 0) C d_To_drop_1 (by decide) ?_
  refine x_put (fs' := [_, _, _]) C k_To f_To_22 d_To_drop_2 fT (by rfl) (by rfl) (by rfl) (Nat.le_of_ble_eq_true rfl) (by rfl) (fun h1 u1 => ?_)
  have fkr := xUp_ne u1 fkr (by first | assumption | exact Ne.symm (by assumption) | exact x_ne fkr fT (by simp))
  have fnr := xUp_ne u1 fnr (by first | assumption | exact Ne.symm (by assumption) | exact x_ne fnr fT (by simp))
  have fT := xUp_at u1
  refine x_vret C d_To_drop_5 ?_
  exact ⟨rfl, u1⟩
set_option maxRecDepth 20000 in
set_option maxHeartbeats 1000000 in
theorem m_To_isColumnFrom {V : xV} {h : xH} (a k : Int32) : xM V y_To_isColumnFrom b_To_isColumnFrom 2 (some .boolean) 0 [.int a, .int k] h 0 0 (fun v h' => h' = h ∧ v = some (.int (bI (colIn a k)))) := by
  refine xM_of false (by decide) (fun h => nomatch h) (Nat.le_of_ble_eq_true rfl) (fun K C => ?_)
  show K 0 0 h 0 [(0, .int a), (1, .int k)] []
  refine x_iload_n C d_To_isColumnFrom_0 rfl rfl ?_
  refine x_iload_n C d_To_isColumnFrom_1 rfl rfl ?_
  refine x_icmp_lt (tgt := 17) C d_To_isColumnFrom_2 rfl (fun q2 => ?_) (fun q2 => ?_)
  · skip
    refine x_iconst (v := 0) C d_To_isColumnFrom_17 (by decide) ?_
    refine x_zret C d_To_isColumnFrom_18 (by rfl) ?_
    exact ⟨rfl, by simp [bI, colIn, *]⟩
  · skip
    refine x_iload_n C d_To_isColumnFrom_5 rfl rfl ?_
    refine x_iload_n C d_To_isColumnFrom_6 rfl rfl ?_
    refine x_bipush (v := 6) C d_To_isColumnFrom_7 (by decide) ?_
    refine x_iadd C d_To_isColumnFrom_9 ?_
    refine x_icmp_ge (tgt := 17) C d_To_isColumnFrom_10 rfl (fun q10 => ?_) (fun q10 => ?_)
    · skip
      refine x_iconst (v := 0) C d_To_isColumnFrom_17 (by decide) ?_
      refine x_zret C d_To_isColumnFrom_18 (by rfl) ?_
      exact ⟨rfl, by simp [bI, colIn, *]⟩
    · skip
      refine x_iconst (v := 1) C d_To_isColumnFrom_13 (by decide) ?_
      refine x_goto (tgt := 18) C d_To_isColumnFrom_14 rfl ?_
      refine x_zret C d_To_isColumnFrom_18 (by rfl) ?_
      exact ⟨rfl, by simp [bI, colIn, *]⟩
set_option maxRecDepth 20000 in
set_option maxHeartbeats 1000000 in
theorem m_To_put {V : xV} {h : xH} {T kr nr : Nat} {ks ns : Nat → Int32} {n : Nat} (pT : pTo V h T kr nr ks ns n) (hn : n < 60) (a k : Int32) : xM V y_To_put b_To_put 3 none 1 [.ref T, .int a, .int k] h 0 0 (fun v h' => v = none ∧ pTo V h' T kr nr (upd ks n a) (upd ns n k) (n + 1) ∧ xKeep [T, kr, nr] h h') := by
  refine xM_of false (by decide) (fun h => nomatch h) (Nat.le_of_ble_eq_true rfl) (fun K C => ?_)
  show K 0 0 h 0 [(0, .ref T), (1, .int a), (2, .int k)] []
  have kp : xKeep [T, kr, nr] h h := xKeep.rf
  obtain ⟨fT, fkr, fnr, hkn, hn60⟩ := pT
  have hlt : nI n < (60 : Int32) := nI_lt (b := 60) hn (by decide)
  refine x_aload_n C d_To_put_0 rfl rfl ?_
  refine x_callV C l_To_26 v_To_isFull d_To_put_1 (m_To_isFull ⟨fT, fkr, fnr, hkn, hn60⟩) fT rfl (by rfl) (by rfl) (by decide) (by decide) (Nat.le_of_ble_eq_true rfl) ?_
  rintro v h' ⟨rfl, rfl⟩
  refine x_if_eq (tgt := 8) C d_To_put_4 rfl (fun q4 => ?_) (fun q4 => ?_)
  · skip
    replace q4 := bI_f q4
    refine x_aload_n C d_To_put_8 rfl rfl ?_
    refine x_get C k_To f_To_9 d_To_put_9 fT (by rfl) ?_
    refine x_aload_n C d_To_put_12 rfl rfl ?_
    refine x_get C k_To f_To_22 d_To_put_13 fT (by rfl) ?_
    refine x_iload_n C d_To_put_16 rfl rfl ?_
    refine x_iast C d_To_put_17 fkr (vp_in_nI (by omega) (by decide)) (fun h1 u1 => ?_)
    have fT := xUp_ne u1 fT (by first | assumption | exact Ne.symm (by assumption) | exact x_ne fT fkr (by simp))
    have fnr := xUp_ne u1 fnr (by first | assumption | exact Ne.symm (by assumption) | exact x_ne fnr fkr (by simp))
    have fkr := xUp_at u1
    have kp := kp.up u1 (by simp)
    refine x_aload_n C d_To_put_18 rfl rfl ?_
    refine x_get C k_To f_To_15 d_To_put_19 fT (by rfl) ?_
    refine x_aload_n C d_To_put_22 rfl rfl ?_
    refine x_get C k_To f_To_22 d_To_put_23 fT (by rfl) ?_
    refine x_iload_n C d_To_put_26 rfl rfl ?_
    refine x_iast C d_To_put_27 fnr (vp_in_nI (by omega) (by decide)) (fun h2 u2 => ?_)
    have fT := xUp_ne u2 fT (by first | assumption | exact Ne.symm (by assumption) | exact x_ne fT fnr (by simp))
    have fkr := xUp_ne u2 fkr (by first | assumption | exact Ne.symm (by assumption) | exact x_ne fkr fnr (by simp))
    have fnr := xUp_at u2
    have kp := kp.up u2 (by simp)
    refine x_aload_n C d_To_put_28 rfl rfl ?_
    refine x_dup C d_To_put_29 rfl ?_
    refine x_get C k_To f_To_22 d_To_put_30 fT (by rfl) ?_
    refine x_iconst (v := 1) C d_To_put_33 (by decide) ?_
    refine x_iadd C d_To_put_34 ?_
    refine x_put (fs' := [_, _, _]) C k_To f_To_22 d_To_put_35 fT (by rfl) (by rfl) (by rfl) (Nat.le_of_ble_eq_true rfl) (by rfl) (fun h3 u3 => ?_)
    have fkr := xUp_ne u3 fkr (by first | assumption | exact Ne.symm (by assumption) | exact x_ne fkr fT (by simp))
    have fnr := xUp_ne u3 fnr (by first | assumption | exact Ne.symm (by assumption) | exact x_ne fnr fT (by simp))
    have fT := xUp_at u3
    have kp := kp.up u3 (by simp)
    refine x_vret C d_To_put_38 ?_
    refine ⟨rfl, ⟨by rw [fT, nI_1], by rw [fkr, nI_clamp (by omega)], by rw [fnr, nI_clamp (by omega)], hkn, hn⟩, kp⟩
  · skip
    replace q4 := bI_t q4
    exact absurd q4 (by simp [hlt])
set_option maxRecDepth 20000 in
set_option maxHeartbeats 1000000 in
theorem m_To_init {V : xV} {h : xH} {T : Nat} (fT : h T = some (.inr (6, [.null, .null, .int 0]))) : xM V y_To_init b_To_init 1 none 1 [.ref T] h 2 120 (fun v h' => v = none ∧ ∃ kr nr, pTo V h' T kr nr (fun _ => 0) (fun _ => 0) 0 ∧ h kr = none ∧ h nr = none ∧ xKeep [T] h h') := by
  refine xM_of true (by decide) (fun _ => rfl) (Nat.le_of_ble_eq_true rfl) (fun K C => ?_)
  show K 2 120 h 0 [(0, .ref T)] []
  have kp : xKeep [T] h h := xKeep.rf
  refine x_aload_n C d_To_init_0 rfl rfl ?_
  refine x_objInit C ⟨l_To_3, oi_i, oi_c⟩ (by decide) (Nat.le_of_ble_eq_true rfl) d_To_init_1 ?_
  refine x_aload_n C d_To_init_4 rfl rfl ?_
  refine x_bipush (v := 60) C d_To_init_5 (by decide) ?_
  refine x_newI (N := 60) C ac_int d_To_init_7 (by decide) (by decide) (by decide) (fun kr h1 n1 u1 => ?_)
  have x1_T := x_nn fT n1
  have fT := xUp_new u1 n1 fT
  have z_kr := kp.isn n1 (by simp only [List.mem_cons, List.not_mem_nil, or_false, not_or]; exact Ne.symm x1_T)
  have kp := kp.upN u1 z_kr
  have f_kr := xUp_at u1
  refine x_putF (fs' := [_, _, _]) C k_To g_To_9 d_To_init_9 fT (by rfl) (by rfl) (by rfl) (Nat.le_of_ble_eq_true rfl) (by rfl) (fun h2 u2 => ?_)
  have f_kr := xUp_ne u2 f_kr (by first | assumption | exact Ne.symm (by assumption) | exact x_ne f_kr fT (by simp))
  have fT := xUp_at u2
  have kp := kp.up u2 (by simp)
  refine x_aload_n C d_To_init_12 rfl rfl ?_
  refine x_bipush (v := 60) C d_To_init_13 (by decide) ?_
  refine x_newI (N := 60) C ac_int d_To_init_15 (by decide) (by decide) (by decide) (fun nr h3 n3 u3 => ?_)
  have x3_T := x_nn fT n3
  have x3_kr := x_nn f_kr n3
  have fT := xUp_new u3 n3 fT
  have f_kr := xUp_new u3 n3 f_kr
  have z_nr := kp.isn n3 (by simp only [List.mem_cons, List.not_mem_nil, or_false, not_or]; exact Ne.symm x3_T)
  have kp := kp.upN u3 z_nr
  have f_nr := xUp_at u3
  refine x_putF (fs' := [_, _, _]) C k_To g_To_15 d_To_init_17 fT (by rfl) (by rfl) (by rfl) (Nat.le_of_ble_eq_true rfl) (by rfl) (fun h4 u4 => ?_)
  have f_kr := xUp_ne u4 f_kr (by first | assumption | exact Ne.symm (by assumption) | exact x_ne f_kr fT (by simp))
  have f_nr := xUp_ne u4 f_nr (by first | assumption | exact Ne.symm (by assumption) | exact x_ne f_nr fT (by simp))
  have fT := xUp_at u4
  have kp := kp.up u4 (by simp)
  refine x_vret C d_To_init_20 ?_
  exact ⟨rfl, kr, nr, ⟨fT, f_kr, f_nr, x3_kr, by decide⟩, z_kr, z_nr, kp⟩
set_option maxRecDepth 20000 in
set_option maxHeartbeats 1000000 in
theorem m_To_isToken {V : xV} {h : xH} (k n : Int32) : xM V y_To_isToken b_To_isToken 2 (some .boolean) 1 [.int k, .int n] h 0 0 (fun v h' => h' = h ∧ v = some (.int (bI (tokOK k n)))) := by
  refine xM_of false (by decide) (fun h => nomatch h) (Nat.le_of_ble_eq_true rfl) (fun K C => ?_)
  show K 0 0 h 0 [(0, .int k), (1, .int n)] []
  refine x_iload_n C d_To_isToken_0 rfl rfl ?_
  rcases sw4 k with rfl | rfl | rfl | rfl | q1
  · skip
    refine x_tabIn (tgt := 32) C d_To_isToken_1 (by decide) (by decide) (by rfl) rfl ?_
    refine x_iload_n C d_To_isToken_32 rfl rfl ?_
    refine x_if_lt (tgt := 46) C d_To_isToken_33 rfl (fun q33 => ?_) (fun q33 => ?_)
    · skip
      refine x_iconst (v := 0) C d_To_isToken_46 (by decide) ?_
      refine x_zret C d_To_isToken_47 (by rfl) ?_
      exact ⟨rfl, by simp [bI, tokOK, *]⟩
    · skip
      refine x_iload_n C d_To_isToken_36 rfl rfl ?_
      refine x_bipush (v := 13) C d_To_isToken_37 (by decide) ?_
      refine x_icmp_gt (tgt := 46) C d_To_isToken_39 rfl (fun q39 => ?_) (fun q39 => ?_)
      · skip
        refine x_iconst (v := 0) C d_To_isToken_46 (by decide) ?_
        refine x_zret C d_To_isToken_47 (by rfl) ?_
        exact ⟨rfl, by simp [bI, tokOK, *]⟩
      · skip
        refine x_iconst (v := 1) C d_To_isToken_42 (by decide) ?_
        refine x_goto (tgt := 47) C d_To_isToken_43 rfl ?_
        refine x_zret C d_To_isToken_47 (by rfl) ?_
        exact ⟨rfl, by simp [bI, tokOK, *]⟩
  · skip
    refine x_tabIn (tgt := 48) C d_To_isToken_1 (by decide) (by decide) (by rfl) rfl ?_
    refine x_iload_n C d_To_isToken_48 rfl rfl ?_
    refine x_if_lt (tgt := 62) C d_To_isToken_49 rfl (fun q49 => ?_) (fun q49 => ?_)
    · skip
      refine x_iconst (v := 0) C d_To_isToken_62 (by decide) ?_
      refine x_zret C d_To_isToken_63 (by rfl) ?_
      exact ⟨rfl, by simp [bI, tokOK, *]⟩
    · skip
      refine x_iload_n C d_To_isToken_52 rfl rfl ?_
      refine x_bipush (v := 10) C d_To_isToken_53 (by decide) ?_
      refine x_icmp_ge (tgt := 62) C d_To_isToken_55 rfl (fun q55 => ?_) (fun q55 => ?_)
      · skip
        refine x_iconst (v := 0) C d_To_isToken_62 (by decide) ?_
        refine x_zret C d_To_isToken_63 (by rfl) ?_
        exact ⟨rfl, by simp [bI, tokOK, *]⟩
      · skip
        refine x_iconst (v := 1) C d_To_isToken_58 (by decide) ?_
        refine x_goto (tgt := 63) C d_To_isToken_59 rfl ?_
        refine x_zret C d_To_isToken_63 (by rfl) ?_
        exact ⟨rfl, by simp [bI, tokOK, *]⟩
  · skip
    refine x_tabIn (tgt := 64) C d_To_isToken_1 (by decide) (by decide) (by rfl) rfl ?_
    refine x_iconst (v := 0) C d_To_isToken_64 (by decide) ?_
    refine x_iload_n C d_To_isToken_65 rfl rfl ?_
    refine x_callS C l_To_18 v_To_isColumnFrom d_To_isToken_66 (m_To_isColumnFrom 0 n) (by rfl) (by rfl) (by decide) (by decide) (Nat.le_of_ble_eq_true rfl) ?_
    rintro v h' ⟨rfl, rfl⟩
    refine x_if_ne (tgt := 81) C d_To_isToken_69 rfl (fun q69 => ?_) (fun q69 => ?_)
    · skip
      replace q69 := bI_t q69
      refine x_iconst (v := 1) C d_To_isToken_81 (by decide) ?_
      refine x_goto (tgt := 86) C d_To_isToken_82 rfl ?_
      refine x_zret C d_To_isToken_86 (by rfl) ?_
      exact ⟨rfl, by simp [bI, tokOK, *]⟩
    · skip
      replace q69 := bI_f q69
      refine x_bipush (v := 10) C d_To_isToken_72 (by decide) ?_
      refine x_iload_n C d_To_isToken_74 rfl rfl ?_
      refine x_callS C l_To_18 v_To_isColumnFrom d_To_isToken_75 (m_To_isColumnFrom 10 n) (by rfl) (by rfl) (by decide) (by decide) (Nat.le_of_ble_eq_true rfl) ?_
      rintro v h' ⟨rfl, rfl⟩
      refine x_if_eq (tgt := 85) C d_To_isToken_78 rfl (fun q78 => ?_) (fun q78 => ?_)
      · skip
        replace q78 := bI_f q78
        refine x_iconst (v := 0) C d_To_isToken_85 (by decide) ?_
        refine x_zret C d_To_isToken_86 (by rfl) ?_
        exact ⟨rfl, by simp [bI, tokOK, *]⟩
      · skip
        replace q78 := bI_t q78
        refine x_iconst (v := 1) C d_To_isToken_81 (by decide) ?_
        refine x_goto (tgt := 86) C d_To_isToken_82 rfl ?_
        refine x_zret C d_To_isToken_86 (by rfl) ?_
        exact ⟨rfl, by simp [bI, tokOK, *]⟩
  · skip
    refine x_tabIn (tgt := 87) C d_To_isToken_1 (by decide) (by decide) (by rfl) rfl ?_
    refine x_iconst (v := 1) C d_To_isToken_87 (by decide) ?_
    refine x_zret C d_To_isToken_88 (by rfl) ?_
    exact ⟨rfl, by simp [bI, tokOK, *]⟩
  · skip
    refine x_tabOut (tgt := 89) C d_To_isToken_1 q1 rfl ?_
    refine x_iconst (v := 0) C d_To_isToken_89 (by decide) ?_
    refine x_zret C d_To_isToken_90 (by rfl) ?_
    refine ⟨rfl, ?_⟩
    have z0 : ¬ k = 0 := fun z => by rw [z] at q1; revert q1; decide
    have z1 : ¬ k = 1 := fun z => by rw [z] at q1; revert q1; decide
    have z2 : ¬ k = 2 := fun z => by rw [z] at q1; revert q1; decide
    have z3 : ¬ k = 3 := fun z => by rw [z] at q1; revert q1; decide
    simp [bI, tokOK, z0, z1, z2, z3]
end
section
/-! CursorBase$Operand, CursorBase$Condition -/
set_option maxRecDepth 20000 in
set_option maxHeartbeats 1000000 in
theorem m_Op_isThere {V : xV} {h : xH} {O : Nat} {k n : Int32} (fO : h O = some (oOp k n)) (fc sc : Int32) : xM V y_Op_isThere b_Op_isThere 3 (some .boolean) 0 [.ref O, .int fc, .int sc] h 0 0 (fun v h' => h' = h ∧ v = some (.int (bI (opThere k n fc sc)))) := by
  refine xM_of false (by decide) (fun h => nomatch h) (Nat.le_of_ble_eq_true rfl) (fun K C => ?_)
  show K 0 0 h 0 [(0, .ref O), (1, .int fc), (2, .int sc)] []
  refine x_aload_n C d_Op_isThere_0 rfl rfl ?_
  refine x_get C k_Op f_Op_9 d_Op_isThere_1 fO (by rfl) ?_
  refine x_iconst (v := 3) C d_Op_isThere_4 (by decide) ?_
  refine x_icmp_ne (tgt := 10) C d_Op_isThere_5 rfl (fun q5 => ?_) (fun q5 => ?_)
  · skip
    refine x_aload_n C d_Op_isThere_10 rfl rfl ?_
    refine x_get C k_Op f_Op_15 d_Op_isThere_11 fO (by rfl) ?_
    refine x_bipush (v := 10) C d_Op_isThere_14 (by decide) ?_
    refine x_icmp_ge (tgt := 35) C d_Op_isThere_16 rfl (fun q16 => ?_) (fun q16 => ?_)
    · skip
      refine x_aload_n C d_Op_isThere_35 rfl rfl ?_
      refine x_get C k_Op f_Op_15 d_Op_isThere_36 fO (by rfl) ?_
      refine x_bipush (v := 10) C d_Op_isThere_39 (by decide) ?_
      refine x_isub C d_Op_isThere_41 ?_
      refine x_iload_n C d_Op_isThere_42 rfl rfl ?_
      refine x_icmp_ge (tgt := 50) C d_Op_isThere_43 rfl (fun q43 => ?_) (fun q43 => ?_)
      · skip
        refine x_iconst (v := 0) C d_Op_isThere_50 (by decide) ?_
        refine x_zret C d_Op_isThere_51 (by rfl) ?_
        exact ⟨rfl, by simp [bI, opThere, *]⟩
      · skip
        refine x_iconst (v := 1) C d_Op_isThere_46 (by decide) ?_
        refine x_goto (tgt := 51) C d_Op_isThere_47 rfl ?_
        refine x_zret C d_Op_isThere_51 (by rfl) ?_
        exact ⟨rfl, by simp [bI, opThere, *]⟩
    · skip
      refine x_aload_n C d_Op_isThere_19 rfl rfl ?_
      refine x_get C k_Op f_Op_15 d_Op_isThere_20 fO (by rfl) ?_
      refine x_iload_n C d_Op_isThere_23 rfl rfl ?_
      refine x_icmp_ge (tgt := 31) C d_Op_isThere_24 rfl (fun q24 => ?_) (fun q24 => ?_)
      · skip
        refine x_iconst (v := 0) C d_Op_isThere_31 (by decide) ?_
        refine x_goto (tgt := 51) C d_Op_isThere_32 rfl ?_
        refine x_zret C d_Op_isThere_51 (by rfl) ?_
        exact ⟨rfl, by simp [bI, opThere, *]⟩
      · skip
        refine x_iconst (v := 1) C d_Op_isThere_27 (by decide) ?_
        refine x_goto (tgt := 51) C d_Op_isThere_28 rfl ?_
        refine x_zret C d_Op_isThere_51 (by rfl) ?_
        exact ⟨rfl, by simp [bI, opThere, *]⟩
  · skip
    refine x_iconst (v := 1) C d_Op_isThere_8 (by decide) ?_
    refine x_zret C d_Op_isThere_9 (by rfl) ?_
    exact ⟨rfl, by simp [bI, opThere, *]⟩
set_option maxRecDepth 20000 in
set_option maxHeartbeats 1000000 in
theorem m_Op_value {V : xV} {h : xH} {O : Nat} {k n : Int32} (fO : h O = some (oOp k n)) {r : Nat} {f : Nat → Int32} (fr : h r = some (xI V 16 f)) (hin : k = 3 ∨ vp_in n 16) : xM V y_Op_value b_Op_value 2 (some .int) 0 [.ref O, .ref r] h 0 0 (fun v h' => h' = h ∧ v = some (.int (opVal k n f))) := by
  refine xM_of false (by decide) (fun h => nomatch h) (Nat.le_of_ble_eq_true rfl) (fun K C => ?_)
  show K 0 0 h 0 [(0, .ref O), (1, .ref r)] []
  refine x_aload_n C d_Op_value_0 rfl rfl ?_
  refine x_get C k_Op f_Op_9 d_Op_value_1 fO (by rfl) ?_
  refine x_iconst (v := 3) C d_Op_value_4 (by decide) ?_
  refine x_icmp_ne (tgt := 15) C d_Op_value_5 rfl (fun q5 => ?_) (fun q5 => ?_)
  · skip
    refine x_aload_n C d_Op_value_15 rfl rfl ?_
    refine x_aload_n C d_Op_value_16 rfl rfl ?_
    refine x_get C k_Op f_Op_15 d_Op_value_17 fO (by rfl) ?_
    refine x_iald C d_Op_value_20 fr (hin.resolve_left q5) ?_
    refine x_iret C d_Op_value_21 ?_
    exact ⟨rfl, by simp [opVal, *]⟩
  · skip
    refine x_aload_n C d_Op_value_8 rfl rfl ?_
    refine x_get C k_Op f_Op_15 d_Op_value_9 fO (by rfl) ?_
    refine x_goto (tgt := 21) C d_Op_value_12 rfl ?_
    refine x_iret C d_Op_value_21 ?_
    exact ⟨rfl, by simp [opVal, *]⟩
set_option maxRecDepth 20000 in
set_option maxHeartbeats 1000000 in
theorem m_Op_init {V : xV} {h : xH} {O : Nat} (fO : h O = some (.inr (0, [.int 0, .int 0]))) (k n : Int32) : xM V y_Op_init b_Op_init 3 none 1 [.ref O, .int k, .int n] h 0 0 (fun v h' => v = none ∧ h' O = some (oOp k n) ∧ xKeep [O] h h') := by
  refine xM_of true (by decide) (fun _ => rfl) (Nat.le_of_ble_eq_true rfl) (fun K C => ?_)
  show K 0 0 h 0 [(0, .ref O), (1, .int k), (2, .int n)] []
  have kp : xKeep [O] h h := xKeep.rf
  refine x_aload_n C d_Op_init_0 rfl rfl ?_
  refine x_objInit C ⟨l_Op_3, oi_i, oi_c⟩ (by decide) (Nat.le_of_ble_eq_true rfl) d_Op_init_1 ?_
  refine x_aload_n C d_Op_init_4 rfl rfl ?_
  refine x_iload_n C d_Op_init_5 rfl rfl ?_
  refine x_putF (fs' := [_, _]) C k_Op g_Op_9 d_Op_init_6 fO (by rfl) (by rfl) (by rfl) (Nat.le_of_ble_eq_true rfl) (by rfl) (fun h1 u1 => ?_)
  have fO := xUp_at u1
  have kp := kp.up u1 (by simp)
  refine x_aload_n C d_Op_init_9 rfl rfl ?_
  refine x_iload_n C d_Op_init_10 rfl rfl ?_
  refine x_putF (fs' := [_, _]) C k_Op g_Op_15 d_Op_init_11 fO (by rfl) (by rfl) (by rfl) (Nat.le_of_ble_eq_true rfl) (by rfl) (fun h2 u2 => ?_)
  have fO := xUp_at u2
  have kp := kp.up u2 (by simp)
  refine x_vret C d_Op_init_14 ?_
  exact ⟨rfl, fO, kp⟩
set_option maxRecDepth 20000 in
set_option maxHeartbeats 1000000 in
theorem m_Cn_init {V : xV} {h : xH} {O : Nat} (fO : h O = some (.inr (1, [.null, .int 0, .null]))) (a : Nat) (k : Int32) (b : Nat) : xM V y_Cn_init b_Cn_init 4 none 1 [.ref O, .ref a, .int k, .ref b] h 0 0 (fun v h' => v = none ∧ h' O = some (oCn a k b) ∧ xKeep [O] h h') := by
  refine xM_of true (by decide) (fun _ => rfl) (Nat.le_of_ble_eq_true rfl) (fun K C => ?_)
  show K 0 0 h 0 [(0, .ref O), (1, .ref a), (2, .int k), (3, .ref b)] []
  have kp : xKeep [O] h h := xKeep.rf
  refine x_aload_n C d_Cn_init_0 rfl rfl ?_
  refine x_objInit C ⟨l_Cn_3, oi_i, oi_c⟩ (by decide) (Nat.le_of_ble_eq_true rfl) d_Cn_init_1 ?_
  refine x_aload_n C d_Cn_init_4 rfl rfl ?_
  refine x_aload_n C d_Cn_init_5 rfl rfl ?_
  refine x_putF (fs' := [_, _, _]) C k_Cn g_Cn_9 d_Cn_init_6 fO (by rfl) (by rfl) (by rfl) (Nat.le_of_ble_eq_true rfl) (by rfl) (fun h1 u1 => ?_)
  have fO := xUp_at u1
  have kp := kp.up u1 (by simp)
  refine x_aload_n C d_Cn_init_9 rfl rfl ?_
  refine x_iload_n C d_Cn_init_10 rfl rfl ?_
  refine x_putF (fs' := [_, _, _]) C k_Cn g_Cn_15 d_Cn_init_11 fO (by rfl) (by rfl) (by rfl) (Nat.le_of_ble_eq_true rfl) (by rfl) (fun h2 u2 => ?_)
  have fO := xUp_at u2
  have kp := kp.up u2 (by simp)
  refine x_aload_n C d_Cn_init_14 rfl rfl ?_
  refine x_aload_n C d_Cn_init_15 rfl rfl ?_
  refine x_putF (fs' := [_, _, _]) C k_Cn g_Cn_19 d_Cn_init_16 fO (by rfl) (by rfl) (by rfl) (Nat.le_of_ble_eq_true rfl) (by rfl) (fun h3 u3 => ?_)
  have fO := xUp_at u3
  have kp := kp.up u3 (by simp)
  refine x_vret C d_Cn_init_19 ?_
  exact ⟨rfl, fO, kp⟩
set_option maxRecDepth 20000 in
set_option maxHeartbeats 1000000 in
theorem m_Cn_isThere {V : xV} {h : xH} {Q a b : Nat} {k1 n1 c k2 n2 : Int32} (fQ : h Q = some (oCn a c b)) (fa : h a = some (oOp k1 n1)) (fb : h b = some (oOp k2 n2)) (fc sc : Int32) : xM V y_Cn_isThere b_Cn_isThere 3 (some .boolean) 1 [.ref Q, .int fc, .int sc] h 0 0 (fun v h' => h' = h ∧ v = some (.int (bI (opThere k1 n1 fc sc && opThere k2 n2 fc sc)))) := by
  refine xM_of false (by decide) (fun h => nomatch h) (Nat.le_of_ble_eq_true rfl) (fun K C => ?_)
  show K 0 0 h 0 [(0, .ref Q), (1, .int fc), (2, .int sc)] []
  refine x_aload_n C d_Cn_isThere_0 rfl rfl ?_
  refine x_get C k_Cn f_Cn_9 d_Cn_isThere_1 fQ (by rfl) ?_
  refine x_iload_n C d_Cn_isThere_4 rfl rfl ?_
  refine x_iload_n C d_Cn_isThere_5 rfl rfl ?_
  refine x_callV C l_Cn_22 v_Op_isThere d_Cn_isThere_6 (m_Op_isThere fa fc sc) fa rfl (by rfl) (by rfl) (by decide) (by decide) (Nat.le_of_ble_eq_true rfl) ?_
  rintro v h' ⟨rfl, rfl⟩
  refine x_if_eq (tgt := 28) C d_Cn_isThere_9 rfl (fun q9 => ?_) (fun q9 => ?_)
  · skip
    replace q9 := bI_f q9
    refine x_iconst (v := 0) C d_Cn_isThere_28 (by decide) ?_
    refine x_zret C d_Cn_isThere_29 (by rfl) ?_
    exact ⟨rfl, by simp [bI, *]⟩
  · skip
    replace q9 := bI_t q9
    refine x_aload_n C d_Cn_isThere_12 rfl rfl ?_
    refine x_get C k_Cn f_Cn_19 d_Cn_isThere_13 fQ (by rfl) ?_
    refine x_iload_n C d_Cn_isThere_16 rfl rfl ?_
    refine x_iload_n C d_Cn_isThere_17 rfl rfl ?_
    refine x_callV C l_Cn_22 v_Op_isThere d_Cn_isThere_18 (m_Op_isThere fb fc sc) fb rfl (by rfl) (by rfl) (by decide) (by decide) (Nat.le_of_ble_eq_true rfl) ?_
    rintro v h' ⟨rfl, rfl⟩
    refine x_if_eq (tgt := 28) C d_Cn_isThere_21 rfl (fun q21 => ?_) (fun q21 => ?_)
    · skip
      replace q21 := bI_f q21
      refine x_iconst (v := 0) C d_Cn_isThere_28 (by decide) ?_
      refine x_zret C d_Cn_isThere_29 (by rfl) ?_
      exact ⟨rfl, by simp [bI, *]⟩
    · skip
      replace q21 := bI_t q21
      refine x_iconst (v := 1) C d_Cn_isThere_24 (by decide) ?_
      refine x_goto (tgt := 29) C d_Cn_isThere_25 rfl ?_
      refine x_zret C d_Cn_isThere_29 (by rfl) ?_
      exact ⟨rfl, by simp [bI, *]⟩
set_option maxRecDepth 20000 in
set_option maxHeartbeats 1000000 in
theorem m_Cn_holds {V : xV} {h : xH} {Q a b : Nat} {k1 n1 c k2 n2 : Int32} (fQ : h Q = some (oCn a c b)) (fa : h a = some (oOp k1 n1)) (fb : h b = some (oOp k2 n2)) {r : Nat} {f : Nat → Int32} (fr : h r = some (xI V 16 f)) (h1 : k1 = 3 ∨ vp_in n1 16) (h2 : k2 = 3 ∨ vp_in n2 16) : xM V y_Cn_holds b_Cn_holds 4 (some .boolean) 1 [.ref Q, .ref r] h 0 0 (fun v h' => h' = h ∧ v = some (.int (bI (cmp c (opVal k1 n1 f) (opVal k2 n2 f))))) := by
  refine xM_of false (by decide) (fun h => nomatch h) (Nat.le_of_ble_eq_true rfl) (fun K C => ?_)
  show K 0 0 h 0 [(0, .ref Q), (1, .ref r)] []
  refine x_aload_n C d_Cn_holds_0 rfl rfl ?_
  refine x_get C k_Cn f_Cn_9 d_Cn_holds_1 fQ (by rfl) ?_
  refine x_aload_n C d_Cn_holds_4 rfl rfl ?_
  refine x_callV C l_Cn_28 v_Op_value d_Cn_holds_5 (m_Op_value fa fr h1) fa rfl (by rfl) (by rfl) (by decide) (by decide) (Nat.le_of_ble_eq_true rfl) ?_
  rintro v h' ⟨rfl, rfl⟩
  refine x_istore_n (lv' := [(2, _), (0, _), (1, _)]) C d_Cn_holds_8 rfl (by decide) (by rfl) ?_
  refine x_aload_n C d_Cn_holds_9 rfl rfl ?_
  refine x_get C k_Cn f_Cn_19 d_Cn_holds_10 fQ (by rfl) ?_
  refine x_aload_n C d_Cn_holds_13 rfl rfl ?_
  refine x_callV C l_Cn_28 v_Op_value d_Cn_holds_14 (m_Op_value fb fr h2) fb rfl (by rfl) (by rfl) (by decide) (by decide) (Nat.le_of_ble_eq_true rfl) ?_
  rintro v h' ⟨rfl, rfl⟩
  refine x_istore_n (lv' := [(3, _), (2, _), (0, _), (1, _)]) C d_Cn_holds_17 rfl (by decide) (by rfl) ?_
  refine x_aload_n C d_Cn_holds_18 rfl rfl ?_
  refine x_get C k_Cn f_Cn_15 d_Cn_holds_19 fQ (by rfl) ?_
  by_cases q22_10 : c = 10
  · subst q22_10
    refine x_look (off := 26) (tgt := 48) C d_Cn_holds_22 (by decide) (by decide) rfl ?_
    refine x_iload_n C d_Cn_holds_48 rfl rfl ?_
    refine x_iload_n C d_Cn_holds_49 rfl rfl ?_
    refine x_icmp_ne (tgt := 57) C d_Cn_holds_50 rfl (fun q50 => ?_) (fun q50 => ?_)
    · skip
      refine x_iconst (v := 0) C d_Cn_holds_57 (by decide) ?_
      refine x_zret C d_Cn_holds_58 (by rfl) ?_
      exact ⟨rfl, by simp [bI, cmp, *]⟩
    · skip
      refine x_iconst (v := 1) C d_Cn_holds_53 (by decide) ?_
      refine x_goto (tgt := 58) C d_Cn_holds_54 rfl ?_
      refine x_zret C d_Cn_holds_58 (by rfl) ?_
      exact ⟨rfl, by simp [bI, cmp, *]⟩
  by_cases q22_11 : c = 11
  · subst q22_11
    refine x_look (off := 37) (tgt := 59) C d_Cn_holds_22 (by decide) (by decide) rfl ?_
    refine x_iload_n C d_Cn_holds_59 rfl rfl ?_
    refine x_iload_n C d_Cn_holds_60 rfl rfl ?_
    refine x_icmp_ge (tgt := 68) C d_Cn_holds_61 rfl (fun q61 => ?_) (fun q61 => ?_)
    · skip
      refine x_iconst (v := 0) C d_Cn_holds_68 (by decide) ?_
      refine x_zret C d_Cn_holds_69 (by rfl) ?_
      exact ⟨rfl, by simp [bI, cmp, *]⟩
    · skip
      refine x_iconst (v := 1) C d_Cn_holds_64 (by decide) ?_
      refine x_goto (tgt := 69) C d_Cn_holds_65 rfl ?_
      refine x_zret C d_Cn_holds_69 (by rfl) ?_
      exact ⟨rfl, by simp [bI, cmp, *]⟩
  refine x_look (tgt := 70) C d_Cn_holds_22 (by decide) (look2 q22_10 q22_11) rfl ?_
  refine x_iload_n C d_Cn_holds_70 rfl rfl ?_
  refine x_iload_n C d_Cn_holds_71 rfl rfl ?_
  refine x_icmp_le (tgt := 79) C d_Cn_holds_72 rfl (fun q72 => ?_) (fun q72 => ?_)
  · skip
    refine x_iconst (v := 0) C d_Cn_holds_79 (by decide) ?_
    refine x_zret C d_Cn_holds_80 (by rfl) ?_
    exact ⟨rfl, by simp [bI, cmp, *]⟩
  · skip
    refine x_iconst (v := 1) C d_Cn_holds_75 (by decide) ?_
    refine x_goto (tgt := 80) C d_Cn_holds_76 rfl ?_
    refine x_zret C d_Cn_holds_80 (by rfl) ?_
    exact ⟨rfl, by simp [bI, cmp, *]⟩
end
section
/-! CursorBase$Tables -/
set_option maxRecDepth 20000 in
set_option maxHeartbeats 1000000 in
theorem m_Ta_columnsOf {V : xV} {h : xH} {B ce co sr : Nat} {f c s : Nat → Int32} (pT : pTa V h B ce co sr f c s) (t : Int32) : xM V y_Ta_columnsOf b_Ta_columnsOf 2 (some .int) 0 [.ref B, .int t] h 0 0 (fun v h' => h' = h ∧ v = some (.int (colOf c t))) := by
  refine xM_of false (by decide) (fun h => nomatch h) (Nat.le_of_ble_eq_true rfl) (fun K C => ?_)
  show K 0 0 h 0 [(0, .ref B), (1, .int t)] []
  obtain ⟨fB, fce, fco, fsr⟩ := pT
  refine x_iload_n C d_Ta_columnsOf_0 rfl rfl ?_
  refine x_if_lt (tgt := 19) C d_Ta_columnsOf_1 rfl (fun q1 => ?_) (fun q1 => ?_)
  · skip
    refine x_iconst (v := 0) C d_Ta_columnsOf_19 (by decide) ?_
    refine x_iret C d_Ta_columnsOf_20 ?_
    exact ⟨rfl, by simp [colOf, *]⟩
  · skip
    refine x_iload_n C d_Ta_columnsOf_4 rfl rfl ?_
    refine x_bipush (v := 10) C d_Ta_columnsOf_5 (by decide) ?_
    refine x_icmp_ge (tgt := 19) C d_Ta_columnsOf_7 rfl (fun q7 => ?_) (fun q7 => ?_)
    · skip
      refine x_iconst (v := 0) C d_Ta_columnsOf_19 (by decide) ?_
      refine x_iret C d_Ta_columnsOf_20 ?_
      exact ⟨rfl, by simp [colOf, *]⟩
    · skip
      refine x_aload_n C d_Ta_columnsOf_10 rfl rfl ?_
      refine x_get C k_Ta f_Ta_15 d_Ta_columnsOf_11 fB (by rfl) ?_
      refine x_iload_n C d_Ta_columnsOf_14 rfl rfl ?_
      refine x_iald C d_Ta_columnsOf_15 fco (in_of (n := 10) q1 q7 (by decide) (by decide)) ?_
      refine x_goto (tgt := 20) C d_Ta_columnsOf_16 rfl ?_
      refine x_iret C d_Ta_columnsOf_20 ?_
      exact ⟨rfl, by simp [colOf, *]⟩
set_option maxRecDepth 20000 in
set_option maxHeartbeats 1000000 in
theorem m_Ta_isThere {V : xV} {h : xH} {B ce co sr : Nat} {f c s : Nat → Int32} (pT : pTa V h B ce co sr f c s) (t : Int32) : xM V y_Ta_isThere b_Ta_isThere 2 (some .boolean) 1 [.ref B, .int t] h 0 0 (fun v h' => h' = h ∧ v = some (.int (bI (!decide (colOf c t ≤ 0))))) := by
  refine xM_of false (by decide) (fun h => nomatch h) (Nat.le_of_ble_eq_true rfl) (fun K C => ?_)
  show K 0 0 h 0 [(0, .ref B), (1, .int t)] []
  obtain ⟨fB, fce, fco, fsr⟩ := pT
  refine x_aload_n C d_Ta_isThere_0 rfl rfl ?_
  refine x_iload_n C d_Ta_isThere_1 rfl rfl ?_
  refine x_callV C l_Ta_21 v_Ta_columnsOf d_Ta_isThere_2 (m_Ta_columnsOf ⟨fB, fce, fco, fsr⟩ t) fB rfl (by rfl) (by rfl) (by decide) (by decide) (Nat.le_of_ble_eq_true rfl) ?_
  rintro v h' ⟨rfl, rfl⟩
  refine x_if_le (tgt := 12) C d_Ta_isThere_5 rfl (fun q5 => ?_) (fun q5 => ?_)
  · skip
    refine x_iconst (v := 0) C d_Ta_isThere_12 (by decide) ?_
    refine x_zret C d_Ta_isThere_13 (by rfl) ?_
    exact ⟨rfl, by simp [bI, *]⟩
  · skip
    refine x_iconst (v := 1) C d_Ta_isThere_8 (by decide) ?_
    refine x_goto (tgt := 13) C d_Ta_isThere_9 rfl ?_
    refine x_zret C d_Ta_isThere_13 (by rfl) ?_
    exact ⟨rfl, by simp [bI, *]⟩
set_option maxRecDepth 20000 in
set_option maxHeartbeats 1000000 in
theorem m_Ta_rowsOf {V : xV} {h : xH} {B ce co sr : Nat} {f c s : Nat → Int32} (pT : pTa V h B ce co sr f c s) (t : Int32) : xM V y_Ta_rowsOf b_Ta_rowsOf 2 (some .int) 0 [.ref B, .int t] h 0 0 (fun v h' => h' = h ∧ v = some (.int (rowOf s t))) := by
  refine xM_of false (by decide) (fun h => nomatch h) (Nat.le_of_ble_eq_true rfl) (fun K C => ?_)
  show K 0 0 h 0 [(0, .ref B), (1, .int t)] []
  obtain ⟨fB, fce, fco, fsr⟩ := pT
  refine x_iload_n C d_Ta_rowsOf_0 rfl rfl ?_
  refine x_if_lt (tgt := 28) C d_Ta_rowsOf_1 rfl (fun q1 => ?_) (fun q1 => ?_)
  · skip
    refine x_iconst (v := 0) C d_Ta_rowsOf_28 (by decide) ?_
    refine x_iret C d_Ta_rowsOf_29 ?_
    exact ⟨rfl, by simp [rowOf, *]⟩
  · skip
    refine x_iload_n C d_Ta_rowsOf_4 rfl rfl ?_
    refine x_bipush (v := 10) C d_Ta_rowsOf_5 (by decide) ?_
    refine x_icmp_ge (tgt := 28) C d_Ta_rowsOf_7 rfl (fun q7 => ?_) (fun q7 => ?_)
    · skip
      refine x_iconst (v := 0) C d_Ta_rowsOf_28 (by decide) ?_
      refine x_iret C d_Ta_rowsOf_29 ?_
      exact ⟨rfl, by simp [rowOf, *]⟩
    · skip
      refine x_aload_n C d_Ta_rowsOf_10 rfl rfl ?_
      refine x_get C k_Ta f_Ta_18 d_Ta_rowsOf_11 fB (by rfl) ?_
      refine x_iload_n C d_Ta_rowsOf_14 rfl rfl ?_
      refine x_iconst (v := 1) C d_Ta_rowsOf_15 (by decide) ?_
      refine x_iadd C d_Ta_rowsOf_16 ?_
      refine x_iald C d_Ta_rowsOf_17 fsr (in_of1 (n := 10) q1 q7 (by decide) (by decide)) ?_
      refine x_aload_n C d_Ta_rowsOf_18 rfl rfl ?_
      refine x_get C k_Ta f_Ta_18 d_Ta_rowsOf_19 fB (by rfl) ?_
      refine x_iload_n C d_Ta_rowsOf_22 rfl rfl ?_
      refine x_iald C d_Ta_rowsOf_23 fsr (in_of (n := 10) q1 q7 (by decide) (by decide)) ?_
      refine x_isub C d_Ta_rowsOf_24 ?_
      refine x_goto (tgt := 29) C d_Ta_rowsOf_25 rfl ?_
      refine x_iret C d_Ta_rowsOf_29 ?_
      exact ⟨rfl, by simp [rowOf, *]⟩
set_option maxRecDepth 20000 in
set_option maxHeartbeats 1000000 in
theorem m_Ta_rowsInAll {V : xV} {h : xH} {B ce co sr : Nat} {f c s : Nat → Int32} (pT : pTa V h B ce co sr f c s) : xM V y_Ta_rowsInAll b_Ta_rowsInAll 1 (some .int) 0 [.ref B] h 0 0 (fun v h' => h' = h ∧ v = some (.int (s 10))) := by
  refine xM_of false (by decide) (fun h => nomatch h) (Nat.le_of_ble_eq_true rfl) (fun K C => ?_)
  show K 0 0 h 0 [(0, .ref B)] []
  obtain ⟨fB, fce, fco, fsr⟩ := pT
  refine x_aload_n C d_Ta_rowsInAll_0 rfl rfl ?_
  refine x_get C k_Ta f_Ta_18 d_Ta_rowsInAll_1 fB (by rfl) ?_
  refine x_bipush (v := 10) C d_Ta_rowsInAll_4 (by decide) ?_
  refine x_iald C d_Ta_rowsInAll_6 fsr (vp_in_nI (n := 10) (by decide) (by decide)) ?_
  refine x_iret C d_Ta_rowsInAll_7 ?_
  exact ⟨rfl, rfl⟩
set_option maxRecDepth 20000 in
set_option maxHeartbeats 1000000 in
theorem m_Ta_cellOf {V : xV} {h : xH} {B ce co sr : Nat} {f c s : Nat → Int32} (pT : pTa V h B ce co sr f c s) {t : Nat} (ht : t ≤ 10) (p : Int32) : xM V y_Ta_cellOf b_Ta_cellOf 3 (some .int) 0 [.ref B, .int (nI t), .int p] h 0 0 (fun v h' => h' = h ∧ v = some (.int ((s t + p) * 6))) := by
  refine xM_of false (by decide) (fun h => nomatch h) (Nat.le_of_ble_eq_true rfl) (fun K C => ?_)
  show K 0 0 h 0 [(0, .ref B), (1, .int (nI t)), (2, .int p)] []
  obtain ⟨fB, fce, fco, fsr⟩ := pT
  refine x_aload_n C d_Ta_cellOf_0 rfl rfl ?_
  refine x_get C k_Ta f_Ta_18 d_Ta_cellOf_1 fB (by rfl) ?_
  refine x_iload_n C d_Ta_cellOf_4 rfl rfl ?_
  refine x_iald C d_Ta_cellOf_5 fsr (vp_in_nI (by omega) (by decide)) ?_
  refine x_iload_n C d_Ta_cellOf_6 rfl rfl ?_
  refine x_iadd C d_Ta_cellOf_7 ?_
  refine x_bipush (v := 6) C d_Ta_cellOf_8 (by decide) ?_
  refine x_imul C d_Ta_cellOf_10 ?_
  refine x_iret C d_Ta_cellOf_11 ?_
  exact ⟨rfl, by rw [nI_clamp (by omega)]⟩
set_option maxRecDepth 20000 in
set_option maxHeartbeats 1000000 in
theorem m_Ta_keyAt {V : xV} {h : xH} {B ce co sr : Nat} {f c s : Nat → Int32} (pT : pTa V h B ce co sr f c s) {t : Nat} (ht : t ≤ 10) {p : Int32} {a : Nat} (ha : a < 2400) (hp : (s t + p) * 6 = nI a) : xM V y_Ta_keyAt b_Ta_keyAt 3 (some .int) 1 [.ref B, .int (nI t), .int p] h 0 0 (fun v h' => h' = h ∧ v = some (.int (f a))) := by
  refine xM_of false (by decide) (fun h => nomatch h) (Nat.le_of_ble_eq_true rfl) (fun K C => ?_)
  show K 0 0 h 0 [(0, .ref B), (1, .int (nI t)), (2, .int p)] []
  obtain ⟨fB, fce, fco, fsr⟩ := pT
  refine x_aload_n C d_Ta_keyAt_0 rfl rfl ?_
  refine x_get C k_Ta f_Ta_9 d_Ta_keyAt_1 fB (by rfl) ?_
  refine x_aload_n C d_Ta_keyAt_4 rfl rfl ?_
  refine x_iload_n C d_Ta_keyAt_5 rfl rfl ?_
  refine x_iload_n C d_Ta_keyAt_6 rfl rfl ?_
  refine x_callV C l_Ta_25 v_Ta_cellOf d_Ta_keyAt_7 (m_Ta_cellOf ⟨fB, fce, fco, fsr⟩ ht p) fB rfl (by rfl) (by rfl) (by decide) (by decide) (Nat.le_of_ble_eq_true rfl) ?_
  rintro v h' ⟨rfl, rfl⟩
  refine x_iald C d_Ta_keyAt_10 fce (by rw [hp]; exact vp_in_nI ha (by decide)) ?_
  refine x_iret C d_Ta_keyAt_11 ?_
  exact ⟨rfl, by rw [hp, nI_clamp (by omega)]⟩
set_option maxRecDepth 20000 in
set_option maxHeartbeats 1000000 in
theorem m_Ta_read {V : xV} {h : xH} {B ce co sr : Nat} {f c s : Nat → Int32} (pT : pTa V h B ce co sr f c s) {t : Nat} (ht : t ≤ 10) {p : Int32} {a : Nat} (ha : a + 6 ≤ 2400) (hp : (s t + p) * 6 = nI a) {r b : Nat} {g : Nat → Int32} (fr : h r = some (xI V 16 g)) (hb : b + 6 ≤ 16) : xM V y_Ta_read b_Ta_read 5 none 3 [.ref B, .int (nI t), .int p, .ref r, .int (nI b)] h 0 0 (fun v h' => v = none ∧ h' = va_up h r (some (xI V 16 (va_cpy f g a b 6)))) := by
  refine xM_of false (by decide) (fun h => nomatch h) (Nat.le_of_ble_eq_true rfl) (fun K C => ?_)
  show K 0 0 h 0 [(0, .ref B), (1, .int (nI t)), (2, .int p), (3, .ref r), (4, .int (nI b))] []
  obtain ⟨fB, fce, fco, fsr⟩ := pT
  refine x_aload_n C d_Ta_read_0 rfl rfl ?_
  refine x_get C k_Ta f_Ta_9 d_Ta_read_1 fB (by rfl) ?_
  refine x_aload_n C d_Ta_read_4 rfl rfl ?_
  refine x_iload_n C d_Ta_read_5 rfl rfl ?_
  refine x_iload_n C d_Ta_read_6 rfl rfl ?_
  refine x_callV C l_Ta_25 v_Ta_cellOf d_Ta_read_7 (m_Ta_cellOf ⟨fB, fce, fco, fsr⟩ ht p) fB rfl (by rfl) (by rfl) (by decide) (by decide) (Nat.le_of_ble_eq_true rfl) ?_
  rintro v h' ⟨rfl, rfl⟩
  refine x_aload_n C d_Ta_read_10 rfl rfl ?_
  refine x_iload C d_Ta_read_11 rfl ?_
  refine x_bipush (v := 6) C d_Ta_read_13 (by decide) ?_
  refine x_copy C ⟨l_Ta_29, acp.1, acp.2.1, acp.2.2⟩ (by decide) (Nat.le_of_ble_eq_true rfl) fce fr (by rw [hp]; exact nI_pos (by omega)) (nI_pos (by omega)) (by decide) (by rw [hp, nI_clamp (by omega)]; exact ha) (by rw [nI_clamp (by omega)]; exact hb) d_Ta_read_15 (fun h1 u1 => ?_)
  have fB := xUp_ne u1 fB (by first | assumption | exact Ne.symm (by assumption) | exact x_ne fB fr (by simp))
  have fce := xUp_ne u1 fce (by first | assumption | exact Ne.symm (by assumption) | exact x_ne fce fr (by simp))
  have fco := xUp_ne u1 fco (by first | assumption | exact Ne.symm (by assumption) | exact x_ne fco fr (by simp))
  have fsr := xUp_ne u1 fsr (by first | assumption | exact Ne.symm (by assumption) | exact x_ne fsr fr (by simp))
  have fr := xUp_at u1
  refine x_vret C d_Ta_read_18 ?_
  refine ⟨rfl, ?_⟩
  rw [u1, hp, nI_clamp (by omega), nI_clamp (by omega)]
  rfl
set_option maxRecDepth 20000 in
set_option maxHeartbeats 1000000 in
theorem m_Ta_placeNotBelow {V : xV} {h : xH} {B ce co sr : Nat} {f c s : Nat → Int32} (pT : pTa V h B ce co sr f c s) {S : Nat → Nat} (hS : pS s S) {t : Nat} (ht : t < 10) (k : Int32) : xM V y_Ta_placeNotBelow b_Ta_placeNotBelow 5 (some .int) 2 [.ref B, .int (nI t), .int k] h 0 0 (fun v h' => h' = h ∧ ∃ p, v = some (.int (nI p)) ∧ pNB (fun j => f ((S t + j) * 6)) (S (t + 1) - S t) k p) := by
  refine xM_of false (by decide) (fun h => nomatch h) (Nat.le_of_ble_eq_true rfl) (fun K C => ?_)
  show K 0 0 h 0 [(0, .ref B), (1, .int (nI t)), (2, .int k)] []
  obtain ⟨fB, fce, fco, fsr⟩ := pT
  have hs0 := hS.1 t (by omega)
  have hl1 := hS.le (t + 1) (by omega)
  have hl2 := hS.2.1 t ht
  have loop : ∀ m : Nat, ∀ j : Nat, S (t + 1) - S t - j < m → j ≤ S (t + 1) - S t → (∀ i, i < j → f ((S t + i) * 6) < k) → K 0 0 h 9 [(4, .int (nI j)), (3, .int (nI (S (t + 1) - S t))), (0, .ref B), (1, .int (nI t)), (2, .int k)] [] := by
    intro m
    induction m with
    | zero => intro j hm hj hk; omega
    | succ m ih =>
      intro j hm hj hk
      refine x_iload C d_Ta_placeNotBelow_9 rfl ?_
      refine x_iload_n C d_Ta_placeNotBelow_11 rfl rfl ?_
      refine x_icmp_ge (tgt := 32) C d_Ta_placeNotBelow_12 rfl (fun q12 => ?_) (fun q12 => ?_)
      · skip
        have hjn : j = S (t + 1) - S t := by rcases Nat.lt_or_ge j (S (t + 1) - S t) with z | z; exact absurd q12 (nI_ge z (by omega)); omega
        refine x_iload C d_Ta_placeNotBelow_32 rfl ?_
        refine x_iret C d_Ta_placeNotBelow_34 ?_
        refine ⟨rfl, j, rfl, hj, hk, fun z => ?_⟩
        first | exact absurd z (by omega) | exact Int32.not_lt.mpr q23
      · skip
        have hjn : j < S (t + 1) - S t := by rcases Nat.lt_or_ge j (S (t + 1) - S t) with z | z; exact z; exact absurd (nI_le z (by omega)) q12
        refine x_aload_n C d_Ta_placeNotBelow_15 rfl rfl ?_
        refine x_iload_n C d_Ta_placeNotBelow_16 rfl rfl ?_
        refine x_iload C d_Ta_placeNotBelow_17 rfl ?_
        refine x_callV C l_Ta_38 v_Ta_keyAt d_Ta_placeNotBelow_19 (m_Ta_keyAt ⟨fB, fce, fco, fsr⟩ (t := t) (p := nI j) (a := (S t + j) * 6) (by omega) (by omega) (by rw [hs0, cell_eq])) fB rfl (by rfl) (by rfl) (by decide) (by decide) (Nat.le_of_ble_eq_true rfl) ?_
        rintro v h' ⟨rfl, rfl⟩
        refine x_iload_n C d_Ta_placeNotBelow_22 rfl rfl ?_
        refine x_icmp_ge (tgt := 32) C d_Ta_placeNotBelow_23 rfl (fun q23 => ?_) (fun q23 => ?_)
        · skip
          refine x_iload C d_Ta_placeNotBelow_32 rfl ?_
          refine x_iret C d_Ta_placeNotBelow_34 ?_
          refine ⟨rfl, j, rfl, hj, hk, fun z => ?_⟩
          first | exact absurd z (by omega) | exact Int32.not_lt.mpr q23
        · skip
          replace q23 := Int32.not_le.mp q23
          refine x_iinc (v := nI (j + 1)) (k0 := 0) (lv' := [(4, _), (3, _), (0, _), (1, _), (2, _)]) C d_Ta_placeNotBelow_26 (by rfl) (nI_1 j) (by decide) (by rfl) ?_
          refine x_goto (tgt := 9) C d_Ta_placeNotBelow_29 rfl ?_
          exact ih (j + 1) (by omega) (by omega) (lt_s hk (by simpa using q23))
  refine x_aload_n C d_Ta_placeNotBelow_0 rfl rfl ?_
  refine x_iload_n C d_Ta_placeNotBelow_1 rfl rfl ?_
  refine x_callV C l_Ta_35 v_Ta_rowsOf d_Ta_placeNotBelow_2 (m_Ta_rowsOf ⟨fB, fce, fco, fsr⟩ (nI t)) fB rfl (by rfl) (by rfl) (by decide) (by decide) (Nat.le_of_ble_eq_true rfl) ?_
  rintro v h' ⟨rfl, rfl⟩
  rw [hS.row ht]
  refine x_istore_n (lv' := [(3, _), (0, _), (1, _), (2, _)]) C d_Ta_placeNotBelow_5 rfl (by decide) (by rfl) ?_
  refine x_iconst (v := 0) C d_Ta_placeNotBelow_6 (by decide) ?_
  refine x_istore (lv' := [(4, _), (3, _), (0, _), (1, _), (2, _)]) C d_Ta_placeNotBelow_7 (by decide) (by rfl) ?_
  exact loop (S (t + 1) - S t + 1) 0 (by omega) (by omega) lt_0
set_option maxRecDepth 20000 in
set_option maxHeartbeats 1000000 in
theorem m_Ta_hasKeyAt {V : xV} {h : xH} {B ce co sr : Nat} {f c s : Nat → Int32} (pT : pTa V h B ce co sr f c s) {S : Nat → Nat} (hS : pS s S) {t : Nat} (ht : t < 10) {j : Nat} (hj : j ≤ 400) (k : Int32) : xM V y_Ta_hasKeyAt b_Ta_hasKeyAt 4 (some .boolean) 2 [.ref B, .int (nI t), .int (nI j), .int k] h 0 0 (fun v h' => h' = h ∧ v = some (.int (bI (decide (j < S (t + 1) - S t) && decide (f ((S t + j) * 6) = k))))) := by
  refine xM_of false (by decide) (fun h => nomatch h) (Nat.le_of_ble_eq_true rfl) (fun K C => ?_)
  show K 0 0 h 0 [(0, .ref B), (1, .int (nI t)), (2, .int (nI j)), (3, .int k)] []
  obtain ⟨fB, fce, fco, fsr⟩ := pT
  have hs0 := hS.1 t (by omega)
  have hl1 := hS.le (t + 1) (by omega)
  have hl2 := hS.2.1 t ht
  refine x_iload_n C d_Ta_hasKeyAt_0 rfl rfl ?_
  refine x_aload_n C d_Ta_hasKeyAt_1 rfl rfl ?_
  refine x_iload_n C d_Ta_hasKeyAt_2 rfl rfl ?_
  refine x_callV C l_Ta_35 v_Ta_rowsOf d_Ta_hasKeyAt_3 (m_Ta_rowsOf ⟨fB, fce, fco, fsr⟩ (nI t)) fB rfl (by rfl) (by rfl) (by decide) (by decide) (Nat.le_of_ble_eq_true rfl) ?_
  rintro v h' ⟨rfl, rfl⟩
  rw [hS.row ht]
  refine x_icmp_ge (tgt := 23) C d_Ta_hasKeyAt_6 rfl (fun q6 => ?_) (fun q6 => ?_)
  · skip
    have hjn : ¬ j < S (t + 1) - S t := fun z => absurd q6 (nI_ge z (by omega))
    refine x_iconst (v := 0) C d_Ta_hasKeyAt_23 (by decide) ?_
    refine x_zret C d_Ta_hasKeyAt_24 (by rfl) ?_
    exact ⟨rfl, by simp [bI, *]⟩
  · skip
    have hjn : j < S (t + 1) - S t := by rcases Nat.lt_or_ge j (S (t + 1) - S t) with z | z; exact z; exact absurd (nI_le z (by omega)) q6
    refine x_aload_n C d_Ta_hasKeyAt_9 rfl rfl ?_
    refine x_iload_n C d_Ta_hasKeyAt_10 rfl rfl ?_
    refine x_iload_n C d_Ta_hasKeyAt_11 rfl rfl ?_
    refine x_callV C l_Ta_38 v_Ta_keyAt d_Ta_hasKeyAt_12 (m_Ta_keyAt ⟨fB, fce, fco, fsr⟩ (t := t) (p := nI j) (a := (S t + j) * 6) (by omega) (by omega) (by rw [hs0, cell_eq])) fB rfl (by rfl) (by rfl) (by decide) (by decide) (Nat.le_of_ble_eq_true rfl) ?_
    rintro v h' ⟨rfl, rfl⟩
    refine x_iload_n C d_Ta_hasKeyAt_15 rfl rfl ?_
    refine x_icmp_ne (tgt := 23) C d_Ta_hasKeyAt_16 rfl (fun q16 => ?_) (fun q16 => ?_)
    · skip
      refine x_iconst (v := 0) C d_Ta_hasKeyAt_23 (by decide) ?_
      refine x_zret C d_Ta_hasKeyAt_24 (by rfl) ?_
      exact ⟨rfl, by simp [bI, *]⟩
    · skip
      refine x_iconst (v := 1) C d_Ta_hasKeyAt_19 (by decide) ?_
      refine x_goto (tgt := 24) C d_Ta_hasKeyAt_20 rfl ?_
      refine x_zret C d_Ta_hasKeyAt_24 (by rfl) ?_
      exact ⟨rfl, by simp [bI, *]⟩
set_option maxRecDepth 20000 in
set_option maxHeartbeats 1000000 in
theorem m_Ta_placeNearest {V : xV} {h : xH} {B ce co sr : Nat} {f c s : Nat → Int32} (pT : pTa V h B ce co sr f c s) {S : Nat → Nat} (hS : pS s S) {t : Nat} (ht : t < 10) (k u : Int32) : xM V y_Ta_placeNearest b_Ta_placeNearest 5 (some .int) 3 [.ref B, .int (nI t), .int k, .int u] h 0 0 (fun v h' => h' = h ∧ ∃ p, pNB (fun j => f ((S t + j) * 6)) (S (t + 1) - S t) k p ∧ v = some (.int (nearP (fun j => f ((S t + j) * 6)) (S (t + 1) - S t) k u p))) := by
  refine xM_of false (by decide) (fun h => nomatch h) (Nat.le_of_ble_eq_true rfl) (fun K C => ?_)
  show K 0 0 h 0 [(0, .ref B), (1, .int (nI t)), (2, .int k), (3, .int u)] []
  obtain ⟨fB, fce, fco, fsr⟩ := pT
  have hs0 := hS.1 t (by omega)
  have hl1 := hS.le (t + 1) (by omega)
  have hl2 := hS.2.1 t ht
  refine x_aload_n C d_Ta_placeNearest_0 rfl rfl ?_
  refine x_iload_n C d_Ta_placeNearest_1 rfl rfl ?_
  refine x_iload_n C d_Ta_placeNearest_2 rfl rfl ?_
  refine x_callV C l_Ta_41 v_Ta_placeNotBelow d_Ta_placeNearest_3 (m_Ta_placeNotBelow ⟨fB, fce, fco, fsr⟩ hS ht k) fB rfl (by rfl) (by rfl) (by decide) (by decide) (Nat.le_of_ble_eq_true rfl) ?_
  rintro v h' ⟨rfl, p, rfl, hp⟩
  have hp1 := hp.1
  refine x_istore (lv' := [(4, _), (0, _), (1, _), (2, _), (3, _)]) C d_Ta_placeNearest_6 (by decide) (by rfl) ?_
  refine x_iload_n C d_Ta_placeNearest_8 rfl rfl ?_
  refine x_if_eq (tgt := 29) C d_Ta_placeNearest_9 rfl (fun q9 => ?_) (fun q9 => ?_)
  · skip
    refine x_aload_n C d_Ta_placeNearest_29 rfl rfl ?_
    refine x_iload_n C d_Ta_placeNearest_30 rfl rfl ?_
    refine x_iload C d_Ta_placeNearest_31 rfl ?_
    refine x_iload_n C d_Ta_placeNearest_33 rfl rfl ?_
    refine x_callV C l_Ta_44 v_Ta_hasKeyAt d_Ta_placeNearest_34 (m_Ta_hasKeyAt ⟨fB, fce, fco, fsr⟩ hS ht (j := p) (by omega) k) fB rfl (by rfl) (by rfl) (by decide) (by decide) (Nat.le_of_ble_eq_true rfl) ?_
    rintro v h' ⟨rfl, rfl⟩
    refine x_if_eq (tgt := 43) C d_Ta_placeNearest_37 rfl (fun q37 => ?_) (fun q37 => ?_)
    · skip
      replace q37 := bI_f q37
      have hk : ¬ (p < S (t + 1) - S t ∧ f ((S t + p) * 6) = k) := fun z => by simp [z.1, z.2] at q37
      refine x_iload C d_Ta_placeNearest_43 rfl ?_
      refine x_if_le (tgt := 55) C d_Ta_placeNearest_45 rfl (fun q45 => ?_) (fun q45 => ?_)
      · skip
        have hp0 : ¬ 0 < p := fun z => absurd q45 (nI_nle z (by omega))
        refine x_iconst (v := -1) C d_Ta_placeNearest_55 (by decide) ?_
        refine x_iret C d_Ta_placeNearest_56 ?_
        refine ⟨rfl, p, hp, ?_⟩
        unfold nearP
        rw [if_pos q9, if_neg hk]
        first | rw [if_neg hp0] | (rw [if_pos hp0]; obtain ⟨p', rfl⟩ : ∃ p', p = p' + 1 := ⟨p - 1, by omega⟩; rw [nI_pred]; rfl)
      · skip
        have hp0 : 0 < p := by rcases Nat.eq_zero_or_pos p with z | z; exact absurd (by rw [z]; decide) q45; exact z
        refine x_iload C d_Ta_placeNearest_48 rfl ?_
        refine x_iconst (v := 1) C d_Ta_placeNearest_50 (by decide) ?_
        refine x_isub C d_Ta_placeNearest_51 ?_
        refine x_goto (tgt := 56) C d_Ta_placeNearest_52 rfl ?_
        refine x_iret C d_Ta_placeNearest_56 ?_
        refine ⟨rfl, p, hp, ?_⟩
        unfold nearP
        rw [if_pos q9, if_neg hk]
        first | rw [if_neg hp0] | (rw [if_pos hp0]; obtain ⟨p', rfl⟩ : ∃ p', p = p' + 1 := ⟨p - 1, by omega⟩; rw [nI_pred]; rfl)
    · skip
      replace q37 := bI_t q37
      have hk : p < S (t + 1) - S t ∧ f ((S t + p) * 6) = k := by simpa using q37
      refine x_iload C d_Ta_placeNearest_40 rfl ?_
      refine x_iret C d_Ta_placeNearest_42 ?_
      refine ⟨rfl, p, hp, ?_⟩
      unfold nearP
      rw [if_pos q9, if_pos hk]
  · skip
    refine x_iload C d_Ta_placeNearest_12 rfl ?_
    refine x_aload_n C d_Ta_placeNearest_14 rfl rfl ?_
    refine x_iload_n C d_Ta_placeNearest_15 rfl rfl ?_
    refine x_callV C l_Ta_35 v_Ta_rowsOf d_Ta_placeNearest_16 (m_Ta_rowsOf ⟨fB, fce, fco, fsr⟩ (nI t)) fB rfl (by rfl) (by rfl) (by decide) (by decide) (Nat.le_of_ble_eq_true rfl) ?_
    rintro v h' ⟨rfl, rfl⟩
    rw [hS.row ht]
    refine x_icmp_ge (tgt := 27) C d_Ta_placeNearest_19 rfl (fun q19 => ?_) (fun q19 => ?_)
    · skip
      have hn := nge_of q19 (by omega)
      refine x_iconst (v := -1) C d_Ta_placeNearest_27 (by decide) ?_
      refine x_iret C d_Ta_placeNearest_28 ?_
      refine ⟨rfl, p, hp, ?_⟩
      unfold nearP
      rw [if_neg q9]
      first | rw [if_pos hn] | rw [if_neg (by omega)]
    · skip
      have hn := nlt_of q19 (by omega) (by omega)
      refine x_iload C d_Ta_placeNearest_22 rfl ?_
      refine x_goto (tgt := 28) C d_Ta_placeNearest_24 rfl ?_
      refine x_iret C d_Ta_placeNearest_28 ?_
      refine ⟨rfl, p, hp, ?_⟩
      unfold nearP
      rw [if_neg q9]
      first | rw [if_pos hn] | rw [if_neg (by omega)]
set_option maxRecDepth 20000 in
set_option maxHeartbeats 1000000 in
theorem m_Ta_create {V : xV} {h : xH} {B ce co sr : Nat} {f c s : Nat → Int32} (pT : pTa V h B ce co sr f c s) {t : Nat} (ht : t < 10) (k : Int32) : xM V y_Ta_create b_Ta_create 3 (some .int) 2 [.ref B, .int (nI t), .int k] h 0 0 (fun v h' => (v = some (.int (-3)) ∧ ¬ colOf c (nI t) ≤ 0 ∧ h' = h) ∨ (v = some (.int 0) ∧ colOf c (nI t) ≤ 0 ∧ h' = va_up h co (some (xI V 10 (upd c t k))))) := by
  refine xM_of false (by decide) (fun h => nomatch h) (Nat.le_of_ble_eq_true rfl) (fun K C => ?_)
  show K 0 0 h 0 [(0, .ref B), (1, .int (nI t)), (2, .int k)] []
  obtain ⟨fB, fce, fco, fsr⟩ := pT
  refine x_aload_n C d_Ta_create_0 rfl rfl ?_
  refine x_iload_n C d_Ta_create_1 rfl rfl ?_
  refine x_callV C l_Ta_48 v_Ta_isThere d_Ta_create_2 (m_Ta_isThere ⟨fB, fce, fco, fsr⟩ (nI t)) fB rfl (by rfl) (by rfl) (by decide) (by decide) (Nat.le_of_ble_eq_true rfl) ?_
  rintro v h' ⟨rfl, rfl⟩
  refine x_if_eq (tgt := 11) C d_Ta_create_5 rfl (fun q5 => ?_) (fun q5 => ?_)
  · skip
    replace q5 := bI_f q5
    refine x_aload_n C d_Ta_create_11 rfl rfl ?_
    refine x_get C k_Ta f_Ta_15 d_Ta_create_12 fB (by rfl) ?_
    refine x_iload_n C d_Ta_create_15 rfl rfl ?_
    refine x_iload_n C d_Ta_create_16 rfl rfl ?_
    refine x_iast C d_Ta_create_17 fco (vp_in_nI ht (by decide)) (fun h1 u1 => ?_)
    have fB := xUp_ne u1 fB (by first | assumption | exact Ne.symm (by assumption) | exact x_ne fB fco (by simp))
    have fce := xUp_ne u1 fce (by first | assumption | exact Ne.symm (by assumption) | exact x_ne fce fco (by simp))
    have fsr := xUp_ne u1 fsr (by first | assumption | exact Ne.symm (by assumption) | exact x_ne fsr fco (by simp))
    have fco := xUp_at u1
    refine x_iconst (v := 0) C d_Ta_create_18 (by decide) ?_
    refine x_iret C d_Ta_create_19 ?_
    refine Or.inr ⟨rfl, by simpa using q5, ?_⟩
    rw [u1, nI_clamp (by omega)]
  · skip
    replace q5 := bI_t q5
    refine x_bipush (v := -3) C d_Ta_create_8 (by decide) ?_
    refine x_iret C d_Ta_create_10 ?_
    exact Or.inl ⟨rfl, by simpa using q5, rfl⟩
set_option maxRecDepth 20000 in
set_option maxHeartbeats 1000000 in
theorem m_Ta_moveStartsBehind {V : xV} {h : xH} {B ce co sr : Nat} {f c s : Nat → Int32} (pT : pTa V h B ce co sr f c s) {t : Nat} (ht : t < 10) (k : Int32) : xM V y_Ta_moveStartsBehind b_Ta_moveStartsBehind 4 none 0 [.ref B, .int (nI t), .int k] h 0 0 (fun v h' => v = none ∧ ∃ s', pTa V h' B ce co sr f c s' ∧ (∀ i, s' i = if t < i ∧ i < 11 then s i + k else s i) ∧ xKeep [sr] h h') := by
  refine xM_of false (by decide) (fun h => nomatch h) (Nat.le_of_ble_eq_true rfl) (fun K C => ?_)
  show K 0 0 h 0 [(0, .ref B), (1, .int (nI t)), (2, .int k)] []
  have kp : xKeep [sr] h h := xKeep.rf
  obtain ⟨fB, fce, fco, fsr⟩ := pT
  have loop : ∀ m : Nat, ∀ (j : Nat) (h1 : xH) (s1 : Nat → Int32), 11 - j < m → t < j → j ≤ 11 → pTa V h1 B ce co sr f c s1 → xKeep [sr] h h1 → (∀ i, s1 i = if t < i ∧ i < j then s i + k else s i) → K 0 0 h1 4 [(3, .int (nI j)), (0, .ref B), (1, .int (nI t)), (2, .int k)] [] := by
    intro m
    induction m with
    | zero => intro j h1 s1 hm hj hj2 pT kp hs1; omega
    | succ m ih =>
      intro j h1 s1 hm hj hj2 pT kp hs1
      obtain ⟨fB, fce, fco, fsr⟩ := pT
      refine x_iload_n C d_Ta_moveStartsBehind_4 rfl rfl ?_
      refine x_bipush (v := 10) C d_Ta_moveStartsBehind_5 (by decide) ?_
      refine x_icmp_gt (tgt := 26) C d_Ta_moveStartsBehind_7 rfl (fun q7 => ?_) (fun q7 => ?_)
      · skip
        have hj10 : 10 < j := llt_of (a := 10) (b := j) q7 (by decide)
        refine x_vret C d_Ta_moveStartsBehind_26 ?_
        have hj11 : j = 11 := by omega
        subst hj11
        exact ⟨rfl, s1, ⟨fB, fce, fco, fsr⟩, hs1, kp⟩
      · skip
        have hj10 : j ≤ 10 := lge_of (b := j) (a := 10) q7 (by omega)
        refine x_aload_n C d_Ta_moveStartsBehind_10 rfl rfl ?_
        refine x_get C k_Ta f_Ta_18 d_Ta_moveStartsBehind_11 fB (by rfl) ?_
        refine x_iload_n C d_Ta_moveStartsBehind_14 rfl rfl ?_
        refine x_dup2 C d_Ta_moveStartsBehind_15 rfl rfl ?_
        refine x_iald C d_Ta_moveStartsBehind_16 fsr (vp_in_nI (by omega) (by decide)) ?_
        refine x_iload_n C d_Ta_moveStartsBehind_17 rfl rfl ?_
        refine x_iadd C d_Ta_moveStartsBehind_18 ?_
        refine x_iast C d_Ta_moveStartsBehind_19 fsr (vp_in_nI (by omega) (by decide)) (fun h1 u1 => ?_)
        have fB := xUp_ne u1 fB (by first | assumption | exact Ne.symm (by assumption) | exact x_ne fB fsr (by simp))
        have fce := xUp_ne u1 fce (by first | assumption | exact Ne.symm (by assumption) | exact x_ne fce fsr (by simp))
        have fco := xUp_ne u1 fco (by first | assumption | exact Ne.symm (by assumption) | exact x_ne fco fsr (by simp))
        have fsr := xUp_at u1
        have kp := kp.up u1 (by simp)
        refine x_iinc (v := nI (j + 1)) (k0 := 0) (lv' := [(3, _), (0, _), (1, _), (2, _)]) C d_Ta_moveStartsBehind_20 (by rfl) (nI_1 j) (by decide) (by rfl) ?_
        refine x_goto (tgt := 4) C d_Ta_moveStartsBehind_23 rfl ?_
        refine ih (j + 1) _ (upd s1 j (s1 j + k)) (by omega) (by omega) (by omega) ⟨fB, fce, fco, ?_⟩ kp (mv_step hs1 hj)
        rw [fsr, nI_clamp (by omega)]
  refine x_iload_n C d_Ta_moveStartsBehind_0 rfl rfl ?_
  refine x_iconst (v := 1) C d_Ta_moveStartsBehind_1 (by decide) ?_
  refine x_iadd C d_Ta_moveStartsBehind_2 ?_
  refine x_istore_n (lv' := [(3, _), (0, _), (1, _), (2, _)]) C d_Ta_moveStartsBehind_3 rfl (by decide) (by rfl) ?_
  rw [nI_1]
  exact loop 12 (t + 1) h s (by omega) (by omega) (by omega) ⟨fB, fce, fco, fsr⟩ xKeep.rf (fun i => by rw [if_neg (by omega)])
set_option maxRecDepth 20000 in
set_option maxHeartbeats 1000000 in
theorem m_Ta_insert {V : xV} {h : xH} {B ce co sr : Nat} {f c s : Nat → Int32} (pT : pTa V h B ce co sr f c s) {S : Nat → Nat} (hS : pS s S) {t : Nat} (ht : t < 10) {nb : Nat} {g : Nat → Int32} (fnb : h nb = some (xI V 6 g)) : xM V y_Ta_insert b_Ta_insert 5 (some .int) 3 [.ref B, .int (nI t), .ref nb] h 0 0 (fun v h' => ∃ p, pNB (fun j => f ((S t + j) * 6)) (S (t + 1) - S t) (g 0) p ∧ ((v = some (.int (-1)) ∧ (p < S (t + 1) - S t ∧ f ((S t + p) * 6) = g 0) ∧ h' = h) ∨ (v = some (.int (-2)) ∧ ¬ (p < S (t + 1) - S t ∧ f ((S t + p) * 6) = g 0) ∧ 400 ≤ S 10 ∧ h' = h) ∨ (v = some (.int 0) ∧ ¬ (p < S (t + 1) - S t ∧ f ((S t + p) * 6) = g 0) ∧ S 10 < 400 ∧ ∃ s', pTa V h' B ce co sr (va_cpy g (va_cpy f f ((S t + p) * 6) ((S t + p) * 6 + 6) (S 10 * 6 - (S t + p) * 6)) 0 ((S t + p) * 6) 6) c s' ∧ (∀ i, s' i = if t < i ∧ i < 11 then s i + 1 else s i) ∧ xKeep [ce, sr] h h'))) := by
  refine xM_of false (by decide) (fun h => nomatch h) (Nat.le_of_ble_eq_true rfl) (fun K C => ?_)
  show K 0 0 h 0 [(0, .ref B), (1, .int (nI t)), (2, .ref nb)] []
  have kp : xKeep [ce, sr] h h := xKeep.rf
  obtain ⟨fB, fce, fco, fsr⟩ := pT
  have hs0 := hS.1 t (by omega)
  have hl1 := hS.le (t + 1) (by omega)
  have hl2 := hS.2.1 t ht
  have hs10 := hS.1 10 (by omega)
  have hl10 := hS.2.2
  refine x_aload_n C d_Ta_insert_0 rfl rfl ?_
  refine x_iload_n C d_Ta_insert_1 rfl rfl ?_
  refine x_aload_n C d_Ta_insert_2 rfl rfl ?_
  refine x_iconst (v := 0) C d_Ta_insert_3 (by decide) ?_
  refine x_iald C d_Ta_insert_4 fnb (vp_in_nI (n := 0) (by decide) (by decide)) ?_
  refine x_callV C l_Ta_41 v_Ta_placeNotBelow d_Ta_insert_5 (m_Ta_placeNotBelow ⟨fB, fce, fco, fsr⟩ hS ht (g 0)) fB rfl (by rfl) (by rfl) (by decide) (by decide) (Nat.le_of_ble_eq_true rfl) ?_
  rintro v h' ⟨rfl, p, rfl, hp⟩
  have hp1 := hp.1
  refine x_istore_n (lv' := [(3, _), (0, _), (1, _), (2, _)]) C d_Ta_insert_8 rfl (by decide) (by rfl) ?_
  refine x_aload_n C d_Ta_insert_9 rfl rfl ?_
  refine x_iload_n C d_Ta_insert_10 rfl rfl ?_
  refine x_iload_n C d_Ta_insert_11 rfl rfl ?_
  refine x_aload_n C d_Ta_insert_12 rfl rfl ?_
  refine x_iconst (v := 0) C d_Ta_insert_13 (by decide) ?_
  refine x_iald C d_Ta_insert_14 fnb (vp_in_nI (n := 0) (by decide) (by decide)) ?_
  refine x_callV C l_Ta_44 v_Ta_hasKeyAt d_Ta_insert_15 (m_Ta_hasKeyAt ⟨fB, fce, fco, fsr⟩ hS ht (j := p) (by omega) (g 0)) fB rfl (by rfl) (by rfl) (by decide) (by decide) (Nat.le_of_ble_eq_true rfl) ?_
  rintro v h' ⟨rfl, rfl⟩
  refine x_if_eq (tgt := 23) C d_Ta_insert_18 rfl (fun q18 => ?_) (fun q18 => ?_)
  · skip
    replace q18 := bI_f q18
    have hk : ¬ (p < S (t + 1) - S t ∧ f ((S t + p) * 6) = g 0) := fun z => by simp [z.1, z.2] at q18
    refine x_aload_n C d_Ta_insert_23 rfl rfl ?_
    refine x_callV C l_Ta_52 v_Ta_rowsInAll d_Ta_insert_24 (m_Ta_rowsInAll ⟨fB, fce, fco, fsr⟩) fB rfl (by rfl) (by rfl) (by decide) (by decide) (Nat.le_of_ble_eq_true rfl) ?_
    rintro v h' ⟨rfl, rfl⟩
    rw [hs10]
    refine x_sipush (v := 400) C d_Ta_insert_27 (by decide) ?_
    refine x_icmp_lt (tgt := 36) C d_Ta_insert_30 rfl (fun q30 => ?_) (fun q30 => ?_)
    · skip
      have hfull : S 10 < 400 := llt_of (b := 400) q30 (by omega)
      have hle : (S t + p) * 6 ≤ S 10 * 6 := by have := hS.mono (t + 1) 10 (by omega) (by omega); omega
      have hdp : nI ((S t + p) * 6) + 6 = nI ((S t + p) * 6 + 6) := nI_add _ 6
      have hln : nI (S 10) * 6 - nI ((S t + p) * 6) = nI (S 10 * 6 - (S t + p) * 6) := by rw [show nI (S 10) * 6 = nI (S 10 * 6) from pk_mul (S 10) 6, pk_sub hle]
      refine x_aload_n C d_Ta_insert_36 rfl rfl ?_
      refine x_iload_n C d_Ta_insert_37 rfl rfl ?_
      refine x_iload_n C d_Ta_insert_38 rfl rfl ?_
      refine x_callV C l_Ta_25 v_Ta_cellOf d_Ta_insert_39 (m_Ta_cellOf ⟨fB, fce, fco, fsr⟩ (t := t) (by omega) (nI p)) fB rfl (by rfl) (by rfl) (by decide) (by decide) (Nat.le_of_ble_eq_true rfl) ?_
      rintro v h' ⟨rfl, rfl⟩
      rw [hs0, cell_eq]
      refine x_istore (lv' := [(4, _), (3, _), (0, _), (1, _), (2, _)]) C d_Ta_insert_42 (by decide) (by rfl) ?_
      refine x_aload_n C d_Ta_insert_44 rfl rfl ?_
      refine x_get C k_Ta f_Ta_9 d_Ta_insert_45 fB (by rfl) ?_
      refine x_iload C d_Ta_insert_48 rfl ?_
      refine x_aload_n C d_Ta_insert_50 rfl rfl ?_
      refine x_get C k_Ta f_Ta_9 d_Ta_insert_51 fB (by rfl) ?_
      refine x_iload C d_Ta_insert_54 rfl ?_
      refine x_bipush (v := 6) C d_Ta_insert_56 (by decide) ?_
      refine x_iadd C d_Ta_insert_58 ?_
      refine x_aload_n C d_Ta_insert_59 rfl rfl ?_
      refine x_callV C l_Ta_52 v_Ta_rowsInAll d_Ta_insert_60 (m_Ta_rowsInAll ⟨fB, fce, fco, fsr⟩) fB rfl (by rfl) (by rfl) (by decide) (by decide) (Nat.le_of_ble_eq_true rfl) ?_
      rintro v h' ⟨rfl, rfl⟩
      rw [hs10]
      refine x_bipush (v := 6) C d_Ta_insert_63 (by decide) ?_
      refine x_imul C d_Ta_insert_65 ?_
      refine x_iload C d_Ta_insert_66 rfl ?_
      refine x_isub C d_Ta_insert_68 ?_
      refine x_copy C ⟨l_Ta_29, acp.1, acp.2.1, acp.2.2⟩ (by decide) (Nat.le_of_ble_eq_true rfl) fce fce (nI_pos (by omega)) (by rw [hdp]; exact nI_pos (by omega)) (by rw [hln]; exact nI_pos (by omega)) (by rw [hln, nI_clamp (by omega), nI_clamp (by omega)]; omega) (by rw [hln, hdp, nI_clamp (by omega), nI_clamp (by omega)]; omega) d_Ta_insert_69 (fun h1 u1 => ?_)
      have fB := xUp_ne u1 fB (by first | assumption | exact Ne.symm (by assumption) | exact x_ne fB fce (by simp))
      have fco := xUp_ne u1 fco (by first | assumption | exact Ne.symm (by assumption) | exact x_ne fco fce (by simp))
      have fsr := xUp_ne u1 fsr (by first | assumption | exact Ne.symm (by assumption) | exact x_ne fsr fce (by simp))
      have fnb := xUp_ne u1 fnb (by first | assumption | exact Ne.symm (by assumption) | exact x_ne fnb fce (by simp))
      have fce := xUp_at u1
      have kp := kp.up u1 (by simp)
      refine x_aload_n C d_Ta_insert_72 rfl rfl ?_
      refine x_iconst (v := 0) C d_Ta_insert_73 (by decide) ?_
      refine x_aload_n C d_Ta_insert_74 rfl rfl ?_
      refine x_get C k_Ta f_Ta_9 d_Ta_insert_75 fB (by rfl) ?_
      refine x_iload C d_Ta_insert_78 rfl ?_
      refine x_bipush (v := 6) C d_Ta_insert_80 (by decide) ?_
      refine x_copy C ⟨l_Ta_29, acp.1, acp.2.1, acp.2.2⟩ (by decide) (Nat.le_of_ble_eq_true rfl) fnb fce (by decide) (nI_pos (by omega)) (by decide) (by decide) (by rw [nI_clamp (by omega)]; show (S t + p) * 6 + 6 ≤ 2400; omega) d_Ta_insert_82 (fun h2 u2 => ?_)
      have fB := xUp_ne u2 fB (by first | assumption | exact Ne.symm (by assumption) | exact x_ne fB fce (by simp))
      have fco := xUp_ne u2 fco (by first | assumption | exact Ne.symm (by assumption) | exact x_ne fco fce (by simp))
      have fsr := xUp_ne u2 fsr (by first | assumption | exact Ne.symm (by assumption) | exact x_ne fsr fce (by simp))
      have fnb := xUp_ne u2 fnb (by first | assumption | exact Ne.symm (by assumption) | exact x_ne fnb fce (by simp))
      have fce := xUp_at u2
      have kp := kp.up u2 (by simp)
      refine x_aload_n C d_Ta_insert_85 rfl rfl ?_
      refine x_iload_n C d_Ta_insert_86 rfl rfl ?_
      refine x_iconst (v := 1) C d_Ta_insert_87 (by decide) ?_
      refine x_callV C l_Ta_56 v_Ta_moveStartsBehind d_Ta_insert_88 (m_Ta_moveStartsBehind ⟨fB, fce, fco, fsr⟩ ht 1) fB rfl (by rfl) (by rfl) (by decide) (by decide) (Nat.le_of_ble_eq_true rfl) ?_
      rintro v h' ⟨rfl, s', pT', hs', kp'⟩
      have kp := kp.tr (kp'.mono (by simp))
      refine x_iconst (v := 0) C d_Ta_insert_91 (by decide) ?_
      refine x_iret C d_Ta_insert_92 ?_
      rw [hdp, hln, nI_clamp (by omega), nI_clamp (by omega), nI_clamp (by omega)] at pT'
      exact ⟨p, hp, Or.inr (Or.inr ⟨rfl, hk, hfull, s', pT', hs', kp⟩)⟩
    · skip
      have hfull : 400 ≤ S 10 := lge_of (b := 400) q30 (by decide)
      refine x_bipush (v := -2) C d_Ta_insert_33 (by decide) ?_
      refine x_iret C d_Ta_insert_35 ?_
      exact ⟨p, hp, Or.inr (Or.inl ⟨rfl, hk, hfull, rfl⟩)⟩
  · skip
    replace q18 := bI_t q18
    have hk : p < S (t + 1) - S t ∧ f ((S t + p) * 6) = g 0 := by simpa using q18
    refine x_iconst (v := -1) C d_Ta_insert_21 (by decide) ?_
    refine x_iret C d_Ta_insert_22 ?_
    exact ⟨p, hp, Or.inl ⟨rfl, hk, rfl⟩⟩
set_option maxRecDepth 20000 in
set_option maxHeartbeats 1000000 in
theorem m_Ta_remove {V : xV} {h : xH} {B ce co sr : Nat} {f c s : Nat → Int32} (pT : pTa V h B ce co sr f c s) {S : Nat → Nat} (hS : pS s S) {t : Nat} (ht : t < 10) {j : Nat} (hj : j < S (t + 1) - S t) : xM V y_Ta_remove b_Ta_remove 4 none 3 [.ref B, .int (nI t), .int (nI j)] h 0 0 (fun v h' => v = none ∧ ∃ s', pTa V h' B ce co sr (va_cpy f f ((S t + j + 1) * 6) ((S t + j + 1) * 6 - 6) (S 10 * 6 - (S t + j + 1) * 6)) c s' ∧ (∀ i, s' i = if t < i ∧ i < 11 then s i + (-1) else s i) ∧ xKeep [ce, sr] h h') := by
  refine xM_of false (by decide) (fun h => nomatch h) (Nat.le_of_ble_eq_true rfl) (fun K C => ?_)
  show K 0 0 h 0 [(0, .ref B), (1, .int (nI t)), (2, .int (nI j))] []
  have kp : xKeep [ce, sr] h h := xKeep.rf
  obtain ⟨fB, fce, fco, fsr⟩ := pT
  have hs0 := hS.1 t (by omega)
  have hl1 := hS.le (t + 1) (by omega)
  have hl2 := hS.2.1 t ht
  have hs10 := hS.1 10 (by omega)
  have hl10 := hS.2.2
  have hle : (S t + j + 1) * 6 ≤ S 10 * 6 := by have := hS.mono (t + 1) 10 (by omega) (by omega); omega
  have hdp : nI ((S t + j + 1) * 6) - 6 = nI ((S t + j + 1) * 6 - 6) := pk_sub (b := 6) (by omega)
  have hln : nI (S 10) * 6 - nI ((S t + j + 1) * 6) = nI (S 10 * 6 - (S t + j + 1) * 6) := by rw [show nI (S 10) * 6 = nI (S 10 * 6) from pk_mul (S 10) 6, pk_sub hle]
  refine x_aload_n C d_Ta_remove_0 rfl rfl ?_
  refine x_iload_n C d_Ta_remove_1 rfl rfl ?_
  refine x_iload_n C d_Ta_remove_2 rfl rfl ?_
  refine x_iconst (v := 1) C d_Ta_remove_3 (by decide) ?_
  refine x_iadd C d_Ta_remove_4 ?_
  refine x_callV C l_Ta_25 v_Ta_cellOf d_Ta_remove_5 (m_Ta_cellOf ⟨fB, fce, fco, fsr⟩ (t := t) (by omega) (nI j + 1)) fB rfl (by rfl) (by rfl) (by decide) (by decide) (Nat.le_of_ble_eq_true rfl) ?_
  rintro v h' ⟨rfl, rfl⟩
  rw [hs0, nI_1, cell_eq, show S t + (j + 1) = S t + j + 1 by omega]
  refine x_istore_n (lv' := [(3, _), (0, _), (1, _), (2, _)]) C d_Ta_remove_8 rfl (by decide) (by rfl) ?_
  refine x_aload_n C d_Ta_remove_9 rfl rfl ?_
  refine x_get C k_Ta f_Ta_9 d_Ta_remove_10 fB (by rfl) ?_
  refine x_iload_n C d_Ta_remove_13 rfl rfl ?_
  refine x_aload_n C d_Ta_remove_14 rfl rfl ?_
  refine x_get C k_Ta f_Ta_9 d_Ta_remove_15 fB (by rfl) ?_
  refine x_iload_n C d_Ta_remove_18 rfl rfl ?_
  refine x_bipush (v := 6) C d_Ta_remove_19 (by decide) ?_
  refine x_isub C d_Ta_remove_21 ?_
  refine x_aload_n C d_Ta_remove_22 rfl rfl ?_
  refine x_callV C l_Ta_52 v_Ta_rowsInAll d_Ta_remove_23 (m_Ta_rowsInAll ⟨fB, fce, fco, fsr⟩) fB rfl (by rfl) (by rfl) (by decide) (by decide) (Nat.le_of_ble_eq_true rfl) ?_
  rintro v h' ⟨rfl, rfl⟩
  rw [hs10]
  refine x_bipush (v := 6) C d_Ta_remove_26 (by decide) ?_
  refine x_imul C d_Ta_remove_28 ?_
  refine x_iload_n C d_Ta_remove_29 rfl rfl ?_
  refine x_isub C d_Ta_remove_30 ?_
  refine x_copy C ⟨l_Ta_29, acp.1, acp.2.1, acp.2.2⟩ (by decide) (Nat.le_of_ble_eq_true rfl) fce fce (nI_pos (by omega)) (by rw [hdp]; exact nI_pos (by omega)) (by rw [hln]; exact nI_pos (by omega)) (by rw [hln, nI_clamp (by omega), nI_clamp (by omega)]; omega) (by rw [hln, hdp, nI_clamp (by omega), nI_clamp (by omega)]; omega) d_Ta_remove_31 (fun h1 u1 => ?_)
  have fB := xUp_ne u1 fB (by first | assumption | exact Ne.symm (by assumption) | exact x_ne fB fce (by simp))
  have fco := xUp_ne u1 fco (by first | assumption | exact Ne.symm (by assumption) | exact x_ne fco fce (by simp))
  have fsr := xUp_ne u1 fsr (by first | assumption | exact Ne.symm (by assumption) | exact x_ne fsr fce (by simp))
  have fce := xUp_at u1
  have kp := kp.up u1 (by simp)
  refine x_aload_n C d_Ta_remove_34 rfl rfl ?_
  refine x_iload_n C d_Ta_remove_35 rfl rfl ?_
  refine x_iconst (v := -1) C d_Ta_remove_36 (by decide) ?_
  refine x_callV C l_Ta_56 v_Ta_moveStartsBehind d_Ta_remove_37 (m_Ta_moveStartsBehind ⟨fB, fce, fco, fsr⟩ ht (-1)) fB rfl (by rfl) (by rfl) (by decide) (by decide) (Nat.le_of_ble_eq_true rfl) ?_
  rintro v h' ⟨rfl, s', pT', hs', kp'⟩
  have kp := kp.tr (kp'.mono (by simp))
  refine x_vret C d_Ta_remove_40 ?_
  rw [hdp, hln, nI_clamp (by omega), nI_clamp (by omega), nI_clamp (by omega)] at pT'
  exact ⟨rfl, s', pT', hs', kp⟩
set_option maxRecDepth 20000 in
set_option maxHeartbeats 1000000 in
theorem m_Ta_drop {V : xV} {h : xH} {B ce co sr : Nat} {f c s : Nat → Int32} (pT : pTa V h B ce co sr f c s) : xM V y_Ta_drop b_Ta_drop 2 none 0 [.ref B] h 0 0 (fun v h' => v = none ∧ ∃ c' s', pTa V h' B ce co sr f c' s' ∧ (∀ i, i < 10 → c' i = 0) ∧ (∀ i, 1 ≤ i → i < 11 → s' i = 0) ∧ s' 0 = s 0 ∧ xKeep [co, sr] h h') := by
  refine xM_of false (by decide) (fun h => nomatch h) (Nat.le_of_ble_eq_true rfl) (fun K C => ?_)
  show K 0 0 h 0 [(0, .ref B)] []
  have kp : xKeep [co, sr] h h := xKeep.rf
  obtain ⟨fB, fce, fco, fsr⟩ := pT
  have loop : ∀ m : Nat, ∀ (j : Nat) (h1 : xH) (c1 s1 : Nat → Int32), 10 - j < m → j ≤ 10 → pTa V h1 B ce co sr f c1 s1 → (∀ i, i < j → c1 i = 0) → (∀ i, 1 ≤ i → i < j + 1 → s1 i = 0) → s1 0 = s 0 → xKeep [co, sr] h h1 → K 0 0 h1 2 [(1, .int (nI j)), (0, .ref B)] [] := by
    intro m
    induction m with
    | zero => intro j h1 c1 s1 hm hj pT hc1 hs1 hs0 kp; omega
    | succ m ih =>
      intro j h1 c1 s1 hm hj pT hc1 hs1 hs0 kp
      obtain ⟨fB, fce, fco, fsr⟩ := pT
      refine x_iload_n C d_Ta_drop_2 rfl rfl ?_
      refine x_bipush (v := 10) C d_Ta_drop_3 (by decide) ?_
      refine x_icmp_ge (tgt := 30) C d_Ta_drop_5 rfl (fun q5 => ?_) (fun q5 => ?_)
      · skip
        have hj10 : 10 ≤ j := nge_of (b := 10) q5 (by decide)
        refine x_vret C d_Ta_drop_30 ?_
        have hj11 : j = 10 := by omega
        subst hj11
        exact ⟨rfl, c1, s1, ⟨fB, fce, fco, fsr⟩, hc1, hs1, hs0, kp⟩
      · skip
        have hj10 : j < 10 := nlt_of (b := 10) q5 (by decide) (by omega)
        refine x_aload_n C d_Ta_drop_8 rfl rfl ?_
        refine x_get C k_Ta f_Ta_15 d_Ta_drop_9 fB (by rfl) ?_
        refine x_iload_n C d_Ta_drop_12 rfl rfl ?_
        refine x_iconst (v := 0) C d_Ta_drop_13 (by decide) ?_
        refine x_iast C d_Ta_drop_14 fco (vp_in_nI (by omega) (by decide)) (fun h1 u1 => ?_)
        have fB := xUp_ne u1 fB (by first | assumption | exact Ne.symm (by assumption) | exact x_ne fB fco (by simp))
        have fce := xUp_ne u1 fce (by first | assumption | exact Ne.symm (by assumption) | exact x_ne fce fco (by simp))
        have fsr := xUp_ne u1 fsr (by first | assumption | exact Ne.symm (by assumption) | exact x_ne fsr fco (by simp))
        have fco := xUp_at u1
        have kp := kp.up u1 (by simp)
        refine x_aload_n C d_Ta_drop_15 rfl rfl ?_
        refine x_get C k_Ta f_Ta_18 d_Ta_drop_16 fB (by rfl) ?_
        refine x_iload_n C d_Ta_drop_19 rfl rfl ?_
        refine x_iconst (v := 1) C d_Ta_drop_20 (by decide) ?_
        refine x_iadd C d_Ta_drop_21 ?_
        refine x_iconst (v := 0) C d_Ta_drop_22 (by decide) ?_
        refine x_iast C d_Ta_drop_23 fsr (by rw [nI_1]; exact vp_in_nI (by omega) (by decide)) (fun h2 u2 => ?_)
        have fB := xUp_ne u2 fB (by first | assumption | exact Ne.symm (by assumption) | exact x_ne fB fsr (by simp))
        have fce := xUp_ne u2 fce (by first | assumption | exact Ne.symm (by assumption) | exact x_ne fce fsr (by simp))
        have fco := xUp_ne u2 fco (by first | assumption | exact Ne.symm (by assumption) | exact x_ne fco fsr (by simp))
        have fsr := xUp_at u2
        have kp := kp.up u2 (by simp)
        refine x_iinc (v := nI (j + 1)) (k0 := 0) (lv' := [(1, _), (0, _)]) C d_Ta_drop_24 (by rfl) (nI_1 j) (by decide) (by rfl) ?_
        refine x_goto (tgt := 2) C d_Ta_drop_27 rfl ?_
        refine ih (j + 1) _ (upd c1 j 0) (upd s1 (j + 1) 0) (by omega) (by omega) ⟨fB, fce, ?_, ?_⟩ (lt_s (fun i hi => by rw [pk_un (by omega)]; exact hc1 i hi) pk_us) (fun i h1 h2 => ?_) (by rw [pk_un (by omega)]; exact hs0) kp
        · rw [fco, nI_clamp (by omega)]
        · rw [fsr, nI_1, nI_clamp (by omega)]
        · by_cases hi : i = j + 1
          · rw [hi]; exact pk_us
          · rw [pk_un hi]; exact hs1 i h1 (by omega)
  refine x_iconst (v := 0) C d_Ta_drop_0 (by decide) ?_
  refine x_istore_n (lv' := [(1, _), (0, _)]) C d_Ta_drop_1 rfl (by decide) (by rfl) ?_
  exact loop 11 0 h c s (by omega) (by omega) ⟨fB, fce, fco, fsr⟩ lt_0 (fun i h1 h2 => absurd h2 (by omega)) rfl xKeep.rf
set_option maxRecDepth 20000 in
set_option maxHeartbeats 1000000 in
theorem m_Ta_init {V : xV} {h : xH} {B : Nat} (fB : h B = some (.inr (5, [.null, .null, .null]))) : xM V y_Ta_init b_Ta_init 1 none 1 [.ref B] h 3 2421 (fun v h' => v = none ∧ ∃ ce co sr, pTa V h' B ce co sr (fun _ => 0) (fun _ => 0) (fun _ => 0) ∧ h ce = none ∧ h co = none ∧ h sr = none ∧ xKeep [B] h h') := by
  refine xM_of true (by decide) (fun _ => rfl) (Nat.le_of_ble_eq_true rfl) (fun K C => ?_)
  show K 3 2421 h 0 [(0, .ref B)] []
  have kp : xKeep [B] h h := xKeep.rf
  refine x_aload_n C d_Ta_init_0 rfl rfl ?_
  refine x_objInit C ⟨l_Ta_3, oi_i, oi_c⟩ (by decide) (Nat.le_of_ble_eq_true rfl) d_Ta_init_1 ?_
  refine x_aload_n C d_Ta_init_4 rfl rfl ?_
  refine x_sipush (v := 2400) C d_Ta_init_5 (by decide) ?_
  refine x_newI (N := 2400) C ac_int d_Ta_init_8 (by decide) (by decide) (by decide) (fun ce h1 n1 u1 => ?_)
  have x1_B := x_nn fB n1
  have fB := xUp_new u1 n1 fB
  have z_ce := kp.isn n1 (by simp only [List.mem_cons, List.not_mem_nil, or_false, not_or]; exact Ne.symm x1_B)
  have kp := kp.upN u1 z_ce
  have f_ce := xUp_at u1
  refine x_putF (fs' := [_, _, _]) C k_Ta g_Ta_9 d_Ta_init_10 fB (by rfl) (by rfl) (by rfl) (Nat.le_of_ble_eq_true rfl) (by rfl) (fun h2 u2 => ?_)
  have f_ce := xUp_ne u2 f_ce (by first | assumption | exact Ne.symm (by assumption) | exact x_ne f_ce fB (by simp))
  have fB := xUp_at u2
  have kp := kp.up u2 (by simp)
  refine x_aload_n C d_Ta_init_13 rfl rfl ?_
  refine x_bipush (v := 10) C d_Ta_init_14 (by decide) ?_
  refine x_newI (N := 10) C ac_int d_Ta_init_16 (by decide) (by decide) (by decide) (fun co h3 n3 u3 => ?_)
  have x3_B := x_nn fB n3
  have x3_ce := x_nn f_ce n3
  have fB := xUp_new u3 n3 fB
  have f_ce := xUp_new u3 n3 f_ce
  have z_co := kp.isn n3 (by simp only [List.mem_cons, List.not_mem_nil, or_false, not_or]; exact Ne.symm x3_B)
  have kp := kp.upN u3 z_co
  have f_co := xUp_at u3
  refine x_putF (fs' := [_, _, _]) C k_Ta g_Ta_15 d_Ta_init_18 fB (by rfl) (by rfl) (by rfl) (Nat.le_of_ble_eq_true rfl) (by rfl) (fun h4 u4 => ?_)
  have f_ce := xUp_ne u4 f_ce (by first | assumption | exact Ne.symm (by assumption) | exact x_ne f_ce fB (by simp))
  have f_co := xUp_ne u4 f_co (by first | assumption | exact Ne.symm (by assumption) | exact x_ne f_co fB (by simp))
  have fB := xUp_at u4
  have kp := kp.up u4 (by simp)
  refine x_aload_n C d_Ta_init_21 rfl rfl ?_
  refine x_bipush (v := 11) C d_Ta_init_22 (by decide) ?_
  refine x_newI (N := 11) C ac_int d_Ta_init_24 (by decide) (by decide) (by decide) (fun sr h5 n5 u5 => ?_)
  have x5_B := x_nn fB n5
  have x5_ce := x_nn f_ce n5
  have x5_co := x_nn f_co n5
  have fB := xUp_new u5 n5 fB
  have f_ce := xUp_new u5 n5 f_ce
  have f_co := xUp_new u5 n5 f_co
  have z_sr := kp.isn n5 (by simp only [List.mem_cons, List.not_mem_nil, or_false, not_or]; exact Ne.symm x5_B)
  have kp := kp.upN u5 z_sr
  have f_sr := xUp_at u5
  refine x_putF (fs' := [_, _, _]) C k_Ta g_Ta_18 d_Ta_init_26 fB (by rfl) (by rfl) (by rfl) (Nat.le_of_ble_eq_true rfl) (by rfl) (fun h6 u6 => ?_)
  have f_ce := xUp_ne u6 f_ce (by first | assumption | exact Ne.symm (by assumption) | exact x_ne f_ce fB (by simp))
  have f_co := xUp_ne u6 f_co (by first | assumption | exact Ne.symm (by assumption) | exact x_ne f_co fB (by simp))
  have f_sr := xUp_ne u6 f_sr (by first | assumption | exact Ne.symm (by assumption) | exact x_ne f_sr fB (by simp))
  have fB := xUp_at u6
  have kp := kp.up u6 (by simp)
  refine x_vret C d_Ta_init_29 ?_
  exact ⟨rfl, ce, co, sr, ⟨fB, f_ce, f_co, f_sr⟩, z_ce, z_co, z_sr, kp⟩
end
section
/-! CursorBase$Statement -/
set_option maxRecDepth 20000 in
set_option maxHeartbeats 1000000 in
theorem m_St_hasTotal {V : xV} {h : xH} {S nb pk cd : Nat} {vb ls fi se fa nc np kc : Int32} (fS : h S = some (oSt vb ls fi se fa nc nb np pk kc cd)) : xM V y_St_hasTotal b_St_hasTotal 1 (some .boolean) 0 [.ref S] h 0 0 (fun v h' => h' = h ∧ v = some (.int (bI (decide (ls = 5) || decide (ls = 6))))) := by
  refine xM_of false (by decide) (fun h => nomatch h) (Nat.le_of_ble_eq_true rfl) (fun K C => ?_)
  show K 0 0 h 0 [(0, .ref S)] []
  refine x_aload_n C d_St_hasTotal_0 rfl rfl ?_
  refine x_get C k_St f_St_9 d_St_hasTotal_1 fS (by rfl) ?_
  refine x_iconst (v := 5) C d_St_hasTotal_4 (by decide) ?_
  refine x_icmp_eq (tgt := 17) C d_St_hasTotal_5 rfl (fun q5 => ?_) (fun q5 => ?_)
  · skip
    refine x_iconst (v := 1) C d_St_hasTotal_17 (by decide) ?_
    refine x_goto (tgt := 22) C d_St_hasTotal_18 rfl ?_
    refine x_zret C d_St_hasTotal_22 (by rfl) ?_
    exact ⟨rfl, by simp [bI, *]⟩
  · skip
    refine x_aload_n C d_St_hasTotal_8 rfl rfl ?_
    refine x_get C k_St f_St_9 d_St_hasTotal_9 fS (by rfl) ?_
    refine x_bipush (v := 6) C d_St_hasTotal_12 (by decide) ?_
    refine x_icmp_ne (tgt := 21) C d_St_hasTotal_14 rfl (fun q14 => ?_) (fun q14 => ?_)
    · skip
      refine x_iconst (v := 0) C d_St_hasTotal_21 (by decide) ?_
      refine x_zret C d_St_hasTotal_22 (by rfl) ?_
      exact ⟨rfl, by simp [bI, *]⟩
    · skip
      refine x_iconst (v := 1) C d_St_hasTotal_17 (by decide) ?_
      refine x_goto (tgt := 22) C d_St_hasTotal_18 rfl ?_
      refine x_zret C d_St_hasTotal_22 (by rfl) ?_
      exact ⟨rfl, by simp [bI, *]⟩
set_option maxRecDepth 20000 in
set_option maxHeartbeats 1000000 in
theorem m_St_columnCount {V : xV} {h : xH} {S nb pk cd : Nat} {vb ls fi se fa nc np kc : Int32} (fS : h S = some (oSt vb ls fi se fa nc nb np pk kc cd)) : xM V y_St_columnCount b_St_columnCount 1 (some .int) 1 [.ref S] h 0 0 (fun v h' => h' = h ∧ v = some (.int (if ls = 5 ∨ ls = 6 then 1 else np))) := by
  refine xM_of false (by decide) (fun h => nomatch h) (Nat.le_of_ble_eq_true rfl) (fun K C => ?_)
  show K 0 0 h 0 [(0, .ref S)] []
  refine x_aload_n C d_St_columnCount_0 rfl rfl ?_
  refine x_callV C l_St_80 v_St_hasTotal d_St_columnCount_1 (m_St_hasTotal fS) fS rfl (by rfl) (by rfl) (by decide) (by decide) (Nat.le_of_ble_eq_true rfl) ?_
  rintro v h' ⟨rfl, rfl⟩
  refine x_if_eq (tgt := 11) C d_St_columnCount_4 rfl (fun q4 => ?_) (fun q4 => ?_)
  · skip
    replace q4 := bI_f q4
    refine x_aload_n C d_St_columnCount_11 rfl rfl ?_
    refine x_get C k_St f_St_40 d_St_columnCount_12 fS (by rfl) ?_
    refine x_iret C d_St_columnCount_15 ?_
    refine ⟨rfl, ?_⟩
    simp only [Bool.or_eq_true, Bool.or_eq_false_iff, decide_eq_true_eq, decide_eq_false_iff_not] at q4
    first | rw [if_pos q4] | rw [if_neg (fun z => z.elim q4.1 q4.2)]
  · skip
    replace q4 := bI_t q4
    refine x_iconst (v := 1) C d_St_columnCount_7 (by decide) ?_
    refine x_goto (tgt := 15) C d_St_columnCount_8 rfl ?_
    refine x_iret C d_St_columnCount_15 ?_
    refine ⟨rfl, ?_⟩
    simp only [Bool.or_eq_true, Bool.or_eq_false_iff, decide_eq_true_eq, decide_eq_false_iff_not] at q4
    first | rw [if_pos q4] | rw [if_neg (fun z => z.elim q4.1 q4.2)]
set_option maxRecDepth 20000 in
set_option maxHeartbeats 1000000 in
theorem m_St_addNumber {V : xV} {h : xH} {S nb pk cd nc : Nat} {vb ls fi se fa np kc : Int32} (fS : h S = some (oSt vb ls fi se fa (nI nc) nb np pk kc cd)) {g : Nat → Int32} (fnb : h nb = some (xI V 6 g)) (hn : nc < 1000) (x : Int32) : xM V y_St_addNumber b_St_addNumber 2 none 0 [.ref S, .int x] h 0 0 (fun v h' => v = none ∧ h' S = some (oSt vb ls fi se fa (nI (nc + 1)) nb np pk kc cd) ∧ h' nb = some (xI V 6 (if nc < 6 then upd g nc x else g)) ∧ xKeep [S, nb] h h') := by
  refine xM_of false (by decide) (fun h => nomatch h) (Nat.le_of_ble_eq_true rfl) (fun K C => ?_)
  show K 0 0 h 0 [(0, .ref S), (1, .int x)] []
  have kp : xKeep [S, nb] h h := xKeep.rf
  refine x_aload_n C d_St_addNumber_0 rfl rfl ?_
  refine x_get C k_St f_St_37 d_St_addNumber_1 fS (by rfl) ?_
  refine x_bipush (v := 6) C d_St_addNumber_4 (by decide) ?_
  refine x_icmp_ge (tgt := 19) C d_St_addNumber_6 rfl (fun q6 => ?_) (fun q6 => ?_)
  · skip
    have h6 := nge_of (b := 6) q6 (by decide)
    refine x_aload_n C d_St_addNumber_19 rfl rfl ?_
    refine x_dup C d_St_addNumber_20 rfl ?_
    refine x_get C k_St f_St_37 d_St_addNumber_21 fS (by rfl) ?_
    refine x_iconst (v := 1) C d_St_addNumber_24 (by decide) ?_
    refine x_iadd C d_St_addNumber_25 ?_
    refine x_put (fs' := [_, _, _, _, _, _, _, _, _, _, _]) C k_St f_St_37 d_St_addNumber_26 fS (by rfl) (by rfl) (by rfl) (Nat.le_of_ble_eq_true rfl) (by rfl) (fun h1 u1 => ?_)
    have fnb := xUp_ne u1 fnb (by first | assumption | exact Ne.symm (by assumption) | exact x_ne fnb fS (by simp))
    have fS := xUp_at u1
    have kp := kp.up u1 (by simp)
    refine x_vret C d_St_addNumber_29 ?_
    refine ⟨rfl, by rw [fS, nI_1], ?_, kp⟩
    first | (rw [if_pos h6, fnb, nI_clamp (by omega)]; done) | rw [if_neg (by omega), fnb]
  · skip
    have h6 := nlt_of (b := 6) q6 (by decide) (by omega)
    refine x_aload_n C d_St_addNumber_9 rfl rfl ?_
    refine x_get C k_St f_St_21 d_St_addNumber_10 fS (by rfl) ?_
    refine x_aload_n C d_St_addNumber_13 rfl rfl ?_
    refine x_get C k_St f_St_37 d_St_addNumber_14 fS (by rfl) ?_
    refine x_iload_n C d_St_addNumber_17 rfl rfl ?_
    refine x_iast C d_St_addNumber_18 fnb (vp_in_nI h6 (by decide)) (fun h2 u2 => ?_)
    have fS := xUp_ne u2 fS (by first | assumption | exact Ne.symm (by assumption) | exact x_ne fS fnb (by simp))
    have fnb := xUp_at u2
    have kp := kp.up u2 (by simp)
    refine x_aload_n C d_St_addNumber_19 rfl rfl ?_
    refine x_dup C d_St_addNumber_20 rfl ?_
    refine x_get C k_St f_St_37 d_St_addNumber_21 fS (by rfl) ?_
    refine x_iconst (v := 1) C d_St_addNumber_24 (by decide) ?_
    refine x_iadd C d_St_addNumber_25 ?_
    refine x_put (fs' := [_, _, _, _, _, _, _, _, _, _, _]) C k_St f_St_37 d_St_addNumber_26 fS (by rfl) (by rfl) (by rfl) (Nat.le_of_ble_eq_true rfl) (by rfl) (fun h3 u3 => ?_)
    have fnb := xUp_ne u3 fnb (by first | assumption | exact Ne.symm (by assumption) | exact x_ne fnb fS (by simp))
    have fS := xUp_at u3
    have kp := kp.up u3 (by simp)
    refine x_vret C d_St_addNumber_29 ?_
    refine ⟨rfl, by rw [fS, nI_1], ?_, kp⟩
    first | (rw [if_pos h6, fnb, nI_clamp (by omega)]; done) | rw [if_neg (by omega), fnb]
set_option maxRecDepth 20000 in
set_option maxHeartbeats 1000000 in
theorem m_St_addPick {V : xV} {h : xH} {S nb pk cd np : Nat} {vb ls fi se fa nc kc : Int32} (fS : h S = some (oSt vb ls fi se fa nc nb (nI np) pk kc cd)) {po : Nat → Option Nat} {pick : Nat → Int32} (fpk : h pk = some (xR V 2 12 po)) (hn : np < 12) (pO : pOps h po np pick) (x : Int32) : xM V y_St_addPick b_St_addPick 2 none 2 [.ref S, .int x] h 1 2 (fun v h' => v = none ∧ ∃ po', h' S = some (oSt vb ls fi se fa nc nb (nI (np + 1)) pk kc cd) ∧ h' pk = some (xR V 2 12 po') ∧ pOps h' po' (np + 1) (upd pick np x) ∧ xKeep [S, pk] h h') := by
  refine xM_of false (by decide) (fun h => nomatch h) (Nat.le_of_ble_eq_true rfl) (fun K C => ?_)
  show K 1 2 h 0 [(0, .ref S), (1, .int x)] []
  have kp : xKeep [S, pk] h h := xKeep.rf
  have hno : ∀ q ∈ [S, pk], ∀ e, h q = some e → nOp e = true := no_c fS rfl (no_c fpk rfl no_n)
  refine x_aload_n C d_St_addPick_0 rfl rfl ?_
  refine x_get C k_St f_St_40 d_St_addPick_1 fS (by rfl) ?_
  refine x_aload_n C d_St_addPick_4 rfl rfl ?_
  refine x_get C k_St f_St_27 d_St_addPick_5 fS (by rfl) ?_
  refine x_alenR (t := 2) C rfl d_St_addPick_8 fpk ?_
  refine x_icmp_ge (tgt := 40) C d_St_addPick_9 rfl (fun q9 => ?_) (fun q9 => ?_)
  · skip
    exact absurd (nge_of (b := 12) q9 (by decide)) (by omega)
  · skip
    refine x_aload_n C d_St_addPick_12 rfl rfl ?_
    refine x_get C k_St f_St_27 d_St_addPick_13 fS (by rfl) ?_
    refine x_aload_n C d_St_addPick_16 rfl rfl ?_
    refine x_get C k_St f_St_40 d_St_addPick_17 fS (by rfl) ?_
    refine x_new (fs := [.int 0, .int 0]) C k_Op ⟨c_St_25, n_Op.1, n_Op.2⟩ d_St_addPick_20 (by decide +revert) (fun o h1 n1 u1 => ?_)
    have x1_S := x_nn fS n1
    have x1_pk := x_nn fpk n1
    have fS := xUp_new u1 n1 fS
    have fpk := xUp_new u1 n1 fpk
    have z_o := kp.isn n1 (by simp only [List.mem_cons, List.not_mem_nil, or_false, not_or]; exact ⟨Ne.symm x1_S, Ne.symm x1_pk⟩)
    have kp := kp.upN u1 z_o
    have f_o := xUp_at u1
    refine x_dup C d_St_addPick_23 rfl ?_
    refine x_iconst (v := 2) C d_St_addPick_24 (by decide) ?_
    refine x_iload_n C d_St_addPick_25 rfl rfl ?_
    refine x_callI C l_St_43 v_Op_init d_St_addPick_26 (m_Op_init f_o 2 x) rfl (by rfl) (by rfl) (by decide) (by decide) (Nat.le_of_ble_eq_true rfl) ?_
    rintro v2 h2 ⟨rfl, f_o', kp2⟩
    have fS := kp2.get fS (nm_c (by first | assumption | exact Ne.symm (by assumption) | exact x_ne fS f_o (by simp)) nm_n)
    have fpk := kp2.get fpk (nm_c (by first | assumption | exact Ne.symm (by assumption) | exact x_ne fpk f_o (by simp)) nm_n)
    have kp := kp.call kp2 (kc_c (Or.inr z_o) kc_n)
    have f_o := f_o'
    refine x_aast (t := 2) C rfl rfl d_St_addPick_29 fpk f_o (vp_in_nI hn (by decide)) (fun h3 u3 => ?_)
    have fS := xUp_ne u3 fS (by first | assumption | exact Ne.symm (by assumption) | exact x_ne fS fpk (by simp))
    have f_o := xUp_ne u3 f_o (by first | assumption | exact Ne.symm (by assumption) | exact x_ne f_o fpk (by simp))
    have fpk := xUp_at u3
    have kp := kp.up u3 (by simp)
    refine x_aload_n C d_St_addPick_30 rfl rfl ?_
    refine x_dup C d_St_addPick_31 rfl ?_
    refine x_get C k_St f_St_40 d_St_addPick_32 fS (by rfl) ?_
    refine x_iconst (v := 1) C d_St_addPick_35 (by decide) ?_
    refine x_iadd C d_St_addPick_36 ?_
    refine x_put (fs' := [_, _, _, _, _, _, _, _, _, _, _]) C k_St f_St_40 d_St_addPick_37 fS (by rfl) (by rfl) (by rfl) (Nat.le_of_ble_eq_true rfl) (by rfl) (fun h4 u4 => ?_)
    have fpk := xUp_ne u4 fpk (by first | assumption | exact Ne.symm (by assumption) | exact x_ne fpk fS (by simp))
    have f_o := xUp_ne u4 f_o (by first | assumption | exact Ne.symm (by assumption) | exact x_ne f_o fS (by simp))
    have fS := xUp_at u4
    have kp := kp.up u4 (by simp)
    refine x_vret C d_St_addPick_40 ?_
    refine ⟨rfl, _, by rw [fS, nI_1], fpk, lt_s (fun i hi => ?_) ?_, kp⟩
    · obtain ⟨a, h1, h2⟩ := pO i hi
      exact ⟨a, by rw [nI_clamp (by omega), va_up_ne _ _ (by omega)]; exact h1, by rw [pk_un (by omega)]; exact kp.ops hno a _ h2 rfl⟩
    · exact ⟨o, by rw [nI_clamp (by omega)]; exact va_up_self _ _ _, by rw [pk_us]; exact f_o⟩
set_option maxRecDepth 20000 in
set_option maxHeartbeats 1000000 in
theorem m_St_addCondition {V : xV} {h : xH} {S nb pk cd kc : Nat} {vb ls fi se fa nc np : Int32} (fS : h S = some (oSt vb ls fi se fa nc nb np pk (nI kc) cd)) {co : Nat → Option Nat} {cf : Nat → tCd} (fcd : h cd = some (xR V 3 8 co)) (hn : kc < 8) (pC : pCds h co kc cf) {q : Nat} {dd : tCd} (pq : pCd h q dd) : xM V y_St_addCondition b_St_addCondition 2 none 0 [.ref S, .ref q] h 0 0 (fun v h' => v = none ∧ ∃ co', h' S = some (oSt vb ls fi se fa nc nb np pk (nI (kc + 1)) cd) ∧ h' cd = some (xR V 3 8 co') ∧ pCds h' co' (kc + 1) (va_up cf kc dd) ∧ xKeep [S, cd] h h') := by
  refine xM_of false (by decide) (fun h => nomatch h) (Nat.le_of_ble_eq_true rfl) (fun K C => ?_)
  show K 0 0 h 0 [(0, .ref S), (1, .ref q)] []
  have kp : xKeep [S, cd] h h := xKeep.rf
  have hno : ∀ q ∈ [S, cd], ∀ e, h q = some e → nOp e = true := no_c fS rfl (no_c fcd rfl no_n)
  have pq0 := pq
  obtain ⟨a0, b0, fq, -, -⟩ := pq
  refine x_aload_n C d_St_addCondition_0 rfl rfl ?_
  refine x_get C k_St f_St_46 d_St_addCondition_1 fS (by rfl) ?_
  refine x_bipush (v := 8) C d_St_addCondition_4 (by decide) ?_
  refine x_icmp_ge (tgt := 29) C d_St_addCondition_6 rfl (fun q6 => ?_) (fun q6 => ?_)
  · skip
    exact absurd (nge_of (b := 8) q6 (by decide)) (by omega)
  · skip
    refine x_aload_n C d_St_addCondition_9 rfl rfl ?_
    refine x_get C k_St f_St_33 d_St_addCondition_10 fS (by rfl) ?_
    refine x_aload_n C d_St_addCondition_13 rfl rfl ?_
    refine x_get C k_St f_St_46 d_St_addCondition_14 fS (by rfl) ?_
    refine x_aload_n C d_St_addCondition_17 rfl rfl ?_
    refine x_aast (t := 3) C rfl rfl d_St_addCondition_18 fcd fq (vp_in_nI hn (by decide)) (fun h1 u1 => ?_)
    have fS := xUp_ne u1 fS (by first | assumption | exact Ne.symm (by assumption) | exact x_ne fS fcd (by simp))
    have fq := xUp_ne u1 fq (by first | assumption | exact Ne.symm (by assumption) | exact x_ne fq fcd (by simp))
    have fcd := xUp_at u1
    have kp := kp.up u1 (by simp)
    refine x_aload_n C d_St_addCondition_19 rfl rfl ?_
    refine x_dup C d_St_addCondition_20 rfl ?_
    refine x_get C k_St f_St_46 d_St_addCondition_21 fS (by rfl) ?_
    refine x_iconst (v := 1) C d_St_addCondition_24 (by decide) ?_
    refine x_iadd C d_St_addCondition_25 ?_
    refine x_put (fs' := [_, _, _, _, _, _, _, _, _, _, _]) C k_St f_St_46 d_St_addCondition_26 fS (by rfl) (by rfl) (by rfl) (Nat.le_of_ble_eq_true rfl) (by rfl) (fun h2 u2 => ?_)
    have fcd := xUp_ne u2 fcd (by first | assumption | exact Ne.symm (by assumption) | exact x_ne fcd fS (by simp))
    have fq := xUp_ne u2 fq (by first | assumption | exact Ne.symm (by assumption) | exact x_ne fq fS (by simp))
    have fS := xUp_at u2
    have kp := kp.up u2 (by simp)
    refine x_vret C d_St_addCondition_29 ?_
    refine ⟨rfl, _, by rw [fS, nI_1], fcd, lt_s (fun i hi => ?_) ?_, kp⟩
    · obtain ⟨a, h1, h2⟩ := pC i hi
      exact ⟨a, by rw [nI_clamp (by omega), va_up_ne _ _ (by omega)]; exact h1, by rw [va_up_ne _ _ (by omega)]; exact h2.keep (kp.ops hno)⟩
    · exact ⟨q, by rw [nI_clamp (by omega)]; exact va_up_self _ _ _, by rw [va_up_self]; exact pq0.keep (kp.ops hno)⟩
set_option maxRecDepth 20000 in
set_option maxHeartbeats 1000000 in
theorem m_St_init {V : xV} {h : xH} {S : Nat} (fS : h S = some (.inr (4, [.int 0, .int 0, .int 0, .int 0, .int 0, .int 0, .null, .int 0, .null, .int 0, .null]))) : xM V y_St_init b_St_init 1 none 1 [.ref S] h 3 26 (fun v h' => v = none ∧ ∃ nb pk cd, h' S = some (oSt 0 (-1) (-1) (-1) 0 0 nb 0 pk 0 cd) ∧ h' nb = some (xI V 6 (fun _ => 0)) ∧ h' pk = some (xR V 2 12 (fun _ => none)) ∧ h' cd = some (xR V 3 8 (fun _ => none)) ∧ h nb = none ∧ h pk = none ∧ h cd = none ∧ xKeep [S] h h') := by
  refine xM_of true (by decide) (fun _ => rfl) (Nat.le_of_ble_eq_true rfl) (fun K C => ?_)
  show K 3 26 h 0 [(0, .ref S)] []
  have kp : xKeep [S] h h := xKeep.rf
  refine x_aload_n C d_St_init_0 rfl rfl ?_
  refine x_objInit C ⟨l_St_3, oi_i, oi_c⟩ (by decide) (Nat.le_of_ble_eq_true rfl) d_St_init_1 ?_
  refine x_aload_n C d_St_init_4 rfl rfl ?_
  refine x_iconst (v := -1) C d_St_init_5 (by decide) ?_
  refine x_put (fs' := [_, _, _, _, _, _, _, _, _, _, _]) C k_St f_St_9 d_St_init_6 fS (by rfl) (by rfl) (by rfl) (Nat.le_of_ble_eq_true rfl) (by rfl) (fun h1 u1 => ?_)
  have fS := xUp_at u1
  have kp := kp.up u1 (by simp)
  refine x_aload_n C d_St_init_9 rfl rfl ?_
  refine x_iconst (v := -1) C d_St_init_10 (by decide) ?_
  refine x_put (fs' := [_, _, _, _, _, _, _, _, _, _, _]) C k_St f_St_15 d_St_init_11 fS (by rfl) (by rfl) (by rfl) (Nat.le_of_ble_eq_true rfl) (by rfl) (fun h2 u2 => ?_)
  have fS := xUp_at u2
  have kp := kp.up u2 (by simp)
  refine x_aload_n C d_St_init_14 rfl rfl ?_
  refine x_iconst (v := -1) C d_St_init_15 (by decide) ?_
  refine x_put (fs' := [_, _, _, _, _, _, _, _, _, _, _]) C k_St f_St_18 d_St_init_16 fS (by rfl) (by rfl) (by rfl) (Nat.le_of_ble_eq_true rfl) (by rfl) (fun h3 u3 => ?_)
  have fS := xUp_at u3
  have kp := kp.up u3 (by simp)
  refine x_aload_n C d_St_init_19 rfl rfl ?_
  refine x_bipush (v := 6) C d_St_init_20 (by decide) ?_
  refine x_newI (N := 6) C ac_int d_St_init_22 (by decide) (by decide) (by decide) (fun nb h4 n4 u4 => ?_)
  have x4_S := x_nn fS n4
  have fS := xUp_new u4 n4 fS
  have z_nb := kp.isn n4 (by simp only [List.mem_cons, List.not_mem_nil, or_false, not_or]; exact Ne.symm x4_S)
  have kp := kp.upN u4 z_nb
  have f_nb := xUp_at u4
  refine x_putF (fs' := [_, _, _, _, _, _, _, _, _, _, _]) C k_St g_St_21 d_St_init_24 fS (by rfl) (by rfl) (by rfl) (Nat.le_of_ble_eq_true rfl) (by rfl) (fun h5 u5 => ?_)
  have f_nb := xUp_ne u5 f_nb (by first | assumption | exact Ne.symm (by assumption) | exact x_ne f_nb fS (by simp))
  have fS := xUp_at u5
  have kp := kp.up u5 (by simp)
  refine x_aload_n C d_St_init_27 rfl rfl ?_
  refine x_bipush (v := 12) C d_St_init_28 (by decide) ?_
  refine x_newR (t := 2) (N := 12) C rfl (by first | exact Or.inl rfl | exact Or.inr rfl) c_St_25 d_St_init_30 (by decide) (by decide) (by decide) (fun pk h6 n6 u6 => ?_)
  have x6_S := x_nn fS n6
  have x6_nb := x_nn f_nb n6
  have fS := xUp_new u6 n6 fS
  have f_nb := xUp_new u6 n6 f_nb
  have z_pk := kp.isn n6 (by simp only [List.mem_cons, List.not_mem_nil, or_false, not_or]; exact Ne.symm x6_S)
  have kp := kp.upN u6 z_pk
  have f_pk := xUp_at u6
  refine x_putF (fs' := [_, _, _, _, _, _, _, _, _, _, _]) C k_St g_St_27 d_St_init_33 fS (by rfl) (by rfl) (by rfl) (Nat.le_of_ble_eq_true rfl) (by rfl) (fun h7 u7 => ?_)
  have f_nb := xUp_ne u7 f_nb (by first | assumption | exact Ne.symm (by assumption) | exact x_ne f_nb fS (by simp))
  have f_pk := xUp_ne u7 f_pk (by first | assumption | exact Ne.symm (by assumption) | exact x_ne f_pk fS (by simp))
  have fS := xUp_at u7
  have kp := kp.up u7 (by simp)
  refine x_aload_n C d_St_init_36 rfl rfl ?_
  refine x_bipush (v := 8) C d_St_init_37 (by decide) ?_
  refine x_newR (t := 3) (N := 8) C rfl (by first | exact Or.inl rfl | exact Or.inr rfl) c_St_31 d_St_init_39 (by decide) (by decide) (by decide) (fun cd h8 n8 u8 => ?_)
  have x8_S := x_nn fS n8
  have x8_nb := x_nn f_nb n8
  have x8_pk := x_nn f_pk n8
  have fS := xUp_new u8 n8 fS
  have f_nb := xUp_new u8 n8 f_nb
  have f_pk := xUp_new u8 n8 f_pk
  have z_cd := kp.isn n8 (by simp only [List.mem_cons, List.not_mem_nil, or_false, not_or]; exact Ne.symm x8_S)
  have kp := kp.upN u8 z_cd
  have f_cd := xUp_at u8
  refine x_putF (fs' := [_, _, _, _, _, _, _, _, _, _, _]) C k_St g_St_33 d_St_init_42 fS (by rfl) (by rfl) (by rfl) (Nat.le_of_ble_eq_true rfl) (by rfl) (fun h9 u9 => ?_)
  have f_nb := xUp_ne u9 f_nb (by first | assumption | exact Ne.symm (by assumption) | exact x_ne f_nb fS (by simp))
  have f_pk := xUp_ne u9 f_pk (by first | assumption | exact Ne.symm (by assumption) | exact x_ne f_pk fS (by simp))
  have f_cd := xUp_ne u9 f_cd (by first | assumption | exact Ne.symm (by assumption) | exact x_ne f_cd fS (by simp))
  have fS := xUp_at u9
  have kp := kp.up u9 (by simp)
  refine x_vret C d_St_init_45 ?_
  exact ⟨rfl, nb, pk, cd, fS, f_nb, f_pk, f_cd, z_nb, z_pk, z_cd, kp⟩
set_option maxRecDepth 20000 in
set_option maxHeartbeats 1000000 in
theorem m_St_holds {V : xV} {h : xH} {S nb pk cd np kc : Nat} {vb ls fi se fa nc : Int32} (fS : h S = some (oSt vb ls fi se fa nc nb (nI np) pk (nI kc) cd)) {po co : Nat → Option Nat} {pick : Nat → Int32} {cf : Nat → tCd} (fpk : h pk = some (xR V 2 12 po)) (fcd : h cd = some (xR V 3 8 co)) (hnp : np ≤ 12) (hkc : kc ≤ 8) (pO : pOps h po np pick) (pC : pCds h co kc cf) {r : Nat} {f : Nat → Int32} (fr : h r = some (xI V 16 f)) (hin : ∀ j, j < kc → cdIn (cf j)) : xM V y_St_holds b_St_holds 3 (some .boolean) 2 [.ref S, .ref r] h 0 0 (fun v h' => h' = h ∧ v = some (.int (bI (cdsVal kc cf f)))) := by
  refine xM_of false (by decide) (fun h => nomatch h) (Nat.le_of_ble_eq_true rfl) (fun K C => ?_)
  show K 0 0 h 0 [(0, .ref S), (1, .ref r)] []
  have loop : ∀ m : Nat, ∀ j : Nat, kc - j < m → j ≤ kc → (∀ i, i < j → cdVal (cf i) f = true) → K 0 0 h 2 [(2, .int (nI j)), (0, .ref S), (1, .ref r)] [] := by
    intro m
    induction m with
    | zero => intro j hm hj hk; omega
    | succ m ih =>
      intro j hm hj hk
      refine x_iload_n C d_St_holds_2 rfl rfl ?_
      refine x_aload_n C d_St_holds_3 rfl rfl ?_
      refine x_get C k_St f_St_46 d_St_holds_4 fS (by rfl) ?_
      refine x_icmp_ge (tgt := 31) C d_St_holds_7 rfl (fun q7 => ?_) (fun q7 => ?_)
      · skip
        have hj2 := nge_of q7 (by omega)
        refine x_iconst (v := 1) C d_St_holds_31 (by decide) ?_
        refine x_zret C d_St_holds_32 (by rfl) ?_
        refine ⟨rfl, ?_⟩
        rw [show cdsVal kc cf f = true from decide_eq_true (fun i hi => hk i (by omega))]
        rfl
      · skip
        have hj2 := nlt_of q7 (by omega) (by omega)
        obtain ⟨q, hq, a, b, fq, fa', fb'⟩ := pC j hj2
        refine x_aload_n C d_St_holds_10 rfl rfl ?_
        refine x_get C k_St f_St_33 d_St_holds_11 fS (by rfl) ?_
        refine x_iload_n C d_St_holds_14 rfl rfl ?_
        refine x_aald (t := 3) C rfl d_St_holds_15 fcd (vp_in_nI (by omega) (by decide)) ?_
        rw [nI_clamp (by omega), hq]
        refine x_aload_n C d_St_holds_16 rfl rfl ?_
        refine x_callV C l_St_84 v_Cn_holds d_St_holds_17 (m_Cn_holds fq fa' fb' fr (hin j hj2).1 (hin j hj2).2) fq rfl (by rfl) (by rfl) (by decide) (by decide) (Nat.le_of_ble_eq_true rfl) ?_
        rintro v h' ⟨rfl, rfl⟩
        refine x_if_ne (tgt := 25) C d_St_holds_20 rfl (fun q20 => ?_) (fun q20 => ?_)
        · skip
          replace q20 := bI_t q20
          refine x_iinc (v := nI (j + 1)) (k0 := 0) (lv' := [(2, _), (0, _), (1, _)]) C d_St_holds_25 (by rfl) (nI_1 j) (by decide) (by rfl) ?_
          refine x_goto (tgt := 2) C d_St_holds_28 rfl ?_
          exact ih (j + 1) (by omega) (by omega) (lt_s hk q20)
        · skip
          replace q20 := bI_f q20
          refine x_iconst (v := 0) C d_St_holds_23 (by decide) ?_
          refine x_zret C d_St_holds_24 (by rfl) ?_
          exact ⟨rfl, by rw [show cdsVal kc cf f = false from all_no hj2 q20]; rfl⟩
  refine x_iconst (v := 0) C d_St_holds_0 (by decide) ?_
  refine x_istore_n (lv' := [(2, _), (0, _), (1, _)]) C d_St_holds_1 rfl (by decide) (by rfl) ?_
  exact loop (kc + 1) 0 (by omega) (by omega) lt_0
set_option maxRecDepth 20000 in
set_option maxHeartbeats 1000000 in
theorem m_St_columnsAreThere {V : xV} {h : xH} {S nb pk cd np kc : Nat} {vb ls fi se fa nc : Int32} (fS : h S = some (oSt vb ls fi se fa nc nb (nI np) pk (nI kc) cd)) {po co : Nat → Option Nat} {pick : Nat → Int32} {cf : Nat → tCd} (fpk : h pk = some (xR V 2 12 po)) (fcd : h cd = some (xR V 3 8 co)) (hnp : np ≤ 12) (hkc : kc ≤ 8) (pO : pOps h po np pick) (pC : pCds h co kc cf) (fc sc : Int32) : xM V y_St_columnsAreThere b_St_columnsAreThere 4 (some .boolean) 2 [.ref S, .int fc, .int sc] h 0 0 (fun v h' => h' = h ∧ v = some (.int (bI (colsOK np pick kc cf fc sc)))) := by
  refine xM_of false (by decide) (fun h => nomatch h) (Nat.le_of_ble_eq_true rfl) (fun K C => ?_)
  show K 0 0 h 0 [(0, .ref S), (1, .int fc), (2, .int sc)] []
  have loop2 : ∀ m : Nat, ∀ j : Nat, kc - j < m → j ≤ kc → decide (∀ i, i < np → opThere 2 (pick i) fc sc = true) = true → (∀ i, i < j → cdThere (cf i) fc sc = true) → K 0 0 h 34 [(3, .int (nI j)), (0, .ref S), (1, .int fc), (2, .int sc)] [] := by
    intro m
    induction m with
    | zero => intro j hm hj hpk hk; omega
    | succ m ih =>
      intro j hm hj hpk hk
      refine x_iload_n C d_St_columnsAreThere_34 rfl rfl ?_
      refine x_aload_n C d_St_columnsAreThere_35 rfl rfl ?_
      refine x_get C k_St f_St_46 d_St_columnsAreThere_36 fS (by rfl) ?_
      refine x_icmp_ge (tgt := 64) C d_St_columnsAreThere_39 rfl (fun q39 => ?_) (fun q39 => ?_)
      · skip
        have hj2 := nge_of q39 (by omega)
        refine x_iconst (v := 1) C d_St_columnsAreThere_64 (by decide) ?_
        refine x_zret C d_St_columnsAreThere_65 (by rfl) ?_
        refine ⟨rfl, ?_⟩
        unfold colsOK
        rw [hpk, decide_eq_true (fun i hi => hk i (by omega))]
        rfl
      · skip
        have hj2 := nlt_of q39 (by omega) (by omega)
        obtain ⟨q, hq, a, b, fq, fa', fb'⟩ := pC j hj2
        refine x_aload_n C d_St_columnsAreThere_42 rfl rfl ?_
        refine x_get C k_St f_St_33 d_St_columnsAreThere_43 fS (by rfl) ?_
        refine x_iload_n C d_St_columnsAreThere_46 rfl rfl ?_
        refine x_aald (t := 3) C rfl d_St_columnsAreThere_47 fcd (vp_in_nI (by omega) (by decide)) ?_
        rw [nI_clamp (by omega), hq]
        refine x_iload_n C d_St_columnsAreThere_48 rfl rfl ?_
        refine x_iload_n C d_St_columnsAreThere_49 rfl rfl ?_
        refine x_callV C l_St_72 v_Cn_isThere d_St_columnsAreThere_50 (m_Cn_isThere fq fa' fb' fc sc) fq rfl (by rfl) (by rfl) (by decide) (by decide) (Nat.le_of_ble_eq_true rfl) ?_
        rintro v h' ⟨rfl, rfl⟩
        refine x_if_ne (tgt := 58) C d_St_columnsAreThere_53 rfl (fun q53 => ?_) (fun q53 => ?_)
        · skip
          replace q53 := bI_t q53
          refine x_iinc (v := nI (j + 1)) (k0 := 0) (lv' := [(3, _), (0, _), (1, _), (2, _)]) C d_St_columnsAreThere_58 (by rfl) (nI_1 j) (by decide) (by rfl) ?_
          refine x_goto (tgt := 34) C d_St_columnsAreThere_61 rfl ?_
          exact ih (j + 1) (by omega) (by omega) hpk (lt_s hk q53)
        · skip
          replace q53 := bI_f q53
          refine x_iconst (v := 0) C d_St_columnsAreThere_56 (by decide) ?_
          refine x_zret C d_St_columnsAreThere_57 (by rfl) ?_
          refine ⟨rfl, ?_⟩
          unfold colsOK
          rw [hpk, all_no (p := fun j => cdThere (cf j) fc sc) hj2 q53]
          rfl
  have loop1 : ∀ m : Nat, ∀ j : Nat, np - j < m → j ≤ np → (∀ i, i < j → opThere 2 (pick i) fc sc = true) → K 0 0 h 2 [(3, .int (nI j)), (0, .ref S), (1, .int fc), (2, .int sc)] [] := by
    intro m
    induction m with
    | zero => intro j hm hj hk; omega
    | succ m ih =>
      intro j hm hj hk
      refine x_iload_n C d_St_columnsAreThere_2 rfl rfl ?_
      refine x_aload_n C d_St_columnsAreThere_3 rfl rfl ?_
      refine x_get C k_St f_St_40 d_St_columnsAreThere_4 fS (by rfl) ?_
      refine x_icmp_ge (tgt := 32) C d_St_columnsAreThere_7 rfl (fun q7 => ?_) (fun q7 => ?_)
      · skip
        have hj2 := nge_of q7 (by omega)
        have hpk : decide (∀ i, i < np → opThere 2 (pick i) fc sc = true) = true := decide_eq_true (fun i hi => hk i (by omega))
        refine x_iconst (v := 0) C d_St_columnsAreThere_32 (by decide) ?_
        refine x_istore_n (lv' := [(3, _), (0, _), (1, _), (2, _)]) C d_St_columnsAreThere_33 rfl (by decide) (by rfl) ?_
        exact loop2 (kc + 1) 0 (by omega) (by omega) hpk lt_0
      · skip
        have hj2 := nlt_of q7 (by omega) (by omega)
        obtain ⟨q, hq, fq⟩ := pO j hj2
        refine x_aload_n C d_St_columnsAreThere_10 rfl rfl ?_
        refine x_get C k_St f_St_27 d_St_columnsAreThere_11 fS (by rfl) ?_
        refine x_iload_n C d_St_columnsAreThere_14 rfl rfl ?_
        refine x_aald (t := 2) C rfl d_St_columnsAreThere_15 fpk (vp_in_nI (by omega) (by decide)) ?_
        rw [nI_clamp (by omega), hq]
        refine x_iload_n C d_St_columnsAreThere_16 rfl rfl ?_
        refine x_iload_n C d_St_columnsAreThere_17 rfl rfl ?_
        refine x_callV C l_St_70 v_Op_isThere d_St_columnsAreThere_18 (m_Op_isThere fq fc sc) fq rfl (by rfl) (by rfl) (by decide) (by decide) (Nat.le_of_ble_eq_true rfl) ?_
        rintro v h' ⟨rfl, rfl⟩
        refine x_if_ne (tgt := 26) C d_St_columnsAreThere_21 rfl (fun q21 => ?_) (fun q21 => ?_)
        · skip
          replace q21 := bI_t q21
          refine x_iinc (v := nI (j + 1)) (k0 := 0) (lv' := [(3, _), (0, _), (1, _), (2, _)]) C d_St_columnsAreThere_26 (by rfl) (nI_1 j) (by decide) (by rfl) ?_
          refine x_goto (tgt := 2) C d_St_columnsAreThere_29 rfl ?_
          exact ih (j + 1) (by omega) (by omega) (lt_s hk q21)
        · skip
          replace q21 := bI_f q21
          refine x_iconst (v := 0) C d_St_columnsAreThere_24 (by decide) ?_
          refine x_zret C d_St_columnsAreThere_25 (by rfl) ?_
          refine ⟨rfl, ?_⟩
          unfold colsOK
          rw [all_no (p := fun i => opThere 2 (pick i) fc sc) hj2 q21]
          rfl
  refine x_iconst (v := 0) C d_St_columnsAreThere_0 (by decide) ?_
  refine x_istore_n (lv' := [(3, _), (0, _), (1, _), (2, _)]) C d_St_columnsAreThere_1 rfl (by decide) (by rfl) ?_
  exact loop1 (np + 1) 0 (by omega) (by omega) lt_0
set_option maxRecDepth 20000 in
set_option maxHeartbeats 1000000 in
theorem m_St_faultOfCreate {V : xV} {h : xH} {S nb pk cd : Nat} {vb ls fi se fa nc np kc : Int32} (fS : h S = some (oSt vb ls fi se fa nc nb np pk kc cd)) {g : Nat → Int32} (fnb : h nb = some (xI V 6 g)) {B ce co' sr : Nat} {f c s : Nat → Int32} (pT : pTa V h B ce co' sr f c s) : xM V y_St_faultOfCreate b_St_faultOfCreate 2 (some .int) 2 [.ref S, .ref B] h 0 0 (fun v h' => h' = h ∧ v = some (.int (faultC fi (g 0) c))) := by
  refine xM_of false (by decide) (fun h => nomatch h) (Nat.le_of_ble_eq_true rfl) (fun K C => ?_)
  show K 0 0 h 0 [(0, .ref S), (1, .ref B)] []
  have pT0 := pT
  obtain ⟨fB, -, -, -⟩ := pT
  refine x_aload_n C d_St_faultOfCreate_0 rfl rfl ?_
  refine x_aload_n C d_St_faultOfCreate_1 rfl rfl ?_
  refine x_get C k_St f_St_15 d_St_faultOfCreate_2 fS (by rfl) ?_
  refine x_callV C l_St_56 v_Ta_isThere d_St_faultOfCreate_5 (m_Ta_isThere pT0 fi) fB rfl (by rfl) (by rfl) (by decide) (by decide) (Nat.le_of_ble_eq_true rfl) ?_
  rintro v h' ⟨rfl, rfl⟩
  refine x_if_eq (tgt := 14) C d_St_faultOfCreate_8 rfl (fun q8 => ?_) (fun q8 => ?_)
  · skip
    replace q8 := bI_f q8
    have hc : colOf c fi ≤ 0 := by simpa using q8
    refine x_aload_n C d_St_faultOfCreate_14 rfl rfl ?_
    refine x_get C k_St f_St_21 d_St_faultOfCreate_15 fS (by rfl) ?_
    refine x_iconst (v := 0) C d_St_faultOfCreate_18 (by decide) ?_
    refine x_iald C d_St_faultOfCreate_19 fnb (vp_in_nI (n := 0) (by decide) (by decide)) ?_
    refine x_iconst (v := 1) C d_St_faultOfCreate_20 (by decide) ?_
    refine x_icmp_lt (tgt := 39) C d_St_faultOfCreate_21 rfl (fun q21 => ?_) (fun q21 => ?_)
    · skip
      refine x_bipush (v := -5) C d_St_faultOfCreate_39 (by decide) ?_
      refine x_iret C d_St_faultOfCreate_41 ?_
      refine ⟨rfl, ?_⟩
      unfold faultC
      rw [if_neg (fun z => z hc)]
      rw [sb_cl0] at q21
      first | (rw [if_pos q21]; done) | (rw [sb_cl0] at q32; rw [if_neg q21]; first | (rw [if_pos q32]; done) | (rw [if_neg q32]; done))
    · skip
      refine x_aload_n C d_St_faultOfCreate_24 rfl rfl ?_
      refine x_get C k_St f_St_21 d_St_faultOfCreate_25 fS (by rfl) ?_
      refine x_iconst (v := 0) C d_St_faultOfCreate_28 (by decide) ?_
      refine x_iald C d_St_faultOfCreate_29 fnb (vp_in_nI (n := 0) (by decide) (by decide)) ?_
      refine x_bipush (v := 6) C d_St_faultOfCreate_30 (by decide) ?_
      refine x_icmp_gt (tgt := 39) C d_St_faultOfCreate_32 rfl (fun q32 => ?_) (fun q32 => ?_)
      · skip
        refine x_bipush (v := -5) C d_St_faultOfCreate_39 (by decide) ?_
        refine x_iret C d_St_faultOfCreate_41 ?_
        refine ⟨rfl, ?_⟩
        unfold faultC
        rw [if_neg (fun z => z hc)]
        rw [sb_cl0] at q21
        first | (rw [if_pos q21]; done) | (rw [sb_cl0] at q32; rw [if_neg q21]; first | (rw [if_pos q32]; done) | (rw [if_neg q32]; done))
      · skip
        refine x_iconst (v := 0) C d_St_faultOfCreate_35 (by decide) ?_
        refine x_goto (tgt := 41) C d_St_faultOfCreate_36 rfl ?_
        refine x_iret C d_St_faultOfCreate_41 ?_
        refine ⟨rfl, ?_⟩
        unfold faultC
        rw [if_neg (fun z => z hc)]
        rw [sb_cl0] at q21
        first | (rw [if_pos q21]; done) | (rw [sb_cl0] at q32; rw [if_neg q21]; first | (rw [if_pos q32]; done) | (rw [if_neg q32]; done))
  · skip
    replace q8 := bI_t q8
    have hc : ¬ colOf c fi ≤ 0 := by simpa using q8
    refine x_bipush (v := -4) C d_St_faultOfCreate_11 (by decide) ?_
    refine x_iret C d_St_faultOfCreate_13 ?_
    exact ⟨rfl, by unfold faultC; rw [if_pos hc]⟩
set_option maxRecDepth 20000 in
set_option maxHeartbeats 1000000 in
theorem m_St_fault {V : xV} {h : xH} {S nb pk cd np kc : Nat} {vb ls fi se fa nc : Int32} (fS : h S = some (oSt vb ls fi se fa nc nb (nI np) pk (nI kc) cd)) {po co : Nat → Option Nat} {pick : Nat → Int32} {cf : Nat → tCd} (fpk : h pk = some (xR V 2 12 po)) (fcd : h cd = some (xR V 3 8 co)) (hnp : np ≤ 12) (hkc : kc ≤ 8) (pO : pOps h po np pick) (pC : pCds h co kc cf) {g : Nat → Int32} (fnb : h nb = some (xI V 6 g)) {B ce co' sr : Nat} {f c s : Nat → Int32} (pT : pTa V h B ce co' sr f c s) : xM V y_St_fault b_St_fault 2 (some .int) 3 [.ref S, .ref B] h 0 0 (fun v h' => h' = h ∧ v = some (.int (faultS vb fi se nc (g 0) c (colsOK np pick kc cf (colOf c fi) (colOf c se))))) := by
  refine xM_of false (by decide) (fun h => nomatch h) (Nat.le_of_ble_eq_true rfl) (fun K C => ?_)
  show K 0 0 h 0 [(0, .ref S), (1, .ref B)] []
  have pT0 := pT
  obtain ⟨fB, -, -, -⟩ := pT
  refine x_aload_n C d_St_fault_0 rfl rfl ?_
  refine x_get C k_St f_St_49 d_St_fault_1 fS (by rfl) ?_
  refine x_if_ne (tgt := 13) C d_St_fault_4 rfl (fun q4 => ?_) (fun q4 => ?_)
  · skip
    refine x_aload_n C d_St_fault_13 rfl rfl ?_
    refine x_aload_n C d_St_fault_14 rfl rfl ?_
    refine x_get C k_St f_St_15 d_St_fault_15 fS (by rfl) ?_
    refine x_callV C l_St_56 v_Ta_isThere d_St_fault_18 (m_Ta_isThere pT0 fi) fB rfl (by rfl) (by rfl) (by decide) (by decide) (Nat.le_of_ble_eq_true rfl) ?_
    rintro v h' ⟨rfl, rfl⟩
    refine x_if_eq (tgt := 43) C d_St_fault_21 rfl (fun q21 => ?_) (fun q21 => ?_)
    · skip
      replace q21 := bI_f q21
      have hc : colOf c fi ≤ 0 := by simpa using q21
      refine x_bipush (v := -2) C d_St_fault_43 (by decide) ?_
      refine x_iret C d_St_fault_45 ?_
      refine ⟨rfl, ?_⟩
      unfold faultS
      rw [if_neg q4]
      first | (rw [if_pos hc]; done) | (rw [if_neg hc, if_pos hs]; done)
    · skip
      replace q21 := bI_t q21
      have hc : ¬ colOf c fi ≤ 0 := by simpa using q21
      refine x_aload_n C d_St_fault_24 rfl rfl ?_
      refine x_get C k_St f_St_18 d_St_fault_25 fS (by rfl) ?_
      refine x_iconst (v := -1) C d_St_fault_28 (by decide) ?_
      refine x_icmp_eq (tgt := 46) C d_St_fault_29 rfl (fun q29 => ?_) (fun q29 => ?_)
      · skip
        have hs : ¬ (¬ se = -1 ∧ colOf c se ≤ 0) := fun z => z.1 q29
        refine x_aload_n C d_St_fault_46 rfl rfl ?_
        refine x_aload_n C d_St_fault_47 rfl rfl ?_
        refine x_aload_n C d_St_fault_48 rfl rfl ?_
        refine x_get C k_St f_St_15 d_St_fault_49 fS (by rfl) ?_
        refine x_callV C l_St_62 v_Ta_columnsOf d_St_fault_52 (m_Ta_columnsOf pT0 fi) fB rfl (by rfl) (by rfl) (by decide) (by decide) (Nat.le_of_ble_eq_true rfl) ?_
        rintro v h' ⟨rfl, rfl⟩
        refine x_aload_n C d_St_fault_55 rfl rfl ?_
        refine x_aload_n C d_St_fault_56 rfl rfl ?_
        refine x_get C k_St f_St_18 d_St_fault_57 fS (by rfl) ?_
        refine x_callV C l_St_62 v_Ta_columnsOf d_St_fault_60 (m_Ta_columnsOf pT0 se) fB rfl (by rfl) (by rfl) (by decide) (by decide) (Nat.le_of_ble_eq_true rfl) ?_
        rintro v h' ⟨rfl, rfl⟩
        refine x_callV C l_St_66 v_St_columnsAreThere d_St_fault_63 (m_St_columnsAreThere fS fpk fcd hnp hkc pO pC _ _) fS rfl (by rfl) (by rfl) (by decide) (by decide) (Nat.le_of_ble_eq_true rfl) ?_
        rintro v h' ⟨rfl, rfl⟩
        refine x_if_ne (tgt := 72) C d_St_fault_66 rfl (fun q66 => ?_) (fun q66 => ?_)
        · skip
          replace q66 := bI_t q66
          refine x_aload_n C d_St_fault_72 rfl rfl ?_
          refine x_get C k_St f_St_49 d_St_fault_73 fS (by rfl) ?_
          refine x_iconst (v := 1) C d_St_fault_76 (by decide) ?_
          refine x_icmp_ne (tgt := 98) C d_St_fault_77 rfl (fun q77 => ?_) (fun q77 => ?_)
          · skip
            have hv : ¬ (vb = 1 ∧ ¬ nc = colOf c fi) := fun z => q77 z.1
            refine x_iconst (v := 0) C d_St_fault_98 (by decide) ?_
            refine x_iret C d_St_fault_99 ?_
            refine ⟨rfl, ?_⟩
            unfold faultS
            rw [if_neg q4, if_neg hc, if_neg hs, if_neg (by rw [q66]; decide), if_neg hv]
          · skip
            refine x_aload_n C d_St_fault_80 rfl rfl ?_
            refine x_get C k_St f_St_37 d_St_fault_81 fS (by rfl) ?_
            refine x_aload_n C d_St_fault_84 rfl rfl ?_
            refine x_aload_n C d_St_fault_85 rfl rfl ?_
            refine x_get C k_St f_St_15 d_St_fault_86 fS (by rfl) ?_
            refine x_callV C l_St_62 v_Ta_columnsOf d_St_fault_89 (m_Ta_columnsOf pT0 fi) fB rfl (by rfl) (by rfl) (by decide) (by decide) (Nat.le_of_ble_eq_true rfl) ?_
            rintro v h' ⟨rfl, rfl⟩
            refine x_icmp_eq (tgt := 98) C d_St_fault_92 rfl (fun q92 => ?_) (fun q92 => ?_)
            · skip
              have hv : ¬ (vb = 1 ∧ ¬ nc = colOf c fi) := fun z => z.2 q92
              refine x_iconst (v := 0) C d_St_fault_98 (by decide) ?_
              refine x_iret C d_St_fault_99 ?_
              refine ⟨rfl, ?_⟩
              unfold faultS
              rw [if_neg q4, if_neg hc, if_neg hs, if_neg (by rw [q66]; decide), if_neg hv]
            · skip
              have hv : vb = 1 ∧ ¬ nc = colOf c fi := ⟨q77, q92⟩
              refine x_bipush (v := -5) C d_St_fault_95 (by decide) ?_
              refine x_iret C d_St_fault_97 ?_
              refine ⟨rfl, ?_⟩
              unfold faultS
              rw [if_neg q4, if_neg hc, if_neg hs, if_neg (by rw [q66]; decide), if_pos hv]
        · skip
          replace q66 := bI_f q66
          refine x_bipush (v := -3) C d_St_fault_69 (by decide) ?_
          refine x_iret C d_St_fault_71 ?_
          refine ⟨rfl, ?_⟩
          unfold faultS
          rw [if_neg q4, if_neg hc, if_neg hs, if_pos q66]
      · skip
        refine x_aload_n C d_St_fault_32 rfl rfl ?_
        refine x_aload_n C d_St_fault_33 rfl rfl ?_
        refine x_get C k_St f_St_18 d_St_fault_34 fS (by rfl) ?_
        refine x_callV C l_St_56 v_Ta_isThere d_St_fault_37 (m_Ta_isThere pT0 se) fB rfl (by rfl) (by rfl) (by decide) (by decide) (Nat.le_of_ble_eq_true rfl) ?_
        rintro v h' ⟨rfl, rfl⟩
        refine x_if_ne (tgt := 46) C d_St_fault_40 rfl (fun q40 => ?_) (fun q40 => ?_)
        · skip
          replace q40 := bI_t q40
          have hs : ¬ (¬ se = -1 ∧ colOf c se ≤ 0) := fun z => by simp [z.2] at q40
          refine x_aload_n C d_St_fault_46 rfl rfl ?_
          refine x_aload_n C d_St_fault_47 rfl rfl ?_
          refine x_aload_n C d_St_fault_48 rfl rfl ?_
          refine x_get C k_St f_St_15 d_St_fault_49 fS (by rfl) ?_
          refine x_callV C l_St_62 v_Ta_columnsOf d_St_fault_52 (m_Ta_columnsOf pT0 fi) fB rfl (by rfl) (by rfl) (by decide) (by decide) (Nat.le_of_ble_eq_true rfl) ?_
          rintro v h' ⟨rfl, rfl⟩
          refine x_aload_n C d_St_fault_55 rfl rfl ?_
          refine x_aload_n C d_St_fault_56 rfl rfl ?_
          refine x_get C k_St f_St_18 d_St_fault_57 fS (by rfl) ?_
          refine x_callV C l_St_62 v_Ta_columnsOf d_St_fault_60 (m_Ta_columnsOf pT0 se) fB rfl (by rfl) (by rfl) (by decide) (by decide) (Nat.le_of_ble_eq_true rfl) ?_
          rintro v h' ⟨rfl, rfl⟩
          refine x_callV C l_St_66 v_St_columnsAreThere d_St_fault_63 (m_St_columnsAreThere fS fpk fcd hnp hkc pO pC _ _) fS rfl (by rfl) (by rfl) (by decide) (by decide) (Nat.le_of_ble_eq_true rfl) ?_
          rintro v h' ⟨rfl, rfl⟩
          refine x_if_ne (tgt := 72) C d_St_fault_66 rfl (fun q66 => ?_) (fun q66 => ?_)
          · skip
            replace q66 := bI_t q66
            refine x_aload_n C d_St_fault_72 rfl rfl ?_
            refine x_get C k_St f_St_49 d_St_fault_73 fS (by rfl) ?_
            refine x_iconst (v := 1) C d_St_fault_76 (by decide) ?_
            refine x_icmp_ne (tgt := 98) C d_St_fault_77 rfl (fun q77 => ?_) (fun q77 => ?_)
            · skip
              have hv : ¬ (vb = 1 ∧ ¬ nc = colOf c fi) := fun z => q77 z.1
              refine x_iconst (v := 0) C d_St_fault_98 (by decide) ?_
              refine x_iret C d_St_fault_99 ?_
              refine ⟨rfl, ?_⟩
              unfold faultS
              rw [if_neg q4, if_neg hc, if_neg hs, if_neg (by rw [q66]; decide), if_neg hv]
            · skip
              refine x_aload_n C d_St_fault_80 rfl rfl ?_
              refine x_get C k_St f_St_37 d_St_fault_81 fS (by rfl) ?_
              refine x_aload_n C d_St_fault_84 rfl rfl ?_
              refine x_aload_n C d_St_fault_85 rfl rfl ?_
              refine x_get C k_St f_St_15 d_St_fault_86 fS (by rfl) ?_
              refine x_callV C l_St_62 v_Ta_columnsOf d_St_fault_89 (m_Ta_columnsOf pT0 fi) fB rfl (by rfl) (by rfl) (by decide) (by decide) (Nat.le_of_ble_eq_true rfl) ?_
              rintro v h' ⟨rfl, rfl⟩
              refine x_icmp_eq (tgt := 98) C d_St_fault_92 rfl (fun q92 => ?_) (fun q92 => ?_)
              · skip
                have hv : ¬ (vb = 1 ∧ ¬ nc = colOf c fi) := fun z => z.2 q92
                refine x_iconst (v := 0) C d_St_fault_98 (by decide) ?_
                refine x_iret C d_St_fault_99 ?_
                refine ⟨rfl, ?_⟩
                unfold faultS
                rw [if_neg q4, if_neg hc, if_neg hs, if_neg (by rw [q66]; decide), if_neg hv]
              · skip
                have hv : vb = 1 ∧ ¬ nc = colOf c fi := ⟨q77, q92⟩
                refine x_bipush (v := -5) C d_St_fault_95 (by decide) ?_
                refine x_iret C d_St_fault_97 ?_
                refine ⟨rfl, ?_⟩
                unfold faultS
                rw [if_neg q4, if_neg hc, if_neg hs, if_neg (by rw [q66]; decide), if_pos hv]
          · skip
            replace q66 := bI_f q66
            refine x_bipush (v := -3) C d_St_fault_69 (by decide) ?_
            refine x_iret C d_St_fault_71 ?_
            refine ⟨rfl, ?_⟩
            unfold faultS
            rw [if_neg q4, if_neg hc, if_neg hs, if_pos q66]
        · skip
          replace q40 := bI_f q40
          have hs : ¬ se = -1 ∧ colOf c se ≤ 0 := ⟨q29, by simpa using q40⟩
          refine x_bipush (v := -2) C d_St_fault_43 (by decide) ?_
          refine x_iret C d_St_fault_45 ?_
          refine ⟨rfl, ?_⟩
          unfold faultS
          rw [if_neg q4]
          first | (rw [if_pos hc]; done) | (rw [if_neg hc, if_pos hs]; done)
  · skip
    refine x_aload_n C d_St_fault_7 rfl rfl ?_
    refine x_aload_n C d_St_fault_8 rfl rfl ?_
    refine x_callV C l_St_52 v_St_faultOfCreate d_St_fault_9 (m_St_faultOfCreate fS fnb pT0) fS rfl (by rfl) (by rfl) (by decide) (by decide) (Nat.le_of_ble_eq_true rfl) ?_
    rintro v h' ⟨rfl, rfl⟩
    refine x_iret C d_St_fault_12 ?_
    exact ⟨rfl, by unfold faultS; rw [if_pos q4]⟩
set_option maxRecDepth 20000 in
set_option maxHeartbeats 1000000 in
theorem m_St_addPicks {V : xV} {h : xH} {S nb pk cd np n : Nat} {vb ls fi se fa nc kc : Int32} (fS : h S = some (oSt vb ls fi se fa nc nb (nI np) pk kc cd)) {po : Nat → Option Nat} {pick : Nat → Int32} (fpk : h pk = some (xR V 2 12 po)) (hn : n ≤ 6) (hnp : np + n ≤ 12) (pO : pOps h po np pick) (lo : Int32) : xM V y_St_addPicks b_St_addPicks 4 none 3 [.ref S, .int lo, .int (nI n)] h 6 12 (fun v h' => v = none ∧ ∃ po' pick', h' S = some (oSt vb ls fi se fa nc nb (nI (np + n)) pk kc cd) ∧ h' pk = some (xR V 2 12 po') ∧ pOps h' po' (np + n) pick' ∧ (∀ i, i < np → pick' i = pick i) ∧ (∀ i, i < n → pick' (np + i) = lo + nI i) ∧ xKeep [S, pk] h h') := by
  refine xM_of false (by decide) (fun h => nomatch h) (Nat.le_of_ble_eq_true rfl) (fun K C => ?_)
  show K 6 12 h 0 [(0, .ref S), (1, .int lo), (2, .int (nI n))] []
  have kp : xKeep [S, pk] h h := xKeep.rf
  have loop : ∀ m : Nat, ∀ (j : Nat) (h1 : xH) (po1 : Nat → Option Nat) (pick1 : Nat → Int32), n - j < m → j ≤ n → h1 S = some (oSt vb ls fi se fa nc nb (nI (np + j)) pk kc cd) → h1 pk = some (xR V 2 12 po1) → pOps h1 po1 (np + j) pick1 → (∀ i, i < np → pick1 i = pick i) → (∀ i, i < j → pick1 (np + i) = lo + nI i) → xKeep [S, pk] h h1 → K (6 - j) (12 - 2 * j) h1 2 [(3, .int (nI j)), (0, .ref S), (1, .int lo), (2, .int (nI n))] [] := by
    intro m
    induction m with
    | zero => intro j h1 po1 pick1 hm hj fS fpk pO1 hp1 hp2 kp; omega
    | succ m ih =>
      intro j h1 po1 pick1 hm hj fS fpk pO1 hp1 hp2 kp
      refine x_iload_n C d_St_addPicks_2 rfl rfl ?_
      refine x_iload_n C d_St_addPicks_3 rfl rfl ?_
      refine x_icmp_ge (tgt := 20) C d_St_addPicks_4 rfl (fun q4 => ?_) (fun q4 => ?_)
      · skip
        have hj2 := nge_of q4 (by omega)
        refine x_vret C d_St_addPicks_20 ?_
        have hjn : j = n := by omega
        subst hjn
        exact ⟨rfl, po1, pick1, fS, fpk, pO1, hp1, hp2, kp⟩
      · skip
        have hj2 := nlt_of q4 (by omega) (by omega)
        refine x_mono (mc := 6 - (j + 1) + 1) (ms := 12 - 2 * (j + 1) + 2) C (by omega) (by omega) ?_
        refine x_aload_n C d_St_addPicks_7 rfl rfl ?_
        refine x_iload_n C d_St_addPicks_8 rfl rfl ?_
        refine x_iload_n C d_St_addPicks_9 rfl rfl ?_
        refine x_iadd C d_St_addPicks_10 ?_
        refine x_callV C l_St_76 v_St_addPick d_St_addPicks_11 (m_St_addPick fS fpk (by omega) pO1 (lo + nI j)) fS rfl (by rfl) (by rfl) (by decide) (by decide) (Nat.le_of_ble_eq_true rfl) ?_
        rintro v1 h1 ⟨rfl, po2, fS', fpk', pO2, kp1⟩
        have kp := kp.call kp1 (kc_c (Or.inl (by simp)) (kc_c (Or.inl (by simp)) kc_n))
        have fS := fS'
        have fpk := fpk'
        refine x_iinc (v := nI (j + 1)) (k0 := 0) (lv' := [(3, _), (0, _), (1, _), (2, _)]) C d_St_addPicks_14 (by rfl) (nI_1 j) (by decide) (by rfl) ?_
        refine x_goto (tgt := 2) C d_St_addPicks_17 rfl ?_
        exact ih (j + 1) _ po2 (upd pick1 (np + j) (lo + nI j)) (by omega) (by omega) fS fpk pO2 (fun i hi => by rw [pk_un (by omega)]; exact hp1 i hi) (lt_s (fun i hi => by rw [pk_un (by omega)]; exact hp2 i hi) pk_us) kp
  refine x_iconst (v := 0) C d_St_addPicks_0 (by decide) ?_
  refine x_istore_n (lv' := [(3, _), (0, _), (1, _), (2, _)]) C d_St_addPicks_1 rfl (by decide) (by rfl) ?_
  exact loop (n + 1) 0 h po pick (by omega) (by omega) fS fpk pO (fun _ _ => rfl) lt_0 kp
set_option maxRecDepth 20000 in
set_option maxHeartbeats 1000000 in
theorem m_St_spellOutAll {V : xV} {h : xH} {S nb pk cd np nf ns : Nat} {vb ls fi se fa nc kc : Int32} (fS : h S = some (oSt vb ls fi se fa nc nb (nI np) pk kc cd)) {po : Nat → Option Nat} {pick : Nat → Int32} (fpk : h pk = some (xR V 2 12 po)) (pO : pOps h po np pick) {B ce co' sr : Nat} {f c s : Nat → Int32} (pT : pTa V h B ce co' sr f c s) (hf : colOf c fi = nI nf) (hs : colOf c se = nI ns) (hf6 : nf ≤ 6) (hs6 : ns ≤ 6) (hz : ls = 4 → np = 0) : xM V y_St_spellOutAll b_St_spellOutAll 2 none 4 [.ref S, .ref B] h 12 24 (fun v h' => v = none ∧ ∃ (np' : Nat) (po' : Nat → Option Nat) (pick' : Nat → Int32), h' S = some (oSt vb ls fi se fa nc nb (nI np') pk kc cd) ∧ h' pk = some (xR V 2 12 po') ∧ pOps h' po' np' pick' ∧ (¬ ls = 4 → np' = np ∧ pick' = pick) ∧ (ls = 4 → np' = nf + ns ∧ (∀ i, i < nf → pick' i = nI i) ∧ ∀ i, i < ns → pick' (nf + i) = 10 + nI i) ∧ xKeep [S, pk] h h') := by
  refine xM_of false (by decide) (fun h => nomatch h) (Nat.le_of_ble_eq_true rfl) (fun K C => ?_)
  show K 12 24 h 0 [(0, .ref S), (1, .ref B)] []
  have kp : xKeep [S, pk] h h := xKeep.rf
  obtain ⟨fB, fce, fco, fsr⟩ := pT
  refine x_aload_n C d_St_spellOutAll_0 rfl rfl ?_
  refine x_get C k_St f_St_9 d_St_spellOutAll_1 fS (by rfl) ?_
  refine x_iconst (v := 4) C d_St_spellOutAll_4 (by decide) ?_
  refine x_icmp_eq (tgt := 9) C d_St_spellOutAll_5 rfl (fun q5 => ?_) (fun q5 => ?_)
  · skip
    have h0 := hz q5
    subst h0
    refine x_aload_n C d_St_spellOutAll_9 rfl rfl ?_
    refine x_iconst (v := 0) C d_St_spellOutAll_10 (by decide) ?_
    refine x_aload_n C d_St_spellOutAll_11 rfl rfl ?_
    refine x_aload_n C d_St_spellOutAll_12 rfl rfl ?_
    refine x_get C k_St f_St_15 d_St_spellOutAll_13 fS (by rfl) ?_
    refine x_callV C l_St_62 v_Ta_columnsOf d_St_spellOutAll_16 (m_Ta_columnsOf ⟨fB, fce, fco, fsr⟩ fi) fB rfl (by rfl) (by rfl) (by decide) (by decide) (Nat.le_of_ble_eq_true rfl) ?_
    rintro v h' ⟨rfl, rfl⟩
    rw [hf]
    refine x_callV C l_St_73 v_St_addPicks d_St_spellOutAll_19 (m_St_addPicks fS fpk hf6 (by omega) pO 0) fS rfl (by rfl) (by rfl) (by decide) (by decide) (Nat.le_of_ble_eq_true rfl) ?_
    rintro v1 h1 ⟨rfl, po1, pick1, fS', fpk', pO1, -, hp1, kp1⟩
    have fB := kp1.get fB (nm_c (by first | assumption | exact Ne.symm (by assumption) | exact x_ne fB fS (by simp)) (nm_c (by first | assumption | exact Ne.symm (by assumption) | exact x_ne fB fpk (by simp)) nm_n))
    have fce := kp1.get fce (nm_c (by first | assumption | exact Ne.symm (by assumption) | exact x_ne fce fS (by simp)) (nm_c (by first | assumption | exact Ne.symm (by assumption) | exact x_ne fce fpk (by simp)) nm_n))
    have fco := kp1.get fco (nm_c (by first | assumption | exact Ne.symm (by assumption) | exact x_ne fco fS (by simp)) (nm_c (by first | assumption | exact Ne.symm (by assumption) | exact x_ne fco fpk (by simp)) nm_n))
    have fsr := kp1.get fsr (nm_c (by first | assumption | exact Ne.symm (by assumption) | exact x_ne fsr fS (by simp)) (nm_c (by first | assumption | exact Ne.symm (by assumption) | exact x_ne fsr fpk (by simp)) nm_n))
    have kp := kp.call kp1 (kc_c (Or.inl (by simp)) (kc_c (Or.inl (by simp)) kc_n))
    have fS := fS'
    have fpk := fpk'
    refine x_aload_n C d_St_spellOutAll_22 rfl rfl ?_
    refine x_bipush (v := 10) C d_St_spellOutAll_23 (by decide) ?_
    refine x_aload_n C d_St_spellOutAll_25 rfl rfl ?_
    refine x_aload_n C d_St_spellOutAll_26 rfl rfl ?_
    refine x_get C k_St f_St_18 d_St_spellOutAll_27 fS (by rfl) ?_
    refine x_callV C l_St_62 v_Ta_columnsOf d_St_spellOutAll_30 (m_Ta_columnsOf ⟨fB, fce, fco, fsr⟩ se) fB rfl (by rfl) (by rfl) (by decide) (by decide) (Nat.le_of_ble_eq_true rfl) ?_
    rintro v h' ⟨rfl, rfl⟩
    rw [hs]
    refine x_callV C l_St_73 v_St_addPicks d_St_spellOutAll_33 (m_St_addPicks fS fpk hs6 (by omega) pO1 10) fS rfl (by rfl) (by rfl) (by decide) (by decide) (Nat.le_of_ble_eq_true rfl) ?_
    rintro v2 h2 ⟨rfl, po2, pick2, fS', fpk', pO2, hp2, hp3, kp2⟩
    have fB := kp2.get fB (nm_c (by first | assumption | exact Ne.symm (by assumption) | exact x_ne fB fS (by simp)) (nm_c (by first | assumption | exact Ne.symm (by assumption) | exact x_ne fB fpk (by simp)) nm_n))
    have fce := kp2.get fce (nm_c (by first | assumption | exact Ne.symm (by assumption) | exact x_ne fce fS (by simp)) (nm_c (by first | assumption | exact Ne.symm (by assumption) | exact x_ne fce fpk (by simp)) nm_n))
    have fco := kp2.get fco (nm_c (by first | assumption | exact Ne.symm (by assumption) | exact x_ne fco fS (by simp)) (nm_c (by first | assumption | exact Ne.symm (by assumption) | exact x_ne fco fpk (by simp)) nm_n))
    have fsr := kp2.get fsr (nm_c (by first | assumption | exact Ne.symm (by assumption) | exact x_ne fsr fS (by simp)) (nm_c (by first | assumption | exact Ne.symm (by assumption) | exact x_ne fsr fpk (by simp)) nm_n))
    have kp := kp.call kp2 (kc_c (Or.inl (by simp)) (kc_c (Or.inl (by simp)) kc_n))
    have fS := fS'
    have fpk := fpk'
    refine x_vret C d_St_spellOutAll_36 ?_
    refine ⟨rfl, _, po2, pick2, fS, fpk, pO2, fun z => absurd q5 z, fun _ => ⟨by omega, fun i hi => ?_, fun i hi => ?_⟩, kp⟩
    · rw [hp2 i (by omega)]
      have := hp1 i hi
      rw [Nat.zero_add] at this
      rw [this]
      exact Int32.zero_add _
    · have := hp3 i hi
      rw [Nat.zero_add] at this
      exact this
  · skip
    refine x_vret C d_St_spellOutAll_8 ?_
    exact ⟨rfl, np, po, pick, fS, fpk, pO, fun _ => ⟨rfl, rfl⟩, fun z => absurd z q5, kp⟩
end
section
/-! CursorBase$Parser -/
set_option maxRecDepth 20000 in
set_option maxHeartbeats 1000000 in
theorem m_Pa_takeWordBetween {V : xV} {h : xH} {P T kr nr S : Nat} {ks ns : Nat → Int32} {n p : Nat} (fP : h P = some (oPa T S (nI p))) (pT : pTo V h T kr nr ks ns n) (hp : p ≤ 60) (lo hi : Int32) : xM V y_Pa_takeWordBetween b_Pa_takeWordBetween 3 (some .int) 1 [.ref P, .int lo, .int hi] h 0 0 (fun v h' => v = some (.int (if tW ks ns n p lo hi = true then ns p else -1)) ∧ h' P = some (oPa T S (nI (if tW ks ns n p lo hi = true then p + 1 else p))) ∧ xKeep [P] h h') := by
  refine xM_of false (by decide) (fun h => nomatch h) (Nat.le_of_ble_eq_true rfl) (fun K C => ?_)
  show K 0 0 h 0 [(0, .ref P), (1, .int lo), (2, .int hi)] []
  have kp : xKeep [P] h h := xKeep.rf
  obtain ⟨fT, fkr, fnr, hkn, hn60⟩ := pT
  refine x_aload_n C d_Pa_takeWordBetween_0 rfl rfl ?_
  refine x_get C k_Pa f_Pa_18 d_Pa_takeWordBetween_1 fP (by rfl) ?_
  refine x_aload_n C d_Pa_takeWordBetween_4 rfl rfl ?_
  refine x_get C k_Pa f_Pa_52 d_Pa_takeWordBetween_5 fP (by rfl) ?_
  refine x_iconst (v := 0) C d_Pa_takeWordBetween_8 (by decide) ?_
  refine x_callV C l_Pa_75 v_To_isKind d_Pa_takeWordBetween_9 (m_To_isKind ⟨fT, fkr, fnr, hkn, hn60⟩ (nI p) 0) fT rfl (by rfl) (by rfl) (by decide) (by decide) (Nat.le_of_ble_eq_true rfl) ?_
  rintro v h' ⟨rfl, rfl⟩
  rw [kd_eq (by omega) (by omega)]
  refine x_if_eq (tgt := 47) C d_Pa_takeWordBetween_12 rfl (fun q12 => ?_) (fun q12 => ?_)
  · skip
    replace q12 := bI_f q12
    have hk : ¬ (p < n ∧ ks p = 0) := fun z => by rw [tK_iff.mpr z] at q12; cases q12
    refine x_iconst (v := -1) C d_Pa_takeWordBetween_47 (by decide) ?_
    refine x_iret C d_Pa_takeWordBetween_48 ?_
    have ht : ¬ tW ks ns n p lo hi = true := fun z => by
      obtain ⟨z1, z2, z3, z4⟩ := tW_iff.mp z
      first | exact hk ⟨z1, z2⟩ | exact z3 q28 | exact absurd (Int32.not_lt.mp z4) q44
    rw [if_neg ht, if_neg ht]
    exact ⟨rfl, fP, kp⟩
  · skip
    replace q12 := bI_t q12
    have hk := tK_iff.mp q12
    refine x_aload_n C d_Pa_takeWordBetween_15 rfl rfl ?_
    refine x_get C k_Pa f_Pa_18 d_Pa_takeWordBetween_16 fP (by rfl) ?_
    refine x_get C k_To f_Pa_79 d_Pa_takeWordBetween_19 fT (by rfl) ?_
    refine x_aload_n C d_Pa_takeWordBetween_22 rfl rfl ?_
    refine x_get C k_Pa f_Pa_52 d_Pa_takeWordBetween_23 fP (by rfl) ?_
    refine x_iald C d_Pa_takeWordBetween_26 fnr (vp_in_nI (by omega) (by decide)) ?_
    rw [nI_clamp (by omega)]
    refine x_iload_n C d_Pa_takeWordBetween_27 rfl rfl ?_
    refine x_icmp_lt (tgt := 47) C d_Pa_takeWordBetween_28 rfl (fun q28 => ?_) (fun q28 => ?_)
    · skip
      refine x_iconst (v := -1) C d_Pa_takeWordBetween_47 (by decide) ?_
      refine x_iret C d_Pa_takeWordBetween_48 ?_
      have ht : ¬ tW ks ns n p lo hi = true := fun z => by
        obtain ⟨z1, z2, z3, z4⟩ := tW_iff.mp z
        first | exact hk ⟨z1, z2⟩ | exact z3 q28 | exact absurd (Int32.not_lt.mp z4) q44
      rw [if_neg ht, if_neg ht]
      exact ⟨rfl, fP, kp⟩
    · skip
      refine x_aload_n C d_Pa_takeWordBetween_31 rfl rfl ?_
      refine x_get C k_Pa f_Pa_18 d_Pa_takeWordBetween_32 fP (by rfl) ?_
      refine x_get C k_To f_Pa_79 d_Pa_takeWordBetween_35 fT (by rfl) ?_
      refine x_aload_n C d_Pa_takeWordBetween_38 rfl rfl ?_
      refine x_get C k_Pa f_Pa_52 d_Pa_takeWordBetween_39 fP (by rfl) ?_
      refine x_iald C d_Pa_takeWordBetween_42 fnr (vp_in_nI (by omega) (by decide)) ?_
      rw [nI_clamp (by omega)]
      refine x_iload_n C d_Pa_takeWordBetween_43 rfl rfl ?_
      refine x_icmp_le (tgt := 49) C d_Pa_takeWordBetween_44 rfl (fun q44 => ?_) (fun q44 => ?_)
      · skip
        refine x_aload_n C d_Pa_takeWordBetween_49 rfl rfl ?_
        refine x_dup C d_Pa_takeWordBetween_50 rfl ?_
        refine x_get C k_Pa f_Pa_52 d_Pa_takeWordBetween_51 fP (by rfl) ?_
        refine x_iconst (v := 1) C d_Pa_takeWordBetween_54 (by decide) ?_
        refine x_iadd C d_Pa_takeWordBetween_55 ?_
        refine x_put (fs' := [_, _, _]) C k_Pa f_Pa_52 d_Pa_takeWordBetween_56 fP (by rfl) (by rfl) (by rfl) (Nat.le_of_ble_eq_true rfl) (by rfl) (fun h1 u1 => ?_)
        have fT := xUp_ne u1 fT (by first | assumption | exact Ne.symm (by assumption) | exact x_ne fT fP (by simp))
        have fkr := xUp_ne u1 fkr (by first | assumption | exact Ne.symm (by assumption) | exact x_ne fkr fP (by simp))
        have fnr := xUp_ne u1 fnr (by first | assumption | exact Ne.symm (by assumption) | exact x_ne fnr fP (by simp))
        have fP := xUp_at u1
        have kp := kp.up u1 (by simp)
        refine x_aload_n C d_Pa_takeWordBetween_59 rfl rfl ?_
        refine x_get C k_Pa f_Pa_18 d_Pa_takeWordBetween_60 fP (by rfl) ?_
        refine x_get C k_To f_Pa_79 d_Pa_takeWordBetween_63 fT (by rfl) ?_
        refine x_aload_n C d_Pa_takeWordBetween_66 rfl rfl ?_
        refine x_get C k_Pa f_Pa_52 d_Pa_takeWordBetween_67 fP (by rfl) ?_
        refine x_iconst (v := 1) C d_Pa_takeWordBetween_70 (by decide) ?_
        refine x_isub C d_Pa_takeWordBetween_71 ?_
        rw [nI_1, nI_pred]
        refine x_iald C d_Pa_takeWordBetween_72 fnr (vp_in_nI (by omega) (by decide)) ?_
        rw [nI_clamp (by omega)]
        refine x_iret C d_Pa_takeWordBetween_73 ?_
        have ht : tW ks ns n p lo hi = true := tW_iff.mpr ⟨hk.1, hk.2, q28, Int32.not_lt.mpr q44⟩
        rw [if_pos ht, if_pos ht]
        exact ⟨rfl, by rw [fP, nI_1], kp⟩
      · skip
        refine x_iconst (v := -1) C d_Pa_takeWordBetween_47 (by decide) ?_
        refine x_iret C d_Pa_takeWordBetween_48 ?_
        have ht : ¬ tW ks ns n p lo hi = true := fun z => by
          obtain ⟨z1, z2, z3, z4⟩ := tW_iff.mp z
          first | exact hk ⟨z1, z2⟩ | exact z3 q28 | exact absurd (Int32.not_lt.mp z4) q44
        rw [if_neg ht, if_neg ht]
        exact ⟨rfl, fP, kp⟩
set_option maxRecDepth 20000 in
set_option maxHeartbeats 1000000 in
theorem m_Pa_takeTable {V : xV} {h : xH} {P T kr nr S : Nat} {ks ns : Nat → Int32} {n p : Nat} (fP : h P = some (oPa T S (nI p))) (pT : pTo V h T kr nr ks ns n) (hp : p ≤ 60) : xM V y_Pa_takeTable b_Pa_takeTable 1 (some .int) 1 [.ref P] h 0 0 (fun v h' => v = some (.int (if tK ks n p 1 = true then ns p else -1)) ∧ h' P = some (oPa T S (nI (if tK ks n p 1 = true then p + 1 else p))) ∧ xKeep [P] h h') := by
  refine xM_of false (by decide) (fun h => nomatch h) (Nat.le_of_ble_eq_true rfl) (fun K C => ?_)
  show K 0 0 h 0 [(0, .ref P)] []
  have kp : xKeep [P] h h := xKeep.rf
  obtain ⟨fT, fkr, fnr, hkn, hn60⟩ := pT
  refine x_aload_n C d_Pa_takeTable_0 rfl rfl ?_
  refine x_get C k_Pa f_Pa_18 d_Pa_takeTable_1 fP (by rfl) ?_
  refine x_aload_n C d_Pa_takeTable_4 rfl rfl ?_
  refine x_get C k_Pa f_Pa_52 d_Pa_takeTable_5 fP (by rfl) ?_
  refine x_iconst (v := 1) C d_Pa_takeTable_8 (by decide) ?_
  refine x_callV C l_Pa_75 v_To_isKind d_Pa_takeTable_9 (m_To_isKind ⟨fT, fkr, fnr, hkn, hn60⟩ (nI p) 1) fT rfl (by rfl) (by rfl) (by decide) (by decide) (Nat.le_of_ble_eq_true rfl) ?_
  rintro v h' ⟨rfl, rfl⟩
  rw [kd_eq (by omega) (by omega)]
  refine x_if_ne (tgt := 17) C d_Pa_takeTable_12 rfl (fun q12 => ?_) (fun q12 => ?_)
  · skip
    replace q12 := bI_t q12
    have hk := tK_iff.mp q12
    refine x_aload_n C d_Pa_takeTable_17 rfl rfl ?_
    refine x_dup C d_Pa_takeTable_18 rfl ?_
    refine x_get C k_Pa f_Pa_52 d_Pa_takeTable_19 fP (by rfl) ?_
    refine x_iconst (v := 1) C d_Pa_takeTable_22 (by decide) ?_
    refine x_iadd C d_Pa_takeTable_23 ?_
    refine x_put (fs' := [_, _, _]) C k_Pa f_Pa_52 d_Pa_takeTable_24 fP (by rfl) (by rfl) (by rfl) (Nat.le_of_ble_eq_true rfl) (by rfl) (fun h1 u1 => ?_)
    have fT := xUp_ne u1 fT (by first | assumption | exact Ne.symm (by assumption) | exact x_ne fT fP (by simp))
    have fkr := xUp_ne u1 fkr (by first | assumption | exact Ne.symm (by assumption) | exact x_ne fkr fP (by simp))
    have fnr := xUp_ne u1 fnr (by first | assumption | exact Ne.symm (by assumption) | exact x_ne fnr fP (by simp))
    have fP := xUp_at u1
    have kp := kp.up u1 (by simp)
    refine x_aload_n C d_Pa_takeTable_27 rfl rfl ?_
    refine x_get C k_Pa f_Pa_18 d_Pa_takeTable_28 fP (by rfl) ?_
    refine x_get C k_To f_Pa_79 d_Pa_takeTable_31 fT (by rfl) ?_
    refine x_aload_n C d_Pa_takeTable_34 rfl rfl ?_
    refine x_get C k_Pa f_Pa_52 d_Pa_takeTable_35 fP (by rfl) ?_
    refine x_iconst (v := 1) C d_Pa_takeTable_38 (by decide) ?_
    refine x_isub C d_Pa_takeTable_39 ?_
    rw [nI_1, nI_pred]
    refine x_iald C d_Pa_takeTable_40 fnr (vp_in_nI (by omega) (by decide)) ?_
    rw [nI_clamp (by omega)]
    refine x_iret C d_Pa_takeTable_41 ?_
    rw [if_pos q12, if_pos q12]
    exact ⟨rfl, by rw [fP, nI_1], kp⟩
  · skip
    replace q12 := bI_f q12
    refine x_iconst (v := -1) C d_Pa_takeTable_15 (by decide) ?_
    refine x_iret C d_Pa_takeTable_16 ?_
    rw [if_neg (by rw [q12]; decide), if_neg (by rw [q12]; decide)]
    exact ⟨rfl, fP, kp⟩
set_option maxRecDepth 20000 in
set_option maxHeartbeats 1000000 in
theorem m_Pa_takeWord {V : xV} {h : xH} {P T kr nr S : Nat} {ks ns : Nat → Int32} {n p : Nat} (fP : h P = some (oPa T S (nI p))) (pT : pTo V h T kr nr ks ns n) (hp : p ≤ 60) (wd : Int32) (hwd : ¬ wd = -1) : xM V y_Pa_takeWord b_Pa_takeWord 2 (some .boolean) 2 [.ref P, .int wd] h 0 0 (fun v h' => v = some (.int (bI (tW ks ns n p wd wd))) ∧ h' P = some (oPa T S (nI (if tW ks ns n p wd wd = true then p + 1 else p))) ∧ xKeep [P] h h') := by
  refine xM_of false (by decide) (fun h => nomatch h) (Nat.le_of_ble_eq_true rfl) (fun K C => ?_)
  show K 0 0 h 0 [(0, .ref P), (1, .int wd)] []
  have kp : xKeep [P] h h := xKeep.rf
  obtain ⟨fT, fkr, fnr, hkn, hn60⟩ := pT
  refine x_aload_n C d_Pa_takeWord_0 rfl rfl ?_
  refine x_iload_n C d_Pa_takeWord_1 rfl rfl ?_
  refine x_iload_n C d_Pa_takeWord_2 rfl rfl ?_
  refine x_callV C l_Pa_22 v_Pa_takeWordBetween d_Pa_takeWord_3 (m_Pa_takeWordBetween fP ⟨fT, fkr, fnr, hkn, hn60⟩ hp wd wd) fP rfl (by rfl) (by rfl) (by decide) (by decide) (Nat.le_of_ble_eq_true rfl) ?_
  rintro v1 h1 ⟨rfl, fP', kp1⟩
  have fT := kp1.get fT (nm_c (by first | assumption | exact Ne.symm (by assumption) | exact x_ne fT fP (by simp)) nm_n)
  have fkr := kp1.get fkr (nm_c (by first | assumption | exact Ne.symm (by assumption) | exact x_ne fkr fP (by simp)) nm_n)
  have fnr := kp1.get fnr (nm_c (by first | assumption | exact Ne.symm (by assumption) | exact x_ne fnr fP (by simp)) nm_n)
  have kp := kp.call kp1 (kc_c (Or.inl (by simp)) kc_n)
  have fP := fP'
  refine x_iload_n C d_Pa_takeWord_6 rfl rfl ?_
  refine x_icmp_ne (tgt := 14) C d_Pa_takeWord_7 rfl (fun q7 => ?_) (fun q7 => ?_)
  · skip
    refine x_iconst (v := 0) C d_Pa_takeWord_14 (by decide) ?_
    refine x_zret C d_Pa_takeWord_15 (by rfl) ?_
    refine ⟨?_, fP, kp⟩
    by_cases ht : tW ks ns n p wd wd = true
    · rw [if_pos ht] at q7
      have hz := tW_iff.mp ht
      have he : ns p = wd := Int32.le_antisymm (Int32.not_lt.mp hz.2.2.2) (Int32.not_lt.mp hz.2.2.1)
      rw [ht]
      first | exact absurd he q7 | rfl
    · rw [if_neg ht] at q7
      rw [Bool.eq_false_iff.mpr ht]
      first | exact absurd q7.symm hwd | rfl
  · skip
    refine x_iconst (v := 1) C d_Pa_takeWord_10 (by decide) ?_
    refine x_goto (tgt := 15) C d_Pa_takeWord_11 rfl ?_
    refine x_zret C d_Pa_takeWord_15 (by rfl) ?_
    refine ⟨?_, fP, kp⟩
    by_cases ht : tW ks ns n p wd wd = true
    · rw [if_pos ht] at q7
      have hz := tW_iff.mp ht
      have he : ns p = wd := Int32.le_antisymm (Int32.not_lt.mp hz.2.2.2) (Int32.not_lt.mp hz.2.2.1)
      rw [ht]
      first | exact absurd he q7 | rfl
    · rw [if_neg ht] at q7
      rw [Bool.eq_false_iff.mpr ht]
      first | exact absurd q7.symm hwd | rfl
set_option maxRecDepth 20000 in
set_option maxHeartbeats 1000000 in
theorem m_Pa_takeFirstTable {V : xV} {h : xH} {P T kr nr S : Nat} {ks ns : Nat → Int32} {n p : Nat} (fP : h P = some (oPa T S (nI p))) (pT : pTo V h T kr nr ks ns n) (hp : p ≤ 60) {nb pk cd : Nat} {vb ls fi se fa nc np kc : Int32} (fS : h S = some (oSt vb ls fi se fa nc nb np pk kc cd)) : xM V y_Pa_takeFirstTable b_Pa_takeFirstTable 1 (some .boolean) 2 [.ref P] h 0 0 (fun v h' => v = some (.int (bI (!decide ((if tK ks n p 1 = true then ns p else -1) = -1)))) ∧ h' P = some (oPa T S (nI (if tK ks n p 1 = true then p + 1 else p))) ∧ h' S = some (oSt vb ls (if tK ks n p 1 = true then ns p else -1) se fa nc nb np pk kc cd) ∧ xKeep [P, S] h h') := by
  refine xM_of false (by decide) (fun h => nomatch h) (Nat.le_of_ble_eq_true rfl) (fun K C => ?_)
  show K 0 0 h 0 [(0, .ref P)] []
  have kp : xKeep [P, S] h h := xKeep.rf
  obtain ⟨fT, fkr, fnr, hkn, hn60⟩ := pT
  refine x_aload_n C d_Pa_takeFirstTable_0 rfl rfl ?_
  refine x_get C k_Pa f_Pa_12 d_Pa_takeFirstTable_1 fP (by rfl) ?_
  refine x_aload_n C d_Pa_takeFirstTable_4 rfl rfl ?_
  refine x_callV C l_Pa_64 v_Pa_takeTable d_Pa_takeFirstTable_5 (m_Pa_takeTable fP ⟨fT, fkr, fnr, hkn, hn60⟩ hp) fP rfl (by rfl) (by rfl) (by decide) (by decide) (Nat.le_of_ble_eq_true rfl) ?_
  rintro v1 h1 ⟨rfl, fP', kp1⟩
  have fT := kp1.get fT (nm_c (by first | assumption | exact Ne.symm (by assumption) | exact x_ne fT fP (by simp)) nm_n)
  have fkr := kp1.get fkr (nm_c (by first | assumption | exact Ne.symm (by assumption) | exact x_ne fkr fP (by simp)) nm_n)
  have fnr := kp1.get fnr (nm_c (by first | assumption | exact Ne.symm (by assumption) | exact x_ne fnr fP (by simp)) nm_n)
  have fS := kp1.get fS (nm_c (by first | assumption | exact Ne.symm (by assumption) | exact x_ne fS fP (by simp)) nm_n)
  have kp := kp.call kp1 (kc_c (Or.inl (by simp)) kc_n)
  have fP := fP'
  refine x_put (fs' := [_, _, _, _, _, _, _, _, _, _, _]) C k_St f_Pa_83 d_Pa_takeFirstTable_8 fS (by rfl) (by rfl) (by rfl) (Nat.le_of_ble_eq_true rfl) (by rfl) (fun h2 u2 => ?_)
  have fP := xUp_ne u2 fP (by first | assumption | exact Ne.symm (by assumption) | exact x_ne fP fS (by simp))
  have fT := xUp_ne u2 fT (by first | assumption | exact Ne.symm (by assumption) | exact x_ne fT fS (by simp))
  have fkr := xUp_ne u2 fkr (by first | assumption | exact Ne.symm (by assumption) | exact x_ne fkr fS (by simp))
  have fnr := xUp_ne u2 fnr (by first | assumption | exact Ne.symm (by assumption) | exact x_ne fnr fS (by simp))
  have fS := xUp_at u2
  have kp := kp.up u2 (by simp)
  refine x_aload_n C d_Pa_takeFirstTable_11 rfl rfl ?_
  refine x_get C k_Pa f_Pa_12 d_Pa_takeFirstTable_12 fP (by rfl) ?_
  refine x_get C k_St f_Pa_83 d_Pa_takeFirstTable_15 fS (by rfl) ?_
  refine x_iconst (v := -1) C d_Pa_takeFirstTable_18 (by decide) ?_
  refine x_icmp_eq (tgt := 26) C d_Pa_takeFirstTable_19 rfl (fun q19 => ?_) (fun q19 => ?_)
  · skip
    refine x_iconst (v := 0) C d_Pa_takeFirstTable_26 (by decide) ?_
    refine x_zret C d_Pa_takeFirstTable_27 (by rfl) ?_
    refine ⟨?_, fP, fS, kp⟩
    simp [q19, bI]
  · skip
    refine x_iconst (v := 1) C d_Pa_takeFirstTable_22 (by decide) ?_
    refine x_goto (tgt := 27) C d_Pa_takeFirstTable_23 rfl ?_
    refine x_zret C d_Pa_takeFirstTable_27 (by rfl) ?_
    refine ⟨?_, fP, fS, kp⟩
    simp [q19, bI]
set_option maxRecDepth 20000 in
set_option maxHeartbeats 1000000 in
theorem m_Pa_takeFrom {V : xV} {h : xH} {P T kr nr S : Nat} {ks ns : Nat → Int32} {n p : Nat} (fP : h P = some (oPa T S (nI p))) (pT : pTo V h T kr nr ks ns n) (hp : p ≤ 60) {nb pk cd : Nat} {vb ls fi se fa nc np kc : Int32} (fS : h S = some (oSt vb ls fi se fa nc nb np pk kc cd)) : xM V y_Pa_takeFrom b_Pa_takeFrom 1 (some .boolean) 3 [.ref P] h 0 0 (fun v h' => ∃ ok : Bool, v = some (.int (bI ok)) ∧ xKeep [P, S] h h' ∧ (ok = true ↔ tW ks ns n p 7 7 = true ∧ tK ks n (p + 1) 1 = true ∧ ¬ ns (p + 1) = -1) ∧ (ok = true → h' P = some (oPa T S (nI (if tK ks n (p + 2) 1 = true then p + 3 else p + 2))) ∧ h' S = some (oSt vb ls (ns (p + 1)) (if tK ks n (p + 2) 1 = true then ns (p + 2) else -1) fa nc nb np pk kc cd))) := by
  refine xM_of false (by decide) (fun h => nomatch h) (Nat.le_of_ble_eq_true rfl) (fun K C => ?_)
  show K 0 0 h 0 [(0, .ref P)] []
  have kp : xKeep [P, S] h h := xKeep.rf
  obtain ⟨fT, fkr, fnr, hkn, hn60⟩ := pT
  refine x_aload_n C d_Pa_takeFrom_0 rfl rfl ?_
  refine x_bipush (v := 7) C d_Pa_takeFrom_1 (by decide) ?_
  refine x_callV C l_Pa_60 v_Pa_takeWord d_Pa_takeFrom_3 (m_Pa_takeWord fP ⟨fT, fkr, fnr, hkn, hn60⟩ hp 7 (by decide)) fP rfl (by rfl) (by rfl) (by decide) (by decide) (Nat.le_of_ble_eq_true rfl) ?_
  rintro v1 h1 ⟨rfl, fP', kp1⟩
  have fT := kp1.get fT (nm_c (by first | assumption | exact Ne.symm (by assumption) | exact x_ne fT fP (by simp)) nm_n)
  have fkr := kp1.get fkr (nm_c (by first | assumption | exact Ne.symm (by assumption) | exact x_ne fkr fP (by simp)) nm_n)
  have fnr := kp1.get fnr (nm_c (by first | assumption | exact Ne.symm (by assumption) | exact x_ne fnr fP (by simp)) nm_n)
  have fS := kp1.get fS (nm_c (by first | assumption | exact Ne.symm (by assumption) | exact x_ne fS fP (by simp)) nm_n)
  have kp := kp.call kp1 (kc_c (Or.inl (by simp)) kc_n)
  have fP := fP'
  refine x_if_eq (tgt := 16) C d_Pa_takeFrom_6 rfl (fun q6 => ?_) (fun q6 => ?_)
  · skip
    replace q6 := bI_f q6
    refine x_iconst (v := 0) C d_Pa_takeFrom_16 (by decide) ?_
    refine x_zret C d_Pa_takeFrom_17 (by rfl) ?_
    refine ⟨false, rfl, kp, ⟨fun z => (by cases z), fun z => ?_⟩, fun z => (by cases z)⟩
    first | (rw [z.1] at q6; cases q6; done) | (rw [if_pos z.2.1] at hq; exact absurd hq z.2.2)
  · skip
    replace q6 := bI_t q6
    rw [if_pos q6] at fP
    have hw := tW_iff.mp q6
    refine x_aload_n C d_Pa_takeFrom_9 rfl rfl ?_
    refine x_callV C l_Pa_30 v_Pa_takeFirstTable d_Pa_takeFrom_10 (m_Pa_takeFirstTable (p := p + 1) fP ⟨fT, fkr, fnr, hkn, hn60⟩ (by omega) fS) fP rfl (by rfl) (by rfl) (by decide) (by decide) (Nat.le_of_ble_eq_true rfl) ?_
    rintro v2 h2 ⟨rfl, fP', fS', kp2⟩
    have fT := kp2.get fT (nm_c (by first | assumption | exact Ne.symm (by assumption) | exact x_ne fT fP (by simp)) (nm_c (by first | assumption | exact Ne.symm (by assumption) | exact x_ne fT fS (by simp)) nm_n))
    have fkr := kp2.get fkr (nm_c (by first | assumption | exact Ne.symm (by assumption) | exact x_ne fkr fP (by simp)) (nm_c (by first | assumption | exact Ne.symm (by assumption) | exact x_ne fkr fS (by simp)) nm_n))
    have fnr := kp2.get fnr (nm_c (by first | assumption | exact Ne.symm (by assumption) | exact x_ne fnr fP (by simp)) (nm_c (by first | assumption | exact Ne.symm (by assumption) | exact x_ne fnr fS (by simp)) nm_n))
    have kp := kp.call kp2 (kc_c (Or.inl (by simp)) (kc_c (Or.inl (by simp)) kc_n))
    have fP := fP'
    have fS := fS'
    refine x_if_ne (tgt := 18) C d_Pa_takeFrom_13 rfl (fun q13 => ?_) (fun q13 => ?_)
    · skip
      replace q13 := bI_t q13
      have hq : ¬ (if tK ks n (p + 1) 1 = true then ns (p + 1) else -1) = -1 := by simpa using q13
      have ht1 : tK ks n (p + 1) 1 = true := by
        by_cases z : tK ks n (p + 1) 1 = true
        · exact z
        · rw [if_neg z] at hq; exact absurd rfl hq
      have hlt := (tK_iff.mp ht1).1
      rw [if_pos ht1] at hq
      rw [if_pos ht1] at fP fS
      refine x_aload_n C d_Pa_takeFrom_18 rfl rfl ?_
      refine x_get C k_Pa f_Pa_12 d_Pa_takeFrom_19 fP (by rfl) ?_
      refine x_aload_n C d_Pa_takeFrom_22 rfl rfl ?_
      refine x_callV C l_Pa_64 v_Pa_takeTable d_Pa_takeFrom_23 (m_Pa_takeTable (p := p + 2) fP ⟨fT, fkr, fnr, hkn, hn60⟩ (by omega)) fP rfl (by rfl) (by rfl) (by decide) (by decide) (Nat.le_of_ble_eq_true rfl) ?_
      rintro v3 h3 ⟨rfl, fP', kp3⟩
      have fT := kp3.get fT (nm_c (by first | assumption | exact Ne.symm (by assumption) | exact x_ne fT fP (by simp)) nm_n)
      have fkr := kp3.get fkr (nm_c (by first | assumption | exact Ne.symm (by assumption) | exact x_ne fkr fP (by simp)) nm_n)
      have fnr := kp3.get fnr (nm_c (by first | assumption | exact Ne.symm (by assumption) | exact x_ne fnr fP (by simp)) nm_n)
      have fS := kp3.get fS (nm_c (by first | assumption | exact Ne.symm (by assumption) | exact x_ne fS fP (by simp)) nm_n)
      have kp := kp.call kp3 (kc_c (Or.inl (by simp)) kc_n)
      have fP := fP'
      refine x_put (fs' := [_, _, _, _, _, _, _, _, _, _, _]) C k_St f_Pa_68 d_Pa_takeFrom_26 fS (by rfl) (by rfl) (by rfl) (Nat.le_of_ble_eq_true rfl) (by rfl) (fun h4 u4 => ?_)
      have fP := xUp_ne u4 fP (by first | assumption | exact Ne.symm (by assumption) | exact x_ne fP fS (by simp))
      have fT := xUp_ne u4 fT (by first | assumption | exact Ne.symm (by assumption) | exact x_ne fT fS (by simp))
      have fkr := xUp_ne u4 fkr (by first | assumption | exact Ne.symm (by assumption) | exact x_ne fkr fS (by simp))
      have fnr := xUp_ne u4 fnr (by first | assumption | exact Ne.symm (by assumption) | exact x_ne fnr fS (by simp))
      have fS := xUp_at u4
      have kp := kp.up u4 (by simp)
      refine x_iconst (v := 1) C d_Pa_takeFrom_29 (by decide) ?_
      refine x_zret C d_Pa_takeFrom_30 (by rfl) ?_
      exact ⟨true, rfl, kp, ⟨fun _ => ⟨q6, ht1, hq⟩, fun _ => rfl⟩, fun _ => ⟨fP, fS⟩⟩
    · skip
      replace q13 := bI_f q13
      have hq : (if tK ks n (p + 1) 1 = true then ns (p + 1) else -1) = -1 := by simpa using q13
      refine x_iconst (v := 0) C d_Pa_takeFrom_16 (by decide) ?_
      refine x_zret C d_Pa_takeFrom_17 (by rfl) ?_
      refine ⟨false, rfl, kp, ⟨fun z => (by cases z), fun z => ?_⟩, fun z => (by cases z)⟩
      first | (rw [z.1] at q6; cases q6; done) | (rw [if_pos z.2.1] at hq; exact absurd hq z.2.2)
set_option maxRecDepth 20000 in
set_option maxHeartbeats 1000000 in
theorem m_Pa_takeOrder {V : xV} {h : xH} {P T kr nr S : Nat} {ks ns : Nat → Int32} {n p : Nat} (fP : h P = some (oPa T S (nI p))) (pT : pTo V h T kr nr ks ns n) (hp : p ≤ 60) {nb pk cd : Nat} {vb ls fi se fa nc np kc : Int32} (fS : h S = some (oSt vb ls fi se fa nc nb np pk kc cd)) : xM V y_Pa_takeOrder b_Pa_takeOrder 1 (some .boolean) 3 [.ref P] h 0 0 (fun v h' => v = some (.int 1) ∧ h' P = some (oPa T S (nI (if tW ks ns n p 13 13 = true then p + 1 else p))) ∧ h' S = some (oSt vb ls fi se (bI (tW ks ns n p 13 13)) nc nb np pk kc cd) ∧ xKeep [P, S] h h') := by
  refine xM_of false (by decide) (fun h => nomatch h) (Nat.le_of_ble_eq_true rfl) (fun K C => ?_)
  show K 0 0 h 0 [(0, .ref P)] []
  have kp : xKeep [P, S] h h := xKeep.rf
  obtain ⟨fT, fkr, fnr, hkn, hn60⟩ := pT
  refine x_aload_n C d_Pa_takeOrder_0 rfl rfl ?_
  refine x_get C k_Pa f_Pa_12 d_Pa_takeOrder_1 fP (by rfl) ?_
  refine x_aload_n C d_Pa_takeOrder_4 rfl rfl ?_
  refine x_bipush (v := 13) C d_Pa_takeOrder_5 (by decide) ?_
  refine x_callV C l_Pa_60 v_Pa_takeWord d_Pa_takeOrder_7 (m_Pa_takeWord fP ⟨fT, fkr, fnr, hkn, hn60⟩ hp 13 (by decide)) fP rfl (by rfl) (by rfl) (by decide) (by decide) (Nat.le_of_ble_eq_true rfl) ?_
  rintro v1 h1 ⟨rfl, fP', kp1⟩
  have fT := kp1.get fT (nm_c (by first | assumption | exact Ne.symm (by assumption) | exact x_ne fT fP (by simp)) nm_n)
  have fkr := kp1.get fkr (nm_c (by first | assumption | exact Ne.symm (by assumption) | exact x_ne fkr fP (by simp)) nm_n)
  have fnr := kp1.get fnr (nm_c (by first | assumption | exact Ne.symm (by assumption) | exact x_ne fnr fP (by simp)) nm_n)
  have fS := kp1.get fS (nm_c (by first | assumption | exact Ne.symm (by assumption) | exact x_ne fS fP (by simp)) nm_n)
  have kp := kp.call kp1 (kc_c (Or.inl (by simp)) kc_n)
  have fP := fP'
  refine x_put (fs' := [_, _, _, _, _, _, _, _, _, _, _]) C k_St f_Pa_71 d_Pa_takeOrder_10 fS (by rfl) (by cases tW ks ns n p 13 13 <;> rfl) (by cases tW ks ns n p 13 13 <;> rfl) (Nat.le_of_ble_eq_true rfl) (by rfl) (fun h2 u2 => ?_)
  have fP := xUp_ne u2 fP (by first | assumption | exact Ne.symm (by assumption) | exact x_ne fP fS (by simp))
  have fT := xUp_ne u2 fT (by first | assumption | exact Ne.symm (by assumption) | exact x_ne fT fS (by simp))
  have fkr := xUp_ne u2 fkr (by first | assumption | exact Ne.symm (by assumption) | exact x_ne fkr fS (by simp))
  have fnr := xUp_ne u2 fnr (by first | assumption | exact Ne.symm (by assumption) | exact x_ne fnr fS (by simp))
  have fS := xUp_at u2
  have kp := kp.up u2 (by simp)
  refine x_iconst (v := 1) C d_Pa_takeOrder_13 (by decide) ?_
  refine x_zret C d_Pa_takeOrder_14 (by rfl) ?_
  exact ⟨rfl, fP, fS, kp⟩
set_option maxRecDepth 20000 in
set_option maxHeartbeats 1000000 in
theorem m_Pa_takeNumber {V : xV} {h : xH} {P T kr nr S : Nat} {ks ns : Nat → Int32} {n p : Nat} (fP : h P = some (oPa T S (nI p))) (pT : pTo V h T kr nr ks ns n) (hp : p ≤ 60) {nb pk cd nc : Nat} {vb ls fi se fa np kc : Int32} {g : Nat → Int32} (fS : h S = some (oSt vb ls fi se fa (nI nc) nb np pk kc cd)) (fnb : h nb = some (xI V 6 g)) (hnc : nc < 1000) : xM V y_Pa_takeNumber b_Pa_takeNumber 1 (some .boolean) 2 [.ref P] h 0 0 (fun v h' => v = some (.int (bI (tK ks n p 3))) ∧ h' P = some (oPa T S (nI (if tK ks n p 3 = true then p + 1 else p))) ∧ h' S = some (oSt vb ls fi se fa (nI (if tK ks n p 3 = true then nc + 1 else nc)) nb np pk kc cd) ∧ h' nb = some (xI V 6 (if tK ks n p 3 = true then (if nc < 6 then upd g nc (ns p) else g) else g)) ∧ xKeep [P, S, nb] h h') := by
  refine xM_of false (by decide) (fun h => nomatch h) (Nat.le_of_ble_eq_true rfl) (fun K C => ?_)
  show K 0 0 h 0 [(0, .ref P)] []
  have kp : xKeep [P, S, nb] h h := xKeep.rf
  obtain ⟨fT, fkr, fnr, hkn, hn60⟩ := pT
  refine x_aload_n C d_Pa_takeNumber_0 rfl rfl ?_
  refine x_get C k_Pa f_Pa_18 d_Pa_takeNumber_1 fP (by rfl) ?_
  refine x_aload_n C d_Pa_takeNumber_4 rfl rfl ?_
  refine x_get C k_Pa f_Pa_52 d_Pa_takeNumber_5 fP (by rfl) ?_
  refine x_iconst (v := 3) C d_Pa_takeNumber_8 (by decide) ?_
  refine x_callV C l_Pa_75 v_To_isKind d_Pa_takeNumber_9 (m_To_isKind ⟨fT, fkr, fnr, hkn, hn60⟩ (nI p) 3) fT rfl (by rfl) (by rfl) (by decide) (by decide) (Nat.le_of_ble_eq_true rfl) ?_
  rintro v h' ⟨rfl, rfl⟩
  rw [kd_eq (by omega) (by omega)]
  refine x_if_ne (tgt := 17) C d_Pa_takeNumber_12 rfl (fun q12 => ?_) (fun q12 => ?_)
  · skip
    replace q12 := bI_t q12
    have hk := tK_iff.mp q12
    refine x_aload_n C d_Pa_takeNumber_17 rfl rfl ?_
    refine x_get C k_Pa f_Pa_12 d_Pa_takeNumber_18 fP (by rfl) ?_
    refine x_aload_n C d_Pa_takeNumber_21 rfl rfl ?_
    refine x_get C k_Pa f_Pa_18 d_Pa_takeNumber_22 fP (by rfl) ?_
    refine x_get C k_To f_Pa_79 d_Pa_takeNumber_25 fT (by rfl) ?_
    refine x_aload_n C d_Pa_takeNumber_28 rfl rfl ?_
    refine x_get C k_Pa f_Pa_52 d_Pa_takeNumber_29 fP (by rfl) ?_
    refine x_iald C d_Pa_takeNumber_32 fnr (vp_in_nI (by omega) (by decide)) ?_
    rw [nI_clamp (by omega)]
    refine x_callV C l_Pa_86 v_St_addNumber d_Pa_takeNumber_33 (m_St_addNumber fS fnb hnc (ns p)) fS rfl (by rfl) (by rfl) (by decide) (by decide) (Nat.le_of_ble_eq_true rfl) ?_
    rintro v1 h1 ⟨rfl, fS', fnb', kp1⟩
    have fP := kp1.get fP (nm_c (by first | assumption | exact Ne.symm (by assumption) | exact x_ne fP fS (by simp)) (nm_c (by first | assumption | exact Ne.symm (by assumption) | exact x_ne fP fnb (by simp)) nm_n))
    have fT := kp1.get fT (nm_c (by first | assumption | exact Ne.symm (by assumption) | exact x_ne fT fS (by simp)) (nm_c (by first | assumption | exact Ne.symm (by assumption) | exact x_ne fT fnb (by simp)) nm_n))
    have fkr := kp1.get fkr (nm_c (by first | assumption | exact Ne.symm (by assumption) | exact x_ne fkr fS (by simp)) (nm_c (by first | assumption | exact Ne.symm (by assumption) | exact x_ne fkr fnb (by simp)) nm_n))
    have fnr := kp1.get fnr (nm_c (by first | assumption | exact Ne.symm (by assumption) | exact x_ne fnr fS (by simp)) (nm_c (by first | assumption | exact Ne.symm (by assumption) | exact x_ne fnr fnb (by simp)) nm_n))
    have kp := kp.call kp1 (kc_c (Or.inl (by simp)) (kc_c (Or.inl (by simp)) kc_n))
    have fS := fS'
    have fnb := fnb'
    refine x_aload_n C d_Pa_takeNumber_36 rfl rfl ?_
    refine x_dup C d_Pa_takeNumber_37 rfl ?_
    refine x_get C k_Pa f_Pa_52 d_Pa_takeNumber_38 fP (by rfl) ?_
    refine x_iconst (v := 1) C d_Pa_takeNumber_41 (by decide) ?_
    refine x_iadd C d_Pa_takeNumber_42 ?_
    refine x_put (fs' := [_, _, _]) C k_Pa f_Pa_52 d_Pa_takeNumber_43 fP (by rfl) (by rfl) (by rfl) (Nat.le_of_ble_eq_true rfl) (by rfl) (fun h2 u2 => ?_)
    have fT := xUp_ne u2 fT (by first | assumption | exact Ne.symm (by assumption) | exact x_ne fT fP (by simp))
    have fkr := xUp_ne u2 fkr (by first | assumption | exact Ne.symm (by assumption) | exact x_ne fkr fP (by simp))
    have fnr := xUp_ne u2 fnr (by first | assumption | exact Ne.symm (by assumption) | exact x_ne fnr fP (by simp))
    have fS := xUp_ne u2 fS (by first | assumption | exact Ne.symm (by assumption) | exact x_ne fS fP (by simp))
    have fnb := xUp_ne u2 fnb (by first | assumption | exact Ne.symm (by assumption) | exact x_ne fnb fP (by simp))
    have fP := xUp_at u2
    have kp := kp.up u2 (by simp)
    refine x_iconst (v := 1) C d_Pa_takeNumber_46 (by decide) ?_
    refine x_zret C d_Pa_takeNumber_47 (by rfl) ?_
    rw [if_pos q12, if_pos q12, if_pos q12, q12]
    exact ⟨rfl, by rw [fP, nI_1], fS, fnb, kp⟩
  · skip
    replace q12 := bI_f q12
    refine x_iconst (v := 0) C d_Pa_takeNumber_15 (by decide) ?_
    refine x_zret C d_Pa_takeNumber_16 (by rfl) ?_
    have hz : ¬ tK ks n p 3 = true := by rw [q12]; decide
    rw [if_neg hz, if_neg hz, if_neg hz, q12]
    exact ⟨rfl, fP, fS, fnb, kp⟩
set_option maxRecDepth 20000 in
set_option maxHeartbeats 1000000 in
theorem m_Pa_takeOperand {V : xV} {h : xH} {P T kr nr S : Nat} {ks ns : Nat → Int32} {n p : Nat} (fP : h P = some (oPa T S (nI p))) (pT : pTo V h T kr nr ks ns n) (hp : p ≤ 60) : xM V y_Pa_takeOperand b_Pa_takeOperand 1 (some (.object "CursorBase$Operand")) 2 [.ref P] h 1 2 (fun v h' => (tOp ks n p = false ∧ v = some .null ∧ h' = h) ∨ (tOp ks n p = true ∧ ∃ o, v = some (.ref o) ∧ h o = none ∧ h' o = some (oOp (ks p) (ns p)) ∧ h' P = some (oPa T S (nI (p + 1))) ∧ xKeep [P] h h')) := by
  refine xM_of false (by decide) (fun h => nomatch h) (Nat.le_of_ble_eq_true rfl) (fun K C => ?_)
  show K 1 2 h 0 [(0, .ref P)] []
  have kp : xKeep [P] h h := xKeep.rf
  obtain ⟨fT, fkr, fnr, hkn, hn60⟩ := pT
  refine x_aload_n C d_Pa_takeOperand_0 rfl rfl ?_
  refine x_get C k_Pa f_Pa_18 d_Pa_takeOperand_1 fP (by rfl) ?_
  refine x_aload_n C d_Pa_takeOperand_4 rfl rfl ?_
  refine x_get C k_Pa f_Pa_52 d_Pa_takeOperand_5 fP (by rfl) ?_
  refine x_iconst (v := 2) C d_Pa_takeOperand_8 (by decide) ?_
  refine x_callV C l_Pa_75 v_To_isKind d_Pa_takeOperand_9 (m_To_isKind ⟨fT, fkr, fnr, hkn, hn60⟩ (nI p) 2) fT rfl (by rfl) (by rfl) (by decide) (by decide) (Nat.le_of_ble_eq_true rfl) ?_
  rintro v h' ⟨rfl, rfl⟩
  rw [kd_eq (by omega) (by omega)]
  refine x_if_ne (tgt := 32) C d_Pa_takeOperand_12 rfl (fun q12 => ?_) (fun q12 => ?_)
  · skip
    replace q12 := bI_t q12
    have hlt := (tK_iff.mp q12).1
    refine x_aload_n C d_Pa_takeOperand_32 rfl rfl ?_
    refine x_dup C d_Pa_takeOperand_33 rfl ?_
    refine x_get C k_Pa f_Pa_52 d_Pa_takeOperand_34 fP (by rfl) ?_
    refine x_iconst (v := 1) C d_Pa_takeOperand_37 (by decide) ?_
    refine x_iadd C d_Pa_takeOperand_38 ?_
    refine x_put (fs' := [_, _, _]) C k_Pa f_Pa_52 d_Pa_takeOperand_39 fP (by rfl) (by rfl) (by rfl) (Nat.le_of_ble_eq_true rfl) (by rfl) (fun h1 u1 => ?_)
    have fT := xUp_ne u1 fT (by first | assumption | exact Ne.symm (by assumption) | exact x_ne fT fP (by simp))
    have fkr := xUp_ne u1 fkr (by first | assumption | exact Ne.symm (by assumption) | exact x_ne fkr fP (by simp))
    have fnr := xUp_ne u1 fnr (by first | assumption | exact Ne.symm (by assumption) | exact x_ne fnr fP (by simp))
    have fP := xUp_at u1
    have kp := kp.up u1 (by simp)
    refine x_new (fs := [.int 0, .int 0]) C k_Op ⟨c_Pa_122, n_Op.1, n_Op.2⟩ d_Pa_takeOperand_42 (by decide +revert) (fun o h2 n2 u2 => ?_)
    have x2_P := x_nn fP n2
    have x2_T := x_nn fT n2
    have x2_kr := x_nn fkr n2
    have x2_nr := x_nn fnr n2
    have fP := xUp_new u2 n2 fP
    have fT := xUp_new u2 n2 fT
    have fkr := xUp_new u2 n2 fkr
    have fnr := xUp_new u2 n2 fnr
    have z_o := kp.isn n2 (by simp only [List.mem_cons, List.not_mem_nil, or_false, not_or]; exact Ne.symm x2_P)
    have kp := kp.upN u2 z_o
    have f_o := xUp_at u2
    refine x_dup C d_Pa_takeOperand_45 rfl ?_
    refine x_aload_n C d_Pa_takeOperand_46 rfl rfl ?_
    refine x_get C k_Pa f_Pa_18 d_Pa_takeOperand_47 fP (by rfl) ?_
    refine x_get C k_To f_Pa_124 d_Pa_takeOperand_50 fT (by rfl) ?_
    refine x_aload_n C d_Pa_takeOperand_53 rfl rfl ?_
    refine x_get C k_Pa f_Pa_52 d_Pa_takeOperand_54 fP (by rfl) ?_
    refine x_iconst (v := 1) C d_Pa_takeOperand_57 (by decide) ?_
    refine x_isub C d_Pa_takeOperand_58 ?_
    rw [nI_1, nI_pred]
    refine x_iald C d_Pa_takeOperand_59 fkr (vp_in_nI (by omega) (by decide)) ?_
    rw [nI_clamp (by omega)]
    refine x_aload_n C d_Pa_takeOperand_60 rfl rfl ?_
    refine x_get C k_Pa f_Pa_18 d_Pa_takeOperand_61 fP (by rfl) ?_
    refine x_get C k_To f_Pa_79 d_Pa_takeOperand_64 fT (by rfl) ?_
    refine x_aload_n C d_Pa_takeOperand_67 rfl rfl ?_
    refine x_get C k_Pa f_Pa_52 d_Pa_takeOperand_68 fP (by rfl) ?_
    refine x_iconst (v := 1) C d_Pa_takeOperand_71 (by decide) ?_
    refine x_isub C d_Pa_takeOperand_72 ?_
    rw [nI_1, nI_pred]
    refine x_iald C d_Pa_takeOperand_73 fnr (vp_in_nI (by omega) (by decide)) ?_
    rw [nI_clamp (by omega)]
    refine x_callI C l_Pa_127 v_Op_init d_Pa_takeOperand_74 (m_Op_init f_o (ks p) (ns p)) rfl (by rfl) (by rfl) (by decide) (by decide) (Nat.le_of_ble_eq_true rfl) ?_
    rintro v3 h3 ⟨rfl, f_o', kp3⟩
    have fP := kp3.get fP (nm_c (by first | assumption | exact Ne.symm (by assumption) | exact x_ne fP f_o (by simp)) nm_n)
    have fT := kp3.get fT (nm_c (by first | assumption | exact Ne.symm (by assumption) | exact x_ne fT f_o (by simp)) nm_n)
    have fkr := kp3.get fkr (nm_c (by first | assumption | exact Ne.symm (by assumption) | exact x_ne fkr f_o (by simp)) nm_n)
    have fnr := kp3.get fnr (nm_c (by first | assumption | exact Ne.symm (by assumption) | exact x_ne fnr f_o (by simp)) nm_n)
    have kp := kp.call kp3 (kc_c (Or.inr z_o) kc_n)
    have f_o := f_o'
    refine x_aret C d_Pa_takeOperand_77 ?_
    refine Or.inr ⟨?_, o, rfl, z_o, f_o, by rw [fP, nI_1], kp⟩
    unfold tOp
    first | (rw [q12]; rfl) | (rw [q27]; exact Bool.or_true _)
  · skip
    replace q12 := bI_f q12
    refine x_aload_n C d_Pa_takeOperand_15 rfl rfl ?_
    refine x_get C k_Pa f_Pa_18 d_Pa_takeOperand_16 fP (by rfl) ?_
    refine x_aload_n C d_Pa_takeOperand_19 rfl rfl ?_
    refine x_get C k_Pa f_Pa_52 d_Pa_takeOperand_20 fP (by rfl) ?_
    refine x_iconst (v := 3) C d_Pa_takeOperand_23 (by decide) ?_
    refine x_callV C l_Pa_75 v_To_isKind d_Pa_takeOperand_24 (m_To_isKind ⟨fT, fkr, fnr, hkn, hn60⟩ (nI p) 3) fT rfl (by rfl) (by rfl) (by decide) (by decide) (Nat.le_of_ble_eq_true rfl) ?_
    rintro v h' ⟨rfl, rfl⟩
    rw [kd_eq (by omega) (by omega)]
    refine x_if_ne (tgt := 32) C d_Pa_takeOperand_27 rfl (fun q27 => ?_) (fun q27 => ?_)
    · skip
      replace q27 := bI_t q27
      have hlt := (tK_iff.mp q27).1
      refine x_aload_n C d_Pa_takeOperand_32 rfl rfl ?_
      refine x_dup C d_Pa_takeOperand_33 rfl ?_
      refine x_get C k_Pa f_Pa_52 d_Pa_takeOperand_34 fP (by rfl) ?_
      refine x_iconst (v := 1) C d_Pa_takeOperand_37 (by decide) ?_
      refine x_iadd C d_Pa_takeOperand_38 ?_
      refine x_put (fs' := [_, _, _]) C k_Pa f_Pa_52 d_Pa_takeOperand_39 fP (by rfl) (by rfl) (by rfl) (Nat.le_of_ble_eq_true rfl) (by rfl) (fun h4 u4 => ?_)
      have fT := xUp_ne u4 fT (by first | assumption | exact Ne.symm (by assumption) | exact x_ne fT fP (by simp))
      have fkr := xUp_ne u4 fkr (by first | assumption | exact Ne.symm (by assumption) | exact x_ne fkr fP (by simp))
      have fnr := xUp_ne u4 fnr (by first | assumption | exact Ne.symm (by assumption) | exact x_ne fnr fP (by simp))
      have fP := xUp_at u4
      have kp := kp.up u4 (by simp)
      refine x_new (fs := [.int 0, .int 0]) C k_Op ⟨c_Pa_122, n_Op.1, n_Op.2⟩ d_Pa_takeOperand_42 (by decide +revert) (fun o h5 n5 u5 => ?_)
      have x5_P := x_nn fP n5
      have x5_T := x_nn fT n5
      have x5_kr := x_nn fkr n5
      have x5_nr := x_nn fnr n5
      have fP := xUp_new u5 n5 fP
      have fT := xUp_new u5 n5 fT
      have fkr := xUp_new u5 n5 fkr
      have fnr := xUp_new u5 n5 fnr
      have z_o := kp.isn n5 (by simp only [List.mem_cons, List.not_mem_nil, or_false, not_or]; exact Ne.symm x5_P)
      have kp := kp.upN u5 z_o
      have f_o := xUp_at u5
      refine x_dup C d_Pa_takeOperand_45 rfl ?_
      refine x_aload_n C d_Pa_takeOperand_46 rfl rfl ?_
      refine x_get C k_Pa f_Pa_18 d_Pa_takeOperand_47 fP (by rfl) ?_
      refine x_get C k_To f_Pa_124 d_Pa_takeOperand_50 fT (by rfl) ?_
      refine x_aload_n C d_Pa_takeOperand_53 rfl rfl ?_
      refine x_get C k_Pa f_Pa_52 d_Pa_takeOperand_54 fP (by rfl) ?_
      refine x_iconst (v := 1) C d_Pa_takeOperand_57 (by decide) ?_
      refine x_isub C d_Pa_takeOperand_58 ?_
      rw [nI_1, nI_pred]
      refine x_iald C d_Pa_takeOperand_59 fkr (vp_in_nI (by omega) (by decide)) ?_
      rw [nI_clamp (by omega)]
      refine x_aload_n C d_Pa_takeOperand_60 rfl rfl ?_
      refine x_get C k_Pa f_Pa_18 d_Pa_takeOperand_61 fP (by rfl) ?_
      refine x_get C k_To f_Pa_79 d_Pa_takeOperand_64 fT (by rfl) ?_
      refine x_aload_n C d_Pa_takeOperand_67 rfl rfl ?_
      refine x_get C k_Pa f_Pa_52 d_Pa_takeOperand_68 fP (by rfl) ?_
      refine x_iconst (v := 1) C d_Pa_takeOperand_71 (by decide) ?_
      refine x_isub C d_Pa_takeOperand_72 ?_
      rw [nI_1, nI_pred]
      refine x_iald C d_Pa_takeOperand_73 fnr (vp_in_nI (by omega) (by decide)) ?_
      rw [nI_clamp (by omega)]
      refine x_callI C l_Pa_127 v_Op_init d_Pa_takeOperand_74 (m_Op_init f_o (ks p) (ns p)) rfl (by rfl) (by rfl) (by decide) (by decide) (Nat.le_of_ble_eq_true rfl) ?_
      rintro v6 h6 ⟨rfl, f_o', kp6⟩
      have fP := kp6.get fP (nm_c (by first | assumption | exact Ne.symm (by assumption) | exact x_ne fP f_o (by simp)) nm_n)
      have fT := kp6.get fT (nm_c (by first | assumption | exact Ne.symm (by assumption) | exact x_ne fT f_o (by simp)) nm_n)
      have fkr := kp6.get fkr (nm_c (by first | assumption | exact Ne.symm (by assumption) | exact x_ne fkr f_o (by simp)) nm_n)
      have fnr := kp6.get fnr (nm_c (by first | assumption | exact Ne.symm (by assumption) | exact x_ne fnr f_o (by simp)) nm_n)
      have kp := kp.call kp6 (kc_c (Or.inr z_o) kc_n)
      have f_o := f_o'
      refine x_aret C d_Pa_takeOperand_77 ?_
      refine Or.inr ⟨?_, o, rfl, z_o, f_o, by rw [fP, nI_1], kp⟩
      unfold tOp
      first | (rw [q12]; rfl) | (rw [q27]; exact Bool.or_true _)
    · skip
      replace q27 := bI_f q27
      refine x_null C d_Pa_takeOperand_30 ?_
      refine x_aretN C d_Pa_takeOperand_31 ?_
      exact Or.inl ⟨by unfold tOp; rw [q12, q27]; rfl, rfl, rfl⟩
set_option maxRecDepth 20000 in
set_option maxHeartbeats 1000000 in
theorem m_Pa_takeCondition {V : xV} {h : xH} {P T kr nr S : Nat} {ks ns : Nat → Int32} {n p : Nat} (fP : h P = some (oPa T S (nI p))) (pT : pTo V h T kr nr ks ns n) (hp : p ≤ 60) : xM V y_Pa_takeCondition b_Pa_takeCondition 4 (some (.object "CursorBase$Condition")) 3 [.ref P] h 3 7 (fun v h' => (tCond ks ns n p = true ∧ ∃ q, v = some (.ref q) ∧ pCd h' q (cdAt ks ns p) ∧ h' P = some (oPa T S (nI (p + 3))) ∧ xKeep [P] h h') ∨ (tCond ks ns n p = false ∧ v = some .null ∧ xKeep [P] h h')) := by
  refine xM_of false (by decide) (fun h => nomatch h) (Nat.le_of_ble_eq_true rfl) (fun K C => ?_)
  show K 3 7 h 0 [(0, .ref P)] []
  have kp : xKeep [P] h h := xKeep.rf
  obtain ⟨fT, fkr, fnr, hkn, hn60⟩ := pT
  refine x_aload_n C d_Pa_takeCondition_0 rfl rfl ?_
  refine x_callV C l_Pa_113 v_Pa_takeOperand d_Pa_takeCondition_1 (m_Pa_takeOperand (p := p) fP ⟨fT, fkr, fnr, hkn, hn60⟩ hp) fP rfl (by rfl) (by rfl) (by decide) (by decide) (Nat.le_of_ble_eq_true rfl) ?_
  rintro v1 h1 (⟨ho1, rfl, rfl⟩ | ⟨ho1, a, rfl, -, f_a, fP', kp1⟩)
  · skip
    refine x_astore_nN (lv' := [(1, _), (0, _)]) C d_Pa_takeCondition_4 rfl (by decide) (by rfl) ?_
    refine x_aload_n C d_Pa_takeCondition_5 rfl rfl ?_
    refine x_bipush (v := 10) C d_Pa_takeCondition_6 (by decide) ?_
    refine x_bipush (v := 12) C d_Pa_takeCondition_8 (by decide) ?_
    refine x_callV C l_Pa_22 v_Pa_takeWordBetween d_Pa_takeCondition_10 (m_Pa_takeWordBetween (p := p) fP ⟨fT, fkr, fnr, hkn, hn60⟩ hp 10 12) fP rfl (by rfl) (by rfl) (by decide) (by decide) (Nat.le_of_ble_eq_true rfl) ?_
    rintro v2 h2 ⟨rfl, fP', kp2⟩
    have fT := kp2.get fT (nm_c (by first | assumption | exact Ne.symm (by assumption) | exact x_ne fT fP (by simp)) nm_n)
    have fkr := kp2.get fkr (nm_c (by first | assumption | exact Ne.symm (by assumption) | exact x_ne fkr fP (by simp)) nm_n)
    have fnr := kp2.get fnr (nm_c (by first | assumption | exact Ne.symm (by assumption) | exact x_ne fnr fP (by simp)) nm_n)
    have kp := kp.call kp2 (kc_c (Or.inl (by simp)) kc_n)
    have fP := fP'
    refine x_istore_n (lv' := [(2, _), (1, _), (0, _)]) C d_Pa_takeCondition_13 rfl (by decide) (by rfl) ?_
    refine x_aload_n C d_Pa_takeCondition_14 rfl rfl ?_
    refine x_callV C l_Pa_113 v_Pa_takeOperand d_Pa_takeCondition_15 (m_Pa_takeOperand (p := _) fP ⟨fT, fkr, fnr, hkn, hn60⟩ (tW_le hp hn60)) fP rfl (by rfl) (by rfl) (by decide) (by decide) (Nat.le_of_ble_eq_true rfl) ?_
    rintro v3 h3 (⟨ho2, rfl, rfl⟩ | ⟨ho2, b, rfl, -, f_b, fP', kp3⟩)
    · skip
      refine x_astore_nN (lv' := [(3, _), (2, _), (1, _), (0, _)]) C d_Pa_takeCondition_18 rfl (by decide) (by rfl) ?_
      refine x_aload_nN C d_Pa_takeCondition_19 rfl rfl ?_
      refine x_ifnullN (tgt := 32) C d_Pa_takeCondition_20 rfl ?_
      refine x_null C d_Pa_takeCondition_32 ?_
      refine x_aretN C d_Pa_takeCondition_33 ?_
      refine Or.inr ⟨Bool.eq_false_iff.mpr (fun z => ?_), rfl, kp⟩
      obtain ⟨z1, z2, z3⟩ := tCond_iff.mp z
      first | (rw [z1] at ho1; cases ho1; done) | exact hw z2 | (rw [if_pos hw, z3] at ho2; cases ho2)
    · skip
      have fT := kp3.get fT (nm_c (by first | assumption | exact Ne.symm (by assumption) | exact x_ne fT fP (by simp)) nm_n)
      have fkr := kp3.get fkr (nm_c (by first | assumption | exact Ne.symm (by assumption) | exact x_ne fkr fP (by simp)) nm_n)
      have fnr := kp3.get fnr (nm_c (by first | assumption | exact Ne.symm (by assumption) | exact x_ne fnr fP (by simp)) nm_n)
      have kp := kp.call kp3 (kc_c (Or.inl (by simp)) kc_n)
      have fP := fP'
      have hl2 := tOp_lt ho2
      refine x_astore_n (lv' := [(3, _), (2, _), (1, _), (0, _)]) C d_Pa_takeCondition_18 rfl (by decide) (by rfl) ?_
      refine x_aload_nN C d_Pa_takeCondition_19 rfl rfl ?_
      refine x_ifnullN (tgt := 32) C d_Pa_takeCondition_20 rfl ?_
      refine x_null C d_Pa_takeCondition_32 ?_
      refine x_aretN C d_Pa_takeCondition_33 ?_
      refine Or.inr ⟨Bool.eq_false_iff.mpr (fun z => ?_), rfl, kp⟩
      obtain ⟨z1, z2, z3⟩ := tCond_iff.mp z
      first | (rw [z1] at ho1; cases ho1; done) | exact hw z2 | (rw [if_pos hw, z3] at ho2; cases ho2)
  · skip
    have fT := kp1.get fT (nm_c (by first | assumption | exact Ne.symm (by assumption) | exact x_ne fT fP (by simp)) nm_n)
    have fkr := kp1.get fkr (nm_c (by first | assumption | exact Ne.symm (by assumption) | exact x_ne fkr fP (by simp)) nm_n)
    have fnr := kp1.get fnr (nm_c (by first | assumption | exact Ne.symm (by assumption) | exact x_ne fnr fP (by simp)) nm_n)
    have kp := kp.call kp1 (kc_c (Or.inl (by simp)) kc_n)
    have fP := fP'
    have hl1 := tOp_lt ho1
    refine x_astore_n (lv' := [(1, _), (0, _)]) C d_Pa_takeCondition_4 rfl (by decide) (by rfl) ?_
    refine x_aload_n C d_Pa_takeCondition_5 rfl rfl ?_
    refine x_bipush (v := 10) C d_Pa_takeCondition_6 (by decide) ?_
    refine x_bipush (v := 12) C d_Pa_takeCondition_8 (by decide) ?_
    refine x_callV C l_Pa_22 v_Pa_takeWordBetween d_Pa_takeCondition_10 (m_Pa_takeWordBetween (p := p + 1) fP ⟨fT, fkr, fnr, hkn, hn60⟩ (by omega) 10 12) fP rfl (by rfl) (by rfl) (by decide) (by decide) (Nat.le_of_ble_eq_true rfl) ?_
    rintro v4 h4 ⟨rfl, fP', kp4⟩
    have fT := kp4.get fT (nm_c (by first | assumption | exact Ne.symm (by assumption) | exact x_ne fT fP (by simp)) nm_n)
    have fkr := kp4.get fkr (nm_c (by first | assumption | exact Ne.symm (by assumption) | exact x_ne fkr fP (by simp)) nm_n)
    have fnr := kp4.get fnr (nm_c (by first | assumption | exact Ne.symm (by assumption) | exact x_ne fnr fP (by simp)) nm_n)
    have f_a := kp4.get f_a (nm_c (by first | assumption | exact Ne.symm (by assumption) | exact x_ne f_a fP (by simp)) nm_n)
    have kp := kp.call kp4 (kc_c (Or.inl (by simp)) kc_n)
    have fP := fP'
    refine x_istore_n (lv' := [(2, _), (1, _), (0, _)]) C d_Pa_takeCondition_13 rfl (by decide) (by rfl) ?_
    refine x_aload_n C d_Pa_takeCondition_14 rfl rfl ?_
    refine x_callV C l_Pa_113 v_Pa_takeOperand d_Pa_takeCondition_15 (m_Pa_takeOperand (p := (if tW ks ns n (p + 1) 10 12 = true then p + 1 + 1 else p + 1)) fP ⟨fT, fkr, fnr, hkn, hn60⟩ (tW_le (by omega) hn60)) fP rfl (by rfl) (by rfl) (by decide) (by decide) (Nat.le_of_ble_eq_true rfl) ?_
    rintro v5 h5 (⟨ho2, rfl, rfl⟩ | ⟨ho2, b, rfl, -, f_b, fP', kp5⟩)
    · skip
      refine x_astore_nN (lv' := [(3, _), (2, _), (1, _), (0, _)]) C d_Pa_takeCondition_18 rfl (by decide) (by rfl) ?_
      refine x_aload_n C d_Pa_takeCondition_19 rfl rfl ?_
      refine x_ifnull C d_Pa_takeCondition_20 ?_
      refine x_iload_n C d_Pa_takeCondition_23 rfl rfl ?_
      refine x_iconst (v := -1) C d_Pa_takeCondition_24 (by decide) ?_
      refine x_icmp_eq (tgt := 32) C d_Pa_takeCondition_25 rfl (fun q25 => ?_) (fun q25 => ?_)
      · skip
        have hw : ¬ tW ks ns n (p + 1) 10 12 = true := fun z => by
          rw [if_pos z] at q25
          have := tW_iff.mp z
          exact this.2.2.1 (by rw [q25]; decide)
        refine x_null C d_Pa_takeCondition_32 ?_
        refine x_aretN C d_Pa_takeCondition_33 ?_
        refine Or.inr ⟨Bool.eq_false_iff.mpr (fun z => ?_), rfl, kp⟩
        obtain ⟨z1, z2, z3⟩ := tCond_iff.mp z
        first | (rw [z1] at ho1; cases ho1; done) | exact hw z2 | (rw [if_pos hw, z3] at ho2; cases ho2)
      · skip
        have hw : tW ks ns n (p + 1) 10 12 = true := by
          by_cases z : tW ks ns n (p + 1) 10 12 = true
          · exact z
          · rw [if_neg z] at q25; exact absurd rfl q25
        refine x_aload_nN C d_Pa_takeCondition_28 rfl rfl ?_
        refine x_ifnonnullN C d_Pa_takeCondition_29 ?_
        refine x_null C d_Pa_takeCondition_32 ?_
        refine x_aretN C d_Pa_takeCondition_33 ?_
        refine Or.inr ⟨Bool.eq_false_iff.mpr (fun z => ?_), rfl, kp⟩
        obtain ⟨z1, z2, z3⟩ := tCond_iff.mp z
        first | (rw [z1] at ho1; cases ho1; done) | exact hw z2 | (rw [if_pos hw, z3] at ho2; cases ho2)
    · skip
      have fT := kp5.get fT (nm_c (by first | assumption | exact Ne.symm (by assumption) | exact x_ne fT fP (by simp)) nm_n)
      have fkr := kp5.get fkr (nm_c (by first | assumption | exact Ne.symm (by assumption) | exact x_ne fkr fP (by simp)) nm_n)
      have fnr := kp5.get fnr (nm_c (by first | assumption | exact Ne.symm (by assumption) | exact x_ne fnr fP (by simp)) nm_n)
      have f_a := kp5.get f_a (nm_c (by first | assumption | exact Ne.symm (by assumption) | exact x_ne f_a fP (by simp)) nm_n)
      have kp := kp.call kp5 (kc_c (Or.inl (by simp)) kc_n)
      have fP := fP'
      have hl2 := tOp_lt ho2
      refine x_astore_n (lv' := [(3, _), (2, _), (1, _), (0, _)]) C d_Pa_takeCondition_18 rfl (by decide) (by rfl) ?_
      refine x_aload_n C d_Pa_takeCondition_19 rfl rfl ?_
      refine x_ifnull C d_Pa_takeCondition_20 ?_
      refine x_iload_n C d_Pa_takeCondition_23 rfl rfl ?_
      refine x_iconst (v := -1) C d_Pa_takeCondition_24 (by decide) ?_
      refine x_icmp_eq (tgt := 32) C d_Pa_takeCondition_25 rfl (fun q25 => ?_) (fun q25 => ?_)
      · skip
        have hw : ¬ tW ks ns n (p + 1) 10 12 = true := fun z => by
          rw [if_pos z] at q25
          have := tW_iff.mp z
          exact this.2.2.1 (by rw [q25]; decide)
        refine x_null C d_Pa_takeCondition_32 ?_
        refine x_aretN C d_Pa_takeCondition_33 ?_
        refine Or.inr ⟨Bool.eq_false_iff.mpr (fun z => ?_), rfl, kp⟩
        obtain ⟨z1, z2, z3⟩ := tCond_iff.mp z
        first | (rw [z1] at ho1; cases ho1; done) | exact hw z2 | (rw [if_pos hw, z3] at ho2; cases ho2)
      · skip
        have hw : tW ks ns n (p + 1) 10 12 = true := by
          by_cases z : tW ks ns n (p + 1) 10 12 = true
          · exact z
          · rw [if_neg z] at q25; exact absurd rfl q25
        refine x_aload_n C d_Pa_takeCondition_28 rfl rfl ?_
        refine x_ifnonnull (tgt := 34) C d_Pa_takeCondition_29 rfl ?_
        refine x_new (fs := [.null, .int 0, .null]) C k_Cn ⟨c_Pa_117, n_Cn.1, n_Cn.2⟩ d_Pa_takeCondition_34 (by decide +revert) (fun q h6 n6 u6 => ?_)
        have x6_P := x_nn fP n6
        have x6_T := x_nn fT n6
        have x6_kr := x_nn fkr n6
        have x6_nr := x_nn fnr n6
        have x6_a := x_nn f_a n6
        have x6_b := x_nn f_b n6
        have fP := xUp_new u6 n6 fP
        have fT := xUp_new u6 n6 fT
        have fkr := xUp_new u6 n6 fkr
        have fnr := xUp_new u6 n6 fnr
        have f_a := xUp_new u6 n6 f_a
        have f_b := xUp_new u6 n6 f_b
        have z_q := kp.isn n6 (by simp only [List.mem_cons, List.not_mem_nil, or_false, not_or]; exact Ne.symm x6_P)
        have kp := kp.upN u6 z_q
        have f_q := xUp_at u6
        refine x_dup C d_Pa_takeCondition_37 rfl ?_
        refine x_aload_n C d_Pa_takeCondition_38 rfl rfl ?_
        refine x_iload_n C d_Pa_takeCondition_39 rfl rfl ?_
        refine x_aload_n C d_Pa_takeCondition_40 rfl rfl ?_
        refine x_callI C l_Pa_119 v_Cn_init d_Pa_takeCondition_41 (m_Cn_init f_q a _ b) rfl (by rfl) (by rfl) (by decide) (by decide) (Nat.le_of_ble_eq_true rfl) ?_
        rintro v7 h7 ⟨rfl, f_q', kp7⟩
        have fP := kp7.get fP (nm_c (by first | assumption | exact Ne.symm (by assumption) | exact x_ne fP f_q (by simp)) nm_n)
        have fT := kp7.get fT (nm_c (by first | assumption | exact Ne.symm (by assumption) | exact x_ne fT f_q (by simp)) nm_n)
        have fkr := kp7.get fkr (nm_c (by first | assumption | exact Ne.symm (by assumption) | exact x_ne fkr f_q (by simp)) nm_n)
        have fnr := kp7.get fnr (nm_c (by first | assumption | exact Ne.symm (by assumption) | exact x_ne fnr f_q (by simp)) nm_n)
        have f_a := kp7.get f_a (nm_c (by first | assumption | exact Ne.symm (by assumption) | exact x_ne f_a f_q (by simp)) nm_n)
        have f_b := kp7.get f_b (nm_c (by first | assumption | exact Ne.symm (by assumption) | exact x_ne f_b f_q (by simp)) nm_n)
        have kp := kp.call kp7 (kc_c (Or.inr z_q) kc_n)
        have f_q := f_q'
        refine x_aret C d_Pa_takeCondition_44 ?_
        rw [if_pos hw] at ho2 f_b fP f_q
        exact Or.inl ⟨tCond_iff.mpr ⟨ho1, hw, ho2⟩, q, rfl, ⟨a, b, f_q, f_a, f_b⟩, fP, kp⟩
set_option maxRecDepth 20000 in
set_option maxHeartbeats 1000000 in
theorem m_Pa_takeConditions {V : xV} {h : xH} {P T kr nr S : Nat} {ks ns : Nat → Int32} {n p : Nat} (fP : h P = some (oPa T S (nI p))) (pT : pTo V h T kr nr ks ns n) (hp : p ≤ 60) {nb pk cd : Nat} {vb ls fi se fa nc np : Int32} {co : Nat → Option Nat} (fS : h S = some (oSt vb ls fi se fa nc nb np pk 0 cd)) (fcd : h cd = some (xR V 3 8 co)) {tc : Option Nat} (htc : tConds ks ns n 8 8 p = tc) : xM V y_Pa_takeConditions b_Pa_takeConditions 4 (some .boolean) 4 [.ref P] h 24 56 (fun v h' => (∃ k co', tc = some k ∧ v = some (.int 1) ∧ h' P = some (oPa T S (nI (p + 4 * k))) ∧ h' S = some (oSt vb ls fi se fa nc nb np pk (nI k) cd) ∧ h' cd = some (xR V 3 8 co') ∧ pCds h' co' k (fun j => cdAt ks ns (p + 4 * j + 1)) ∧ k ≤ 8 ∧ p + 4 * k ≤ 60 ∧ xKeep [P, S, cd] h h') ∨ (tc = none ∧ v = some (.int 0) ∧ xKeep [P, S, cd] h h')) := by
  refine xM_of false (by decide) (fun h => nomatch h) (Nat.le_of_ble_eq_true rfl) (fun K C => ?_)
  show K 24 56 h 0 [(0, .ref P)] []
  have kp : xKeep [P, S, cd] h h := xKeep.rf
  obtain ⟨fT, fkr, fnr, hkn, hn60⟩ := pT
  have loop : ∀ m : Nat, ∀ (i a b : Nat) (lk : Int32) (h1 : xH) (co1 : Nat → Option Nat), 8 - i < m → 24 - 3 * i ≤ a → 56 - 7 * i ≤ b → i ≤ 8 → ¬ lk = -1 → p + 4 * i ≤ 60 → tc = (tConds ks ns n (8 - i) lk (p + 4 * i)).map (· + i) → h1 P = some (oPa T S (nI (p + 4 * i))) → pTo V h1 T kr nr ks ns n → h1 S = some (oSt vb ls fi se fa nc nb np pk (nI i) cd) → h1 cd = some (xR V 3 8 co1) → pCds h1 co1 i (fun j => cdAt ks ns (p + 4 * j + 1)) → xKeep [P, S, cd] h h1 → K a b h1 5 [(2, .int (nI i)), (1, .int lk), (0, .ref P)] [] := by
    intro m
    induction m with
    | zero => intro i a b lk h1 co1 hm ha hb hi hlk hpi hT fP pT fS fcd pC kp; omega
    | succ m ih =>
      intro i a b lk h1 co1 hm ha hb hi hlk hpi hT fP pT fS fcd pC kp
      obtain ⟨fT, fkr, fnr, hkn, hn60⟩ := pT
      have fP0 := fP
      refine x_iload_n C d_Pa_takeConditions_5 rfl rfl ?_
      refine x_bipush (v := 8) C d_Pa_takeConditions_6 (by decide) ?_
      refine x_icmp_ge (tgt := 47) C d_Pa_takeConditions_8 rfl (fun q8 => ?_) (fun q8 => ?_)
      · skip
        have hi8 := nge_of (b := 8) q8 (by decide)
        refine x_iconst (v := 1) C d_Pa_takeConditions_47 (by decide) ?_
        refine x_zret C d_Pa_takeConditions_48 (by rfl) ?_
        have hk : tc = some i := by
          first | (rw [hT]; simp; done) | (have h8 : i = 8 := (by omega); subst h8; rw [hT]; rfl)
        exact Or.inl ⟨i, co1, hk, rfl, fP, fS, fcd, pC, hi, hpi, kp⟩
      · skip
        have hi8 := nlt_of (b := 8) q8 (by decide) (by omega)
        obtain ⟨m8, hm8⟩ : ∃ m8, 8 - i = m8 + 1 := ⟨7 - i, by omega⟩
        rw [hm8] at hT
        unfold tConds at hT
        refine x_aload_n C d_Pa_takeConditions_11 rfl rfl ?_
        refine x_iload_n C d_Pa_takeConditions_12 rfl rfl ?_
        refine x_callV C l_Pa_60 v_Pa_takeWord d_Pa_takeConditions_13 (m_Pa_takeWord (p := p + 4 * i) fP ⟨fT, fkr, fnr, hkn, hn60⟩ hpi lk hlk) fP rfl (by rfl) (by rfl) (by decide) (by decide) (Nat.le_of_ble_eq_true rfl) ?_
        rintro v1 h1 ⟨rfl, fP', kp1⟩
        have fT := kp1.get fT (nm_c (by first | assumption | exact Ne.symm (by assumption) | exact x_ne fT fP (by simp)) nm_n)
        have fkr := kp1.get fkr (nm_c (by first | assumption | exact Ne.symm (by assumption) | exact x_ne fkr fP (by simp)) nm_n)
        have fnr := kp1.get fnr (nm_c (by first | assumption | exact Ne.symm (by assumption) | exact x_ne fnr fP (by simp)) nm_n)
        have fS := kp1.get fS (nm_c (by first | assumption | exact Ne.symm (by assumption) | exact x_ne fS fP (by simp)) nm_n)
        have fcd := kp1.get fcd (nm_c (by first | assumption | exact Ne.symm (by assumption) | exact x_ne fcd fP (by simp)) nm_n)
        have kp := kp.call kp1 (kc_c (Or.inl (by simp)) kc_n)
        have fP := fP'
        have pC := pC.keep (kp1.ops (no_c fP0 rfl no_n))
        have fP0 := fP
        refine x_if_eq (tgt := 47) C d_Pa_takeConditions_16 rfl (fun q16 => ?_) (fun q16 => ?_)
        · skip
          replace q16 := bI_f q16
          have q16' : ¬ tW ks ns n (p + 4 * i) lk lk = true := by rw [q16]; decide
          rw [if_neg q16'] at fP hT
          refine x_iconst (v := 1) C d_Pa_takeConditions_47 (by decide) ?_
          refine x_zret C d_Pa_takeConditions_48 (by rfl) ?_
          have hk : tc = some i := by
            first | (rw [hT]; simp; done) | (have h8 : i = 8 := (by omega); subst h8; rw [hT]; rfl)
          exact Or.inl ⟨i, co1, hk, rfl, fP, fS, fcd, pC, hi, hpi, kp⟩
        · skip
          replace q16 := bI_t q16
          rw [if_pos q16] at fP hT
          have hw := tW_iff.mp q16
          obtain ⟨a9, rfl⟩ : ∃ a9, a = a9 + 3 := ⟨a - 3, by omega⟩
          obtain ⟨b9, rfl⟩ : ∃ b9, b = b9 + 7 := ⟨b - 7, by omega⟩
          refine x_aload_n C d_Pa_takeConditions_19 rfl rfl ?_
          refine x_callV C l_Pa_105 v_Pa_takeCondition d_Pa_takeConditions_20 (m_Pa_takeCondition (p := p + 4 * i + 1) fP ⟨fT, fkr, fnr, hkn, hn60⟩ (by omega)) fP rfl (by rfl) (by rfl) (by decide) (by decide) (Nat.le_of_ble_eq_true rfl) ?_
          rintro v2 h2 (⟨hc, q, rfl, pq, fP', kp2⟩ | ⟨hc, rfl, kp2⟩)
          · skip
            have fT := kp2.get fT (nm_c (by first | assumption | exact Ne.symm (by assumption) | exact x_ne fT fP (by simp)) nm_n)
            have fkr := kp2.get fkr (nm_c (by first | assumption | exact Ne.symm (by assumption) | exact x_ne fkr fP (by simp)) nm_n)
            have fnr := kp2.get fnr (nm_c (by first | assumption | exact Ne.symm (by assumption) | exact x_ne fnr fP (by simp)) nm_n)
            have fS := kp2.get fS (nm_c (by first | assumption | exact Ne.symm (by assumption) | exact x_ne fS fP (by simp)) nm_n)
            have fcd := kp2.get fcd (nm_c (by first | assumption | exact Ne.symm (by assumption) | exact x_ne fcd fP (by simp)) nm_n)
            have kp := kp.call kp2 (kc_c (Or.inl (by simp)) kc_n)
            have fP := fP'
            have pC := pC.keep (kp2.ops (no_c fP0 rfl no_n))
            have hc3 := tCond_iff.mp hc
            have hl3 := tOp_lt hc3.2.2
            have pq0 := pq
            obtain ⟨_, _, fq, -, -⟩ := pq
            rw [if_pos hc] at hT
            refine x_astore_n (lv' := [(3, _), (2, _), (1, _), (0, _)]) C d_Pa_takeConditions_23 rfl (by decide) (by rfl) ?_
            refine x_aload_n C d_Pa_takeConditions_24 rfl rfl ?_
            refine x_ifnonnull (tgt := 30) C d_Pa_takeConditions_25 rfl ?_
            refine x_aload_n C d_Pa_takeConditions_30 rfl rfl ?_
            refine x_get C k_Pa f_Pa_12 d_Pa_takeConditions_31 fP (by rfl) ?_
            refine x_aload_n C d_Pa_takeConditions_34 rfl rfl ?_
            refine x_callV C l_Pa_109 v_St_addCondition d_Pa_takeConditions_35 (m_St_addCondition fS fcd hi8 pC pq0) fS rfl (by rfl) (by rfl) (by decide) (by decide) (Nat.le_of_ble_eq_true rfl) ?_
            rintro v3 h3 ⟨rfl, co2, fS', fcd', pC2, kp3⟩
            have fP := kp3.get fP (nm_c (by first | assumption | exact Ne.symm (by assumption) | exact x_ne fP fS (by simp)) (nm_c (by first | assumption | exact Ne.symm (by assumption) | exact x_ne fP fcd (by simp)) nm_n))
            have fT := kp3.get fT (nm_c (by first | assumption | exact Ne.symm (by assumption) | exact x_ne fT fS (by simp)) (nm_c (by first | assumption | exact Ne.symm (by assumption) | exact x_ne fT fcd (by simp)) nm_n))
            have fkr := kp3.get fkr (nm_c (by first | assumption | exact Ne.symm (by assumption) | exact x_ne fkr fS (by simp)) (nm_c (by first | assumption | exact Ne.symm (by assumption) | exact x_ne fkr fcd (by simp)) nm_n))
            have fnr := kp3.get fnr (nm_c (by first | assumption | exact Ne.symm (by assumption) | exact x_ne fnr fS (by simp)) (nm_c (by first | assumption | exact Ne.symm (by assumption) | exact x_ne fnr fcd (by simp)) nm_n))
            have fq := kp3.get fq (nm_c (by first | assumption | exact Ne.symm (by assumption) | exact x_ne fq fS (by simp)) (nm_c (by first | assumption | exact Ne.symm (by assumption) | exact x_ne fq fcd (by simp)) nm_n))
            have kp := kp.call kp3 (kc_c (Or.inl (by simp)) (kc_c (Or.inl (by simp)) kc_n))
            have fS := fS'
            have fcd := fcd'
            refine x_bipush (v := 9) C d_Pa_takeConditions_38 (by decide) ?_
            refine x_istore_n (lv' := [(1, _), (3, _), (2, _), (0, _)]) C d_Pa_takeConditions_40 rfl (by decide) (by rfl) ?_
            refine x_iinc (v := nI (i + 1)) (k0 := 2) (lv' := [(2, _), (1, _), (3, _), (0, _)]) C d_Pa_takeConditions_41 (by rfl) (nI_1 i) (by decide) (by rfl) ?_
            refine x_goto (tgt := 5) C d_Pa_takeConditions_44 rfl ?_
            refine x_lv (lv' := [(2, _), (1, _), (0, _)]) [0, 1, 3] C (by rfl) ?_
            refine ih (i + 1) a9 b9 9 _ co2 (by omega) (by omega) (by omega) (by omega) (by decide) (by omega) ?_ (by rw [fP, show p + 4 * i + 1 + 3 = p + 4 * (i + 1) by omega]) ⟨fT, fkr, fnr, hkn, hn60⟩ fS fcd ?_ kp
            · rw [hT, show 8 - (i + 1) = m8 by omega, show p + 4 * (i + 1) = p + 4 * i + 4 by omega, Option.map_map]
              congr 1
              funext z
              show z + 1 + i = z + (i + 1)
              omega
            · exact lt_s (fun j hj => by have := pC2 j (by omega); rw [va_up_ne _ _ (by omega)] at this; exact this) (by have := pC2 i (by omega); rw [va_up_self] at this; exact this)
          · skip
            have fT := kp2.get fT (nm_c (by first | assumption | exact Ne.symm (by assumption) | exact x_ne fT fP (by simp)) nm_n)
            have fkr := kp2.get fkr (nm_c (by first | assumption | exact Ne.symm (by assumption) | exact x_ne fkr fP (by simp)) nm_n)
            have fnr := kp2.get fnr (nm_c (by first | assumption | exact Ne.symm (by assumption) | exact x_ne fnr fP (by simp)) nm_n)
            have fS := kp2.get fS (nm_c (by first | assumption | exact Ne.symm (by assumption) | exact x_ne fS fP (by simp)) nm_n)
            have fcd := kp2.get fcd (nm_c (by first | assumption | exact Ne.symm (by assumption) | exact x_ne fcd fP (by simp)) nm_n)
            have kp := kp.call kp2 (kc_c (Or.inl (by simp)) kc_n)
            rw [if_neg (by rw [hc]; decide)] at hT
            refine x_astore_nN (lv' := [(3, _), (2, _), (1, _), (0, _)]) C d_Pa_takeConditions_23 rfl (by decide) (by rfl) ?_
            refine x_aload_nN C d_Pa_takeConditions_24 rfl rfl ?_
            refine x_ifnonnullN C d_Pa_takeConditions_25 ?_
            refine x_iconst (v := 0) C d_Pa_takeConditions_28 (by decide) ?_
            refine x_zret C d_Pa_takeConditions_29 (by rfl) ?_
            exact Or.inr ⟨hT, rfl, kp⟩
  refine x_bipush (v := 8) C d_Pa_takeConditions_0 (by decide) ?_
  refine x_istore_n (lv' := [(1, _), (0, _)]) C d_Pa_takeConditions_2 rfl (by decide) (by rfl) ?_
  refine x_iconst (v := 0) C d_Pa_takeConditions_3 (by decide) ?_
  refine x_istore_n (lv' := [(2, _), (1, _), (0, _)]) C d_Pa_takeConditions_4 rfl (by decide) (by rfl) ?_
  exact loop 9 0 24 56 8 h co (by omega) (by omega) (by omega) (by omega) (by decide) (by omega) (by rw [← htc]; simp) fP ⟨fT, fkr, fnr, hkn, hn60⟩ fS fcd lt_0 xKeep.rf
set_option maxRecDepth 20000 in
set_option maxHeartbeats 1000000 in
theorem m_Pa_takeNumbers {V : xV} {h : xH} {P T kr nr S : Nat} {ks ns : Nat → Int32} {n p : Nat} (fP : h P = some (oPa T S (nI p))) (pT : pTo V h T kr nr ks ns n) (hp : p ≤ 60) {nb pk cd : Nat} {vb ls fi se fa np kc : Int32} {g : Nat → Int32} (fS : h S = some (oSt vb ls fi se fa 0 nb np pk kc cd)) (fnb : h nb = some (xI V 6 g)) {r : Nat} (hr : tRun ks n 3 60 p = r) : xM V y_Pa_takeNumbers b_Pa_takeNumbers 3 (some .boolean) 3 [.ref P] h 0 0 (fun v h' => ∃ g', v = some (.int (bI (decide (0 < r)))) ∧ h' P = some (oPa T S (nI (p + r))) ∧ h' S = some (oSt vb ls fi se fa (nI r) nb np pk kc cd) ∧ h' nb = some (xI V 6 g') ∧ (∀ j, j < r → j < 6 → g' j = ns (p + j)) ∧ p + r ≤ 60 ∧ xKeep [P, S, nb] h h') := by
  refine xM_of false (by decide) (fun h => nomatch h) (Nat.le_of_ble_eq_true rfl) (fun K C => ?_)
  show K 0 0 h 0 [(0, .ref P)] []
  have kp : xKeep [P, S, nb] h h := xKeep.rf
  obtain ⟨fT, fkr, fnr, hkn, hn60⟩ := pT
  have loop : ∀ m : Nat, ∀ (i c : Nat) (b : Bool) (h1 : xH) (g1 : Nat → Int32), 60 - i < m → i ≤ 60 → ((b = true ∧ c = i) ∨ (b = false ∧ c + 1 = i ∧ tK ks n (p + c) 3 = false)) → p + c ≤ 60 → r = c + tRun ks n 3 (60 - c) (p + c) → h1 P = some (oPa T S (nI (p + c))) → pTo V h1 T kr nr ks ns n → h1 S = some (oSt vb ls fi se fa (nI c) nb np pk kc cd) → h1 nb = some (xI V 6 g1) → (∀ j, j < c → j < 6 → g1 j = ns (p + j)) → xKeep [P, S, nb] h h1 → K 0 0 h1 7 [(2, .int (nI i)), (1, .int (bI b)), (0, .ref P)] [] := by
    intro m
    induction m with
    | zero => intro i c b h1 g1 hm hi hbc hpc hR fP pT fS fnb hg kp; omega
    | succ m ih =>
      intro i c b h1 g1 hm hi hbc hpc hR fP pT fS fnb hg kp
      obtain ⟨fT, fkr, fnr, hkn, hn60⟩ := pT
      have hend : (60 ≤ i ∨ b = false) → r = c := by
        intro hz
        rcases hbc with z | z
        · have hc6 : c = 60 := by rcases hz with y | y; omega; rw [z.1] at y; cases y
          rw [hR, hc6]
          rfl
        · rw [hR, tRun_no z.2.2]
          omega
      refine x_iload_n C d_Pa_takeNumbers_7 rfl rfl ?_
      refine x_bipush (v := 60) C d_Pa_takeNumbers_8 (by decide) ?_
      refine x_icmp_ge (tgt := 28) C d_Pa_takeNumbers_10 rfl (fun q10 => ?_) (fun q10 => ?_)
      · skip
        have hi6 := nge_of (b := 60) q10 (by decide)
        have hrc : r = c := hend (by first | exact Or.inl hi6 | exact Or.inr hb)
        subst hrc
        refine x_aload_n C d_Pa_takeNumbers_28 rfl rfl ?_
        refine x_get C k_Pa f_Pa_12 d_Pa_takeNumbers_29 fP (by rfl) ?_
        refine x_get C k_St f_Pa_90 d_Pa_takeNumbers_32 fS (by rfl) ?_
        refine x_if_le (tgt := 42) C d_Pa_takeNumbers_35 rfl (fun q35 => ?_) (fun q35 => ?_)
        · skip
          have hr0 : ¬ 0 < r := fun z => absurd q35 (nI_nle z (by omega))
          refine x_iconst (v := 0) C d_Pa_takeNumbers_42 (by decide) ?_
          refine x_zret C d_Pa_takeNumbers_43 (by rfl) ?_
          refine ⟨g1, ?_, fP, fS, fnb, hg, hpc, kp⟩
          simp [hr0, bI]
        · skip
          have hr0 : 0 < r := by rcases Nat.eq_zero_or_pos r with z | z; exact absurd (by rw [z]; decide) q35; exact z
          refine x_iconst (v := 1) C d_Pa_takeNumbers_38 (by decide) ?_
          refine x_goto (tgt := 43) C d_Pa_takeNumbers_39 rfl ?_
          refine x_zret C d_Pa_takeNumbers_43 (by rfl) ?_
          refine ⟨g1, ?_, fP, fS, fnb, hg, hpc, kp⟩
          simp [hr0, bI]
      · skip
        have hi6 := nlt_of (b := 60) q10 (by decide) (by omega)
        refine x_iload_n C d_Pa_takeNumbers_13 rfl rfl ?_
        refine x_if_eq (tgt := 28) C d_Pa_takeNumbers_14 rfl (fun q14 => ?_) (fun q14 => ?_)
        · skip
          have hb : b = false := bI_f q14
          have hrc : r = c := hend (by first | exact Or.inl hi6 | exact Or.inr hb)
          subst hrc
          refine x_aload_n C d_Pa_takeNumbers_28 rfl rfl ?_
          refine x_get C k_Pa f_Pa_12 d_Pa_takeNumbers_29 fP (by rfl) ?_
          refine x_get C k_St f_Pa_90 d_Pa_takeNumbers_32 fS (by rfl) ?_
          refine x_if_le (tgt := 42) C d_Pa_takeNumbers_35 rfl (fun q35 => ?_) (fun q35 => ?_)
          · skip
            have hr0 : ¬ 0 < r := fun z => absurd q35 (nI_nle z (by omega))
            refine x_iconst (v := 0) C d_Pa_takeNumbers_42 (by decide) ?_
            refine x_zret C d_Pa_takeNumbers_43 (by rfl) ?_
            refine ⟨g1, ?_, fP, fS, fnb, hg, hpc, kp⟩
            simp [hr0, bI]
          · skip
            have hr0 : 0 < r := by rcases Nat.eq_zero_or_pos r with z | z; exact absurd (by rw [z]; decide) q35; exact z
            refine x_iconst (v := 1) C d_Pa_takeNumbers_38 (by decide) ?_
            refine x_goto (tgt := 43) C d_Pa_takeNumbers_39 rfl ?_
            refine x_zret C d_Pa_takeNumbers_43 (by rfl) ?_
            refine ⟨g1, ?_, fP, fS, fnb, hg, hpc, kp⟩
            simp [hr0, bI]
        · skip
          have hb : b = true := bI_t q14
          have hc2 : c = i := by rcases hbc with z | z; exact z.2; rw [z.1] at hb; cases hb
          refine x_aload_n C d_Pa_takeNumbers_17 rfl rfl ?_
          refine x_callV C l_Pa_34 v_Pa_takeNumber d_Pa_takeNumbers_18 (m_Pa_takeNumber (p := p + c) fP ⟨fT, fkr, fnr, hkn, hn60⟩ hpc fS fnb (by omega)) fP rfl (by rfl) (by rfl) (by decide) (by decide) (Nat.le_of_ble_eq_true rfl) ?_
          rintro v1 h1 ⟨rfl, fP', fS', fnb', kp1⟩
          have fT := kp1.get fT (nm_c (by first | assumption | exact Ne.symm (by assumption) | exact x_ne fT fP (by simp)) (nm_c (by first | assumption | exact Ne.symm (by assumption) | exact x_ne fT fS (by simp)) (nm_c (by first | assumption | exact Ne.symm (by assumption) | exact x_ne fT fnb (by simp)) nm_n)))
          have fkr := kp1.get fkr (nm_c (by first | assumption | exact Ne.symm (by assumption) | exact x_ne fkr fP (by simp)) (nm_c (by first | assumption | exact Ne.symm (by assumption) | exact x_ne fkr fS (by simp)) (nm_c (by first | assumption | exact Ne.symm (by assumption) | exact x_ne fkr fnb (by simp)) nm_n)))
          have fnr := kp1.get fnr (nm_c (by first | assumption | exact Ne.symm (by assumption) | exact x_ne fnr fP (by simp)) (nm_c (by first | assumption | exact Ne.symm (by assumption) | exact x_ne fnr fS (by simp)) (nm_c (by first | assumption | exact Ne.symm (by assumption) | exact x_ne fnr fnb (by simp)) nm_n)))
          have kp := kp.call kp1 (kc_c (Or.inl (by simp)) (kc_c (Or.inl (by simp)) (kc_c (Or.inl (by simp)) kc_n)))
          have fP := fP'
          have fS := fS'
          have fnb := fnb'
          refine x_istore_n (lv' := [(1, _), (2, _), (0, _)]) C d_Pa_takeNumbers_21 rfl (by decide) (by rfl) ?_
          refine x_iinc (v := nI (i + 1)) (k0 := 1) (lv' := [(2, _), (1, _), (0, _)]) C d_Pa_takeNumbers_22 (by rfl) (nI_1 i) (by decide) (by rfl) ?_
          refine x_goto (tgt := 7) C d_Pa_takeNumbers_25 rfl ?_
          subst hc2
          by_cases ht : tK ks n (p + c) 3 = true
          · rw [if_pos ht] at fP fS fnb
            rw [ht]
            refine ih (c + 1) (c + 1) true _ _ (by omega) (by omega) (Or.inl ⟨rfl, rfl⟩) (by have := (tK_iff.mp ht).1; omega) ?_ (by rw [fP]; rfl) ⟨fT, fkr, fnr, hkn, hn60⟩ fS fnb (fun j h1 h2 => ?_) kp
            · obtain ⟨m6, hm6⟩ : ∃ m6, 60 - c = m6 + 1 := ⟨59 - c, by omega⟩
              rw [hR, hm6, tRun_yes ht, show 60 - (c + 1) = m6 by omega, show p + (c + 1) = p + c + 1 by omega]
              omega
            · by_cases hc6 : c < 6
              · rw [if_pos hc6]
                by_cases hj : j = c
                · rw [hj, pk_us]
                · rw [pk_un hj]; exact hg j (by omega) h2
              · rw [if_neg hc6]; exact hg j (by omega) h2
          · rw [if_neg ht] at fP fS fnb
            have hf := Bool.eq_false_iff.mpr ht
            rw [hf]
            exact ih (c + 1) c false _ _ (by omega) (by omega) (Or.inr ⟨rfl, rfl, hf⟩) hpc hR fP ⟨fT, fkr, fnr, hkn, hn60⟩ fS fnb hg kp
  refine x_aload_n C d_Pa_takeNumbers_0 rfl rfl ?_
  refine x_callV C l_Pa_34 v_Pa_takeNumber d_Pa_takeNumbers_1 (m_Pa_takeNumber (nc := 0) fP ⟨fT, fkr, fnr, hkn, hn60⟩ hp fS fnb (by decide)) fP rfl (by rfl) (by rfl) (by decide) (by decide) (Nat.le_of_ble_eq_true rfl) ?_
  rintro v2 h2 ⟨rfl, fP', fS', fnb', kp2⟩
  have fT := kp2.get fT (nm_c (by first | assumption | exact Ne.symm (by assumption) | exact x_ne fT fP (by simp)) (nm_c (by first | assumption | exact Ne.symm (by assumption) | exact x_ne fT fS (by simp)) (nm_c (by first | assumption | exact Ne.symm (by assumption) | exact x_ne fT fnb (by simp)) nm_n)))
  have fkr := kp2.get fkr (nm_c (by first | assumption | exact Ne.symm (by assumption) | exact x_ne fkr fP (by simp)) (nm_c (by first | assumption | exact Ne.symm (by assumption) | exact x_ne fkr fS (by simp)) (nm_c (by first | assumption | exact Ne.symm (by assumption) | exact x_ne fkr fnb (by simp)) nm_n)))
  have fnr := kp2.get fnr (nm_c (by first | assumption | exact Ne.symm (by assumption) | exact x_ne fnr fP (by simp)) (nm_c (by first | assumption | exact Ne.symm (by assumption) | exact x_ne fnr fS (by simp)) (nm_c (by first | assumption | exact Ne.symm (by assumption) | exact x_ne fnr fnb (by simp)) nm_n)))
  have kp := kp.call kp2 (kc_c (Or.inl (by simp)) (kc_c (Or.inl (by simp)) (kc_c (Or.inl (by simp)) kc_n)))
  have fP := fP'
  have fS := fS'
  have fnb := fnb'
  refine x_istore_n (lv' := [(1, _), (0, _)]) C d_Pa_takeNumbers_4 rfl (by decide) (by rfl) ?_
  refine x_iconst (v := 1) C d_Pa_takeNumbers_5 (by decide) ?_
  refine x_istore_n (lv' := [(2, _), (1, _), (0, _)]) C d_Pa_takeNumbers_6 rfl (by decide) (by rfl) ?_
  by_cases ht : tK ks n p 3 = true
  · rw [if_pos ht] at fP fS fnb
    rw [ht]
    refine loop 60 1 1 true _ _ (by omega) (by omega) (Or.inl ⟨rfl, rfl⟩) (by have := (tK_iff.mp ht).1; omega) ?_ fP ⟨fT, fkr, fnr, hkn, hn60⟩ fS fnb (fun j h1 h2 => ?_) kp
    · rw [← hr, tRun_yes ht]; exact Nat.add_comm _ _
    · have hj : j = 0 := by omega
      rw [hj, if_pos (by decide)]; exact pk_us
  · rw [if_neg ht] at fP fS fnb
    have hf := Bool.eq_false_iff.mpr ht
    rw [hf]
    exact loop 60 1 0 false _ _ (by omega) (by omega) (Or.inr ⟨rfl, rfl, hf⟩) hp (by rw [← hr]; simp) fP ⟨fT, fkr, fnr, hkn, hn60⟩ fS fnb (fun j h1 h2 => absurd h1 (by omega)) kp
set_option maxRecDepth 20000 in
set_option maxHeartbeats 1000000 in
theorem m_Pa_takeColumns {V : xV} {h : xH} {P T kr nr S : Nat} {ks ns : Nat → Int32} {n p : Nat} (fP : h P = some (oPa T S (nI p))) (pT : pTo V h T kr nr ks ns n) (hp : p ≤ 60) {nb pk cd : Nat} {vb ls fi se fa nc kc : Int32} {po : Nat → Option Nat} (fS : h S = some (oSt vb ls fi se fa nc nb 0 pk kc cd)) (fpk : h pk = some (xR V 2 12 po)) {mo r : Nat} (hmo : mo ≤ 8) (hr : tRun ks n 2 mo p = r) : xM V y_Pa_takeColumns b_Pa_takeColumns 3 (some .boolean) 3 [.ref P, .int (nI mo)] h 8 16 (fun v h' => ∃ po' pick, v = some (.int (bI (decide (0 < r)))) ∧ h' P = some (oPa T S (nI (p + r))) ∧ h' S = some (oSt vb ls fi se fa nc nb (nI r) pk kc cd) ∧ h' pk = some (xR V 2 12 po') ∧ pOps h' po' r pick ∧ (∀ j, j < r → pick j = ns (p + j)) ∧ r ≤ mo ∧ p + r ≤ 60 ∧ xKeep [P, S, pk] h h') := by
  refine xM_of false (by decide) (fun h => nomatch h) (Nat.le_of_ble_eq_true rfl) (fun K C => ?_)
  show K 8 16 h 0 [(0, .ref P), (1, .int (nI mo))] []
  have kp : xKeep [P, S, pk] h h := xKeep.rf
  obtain ⟨fT, fkr, fnr, hkn, hn60⟩ := pT
  have loop : ∀ m : Nat, ∀ (i a b : Nat) (h1 : xH) (po1 : Nat → Option Nat) (pick1 : Nat → Int32), mo - i < m → 8 - i ≤ a → 16 - 2 * i ≤ b → i ≤ mo → p + i ≤ 60 → r = i + tRun ks n 2 (mo - i) (p + i) → h1 P = some (oPa T S (nI (p + i))) → pTo V h1 T kr nr ks ns n → h1 S = some (oSt vb ls fi se fa nc nb (nI i) pk kc cd) → h1 pk = some (xR V 2 12 po1) → pOps h1 po1 i pick1 → (∀ j, j < i → pick1 j = ns (p + j)) → xKeep [P, S, pk] h h1 → K a b h1 2 [(2, .int (nI i)), (0, .ref P), (1, .int (nI mo))] [] := by
    intro m
    induction m with
    | zero => intro i a b h1 po1 pick1 hm ha hb hi hpi hR fP pT fS fpk pO1 hpk kp; omega
    | succ m ih =>
      intro i a b h1 po1 pick1 hm ha hb hi hpi hR fP pT fS fpk pO1 hpk kp
      obtain ⟨fT, fkr, fnr, hkn, hn60⟩ := pT
      refine x_iload_n C d_Pa_takeColumns_2 rfl rfl ?_
      refine x_iload_n C d_Pa_takeColumns_3 rfl rfl ?_
      refine x_icmp_ge (tgt := 57) C d_Pa_takeColumns_4 rfl (fun q4 => ?_) (fun q4 => ?_)
      · skip
        have hi6 := nge_of q4 (by omega)
        have hrc : r = i := by
          rw [hR]
          first | (rw [tRun_no q19]; omega) | (have : mo - i = 0 := (by omega); rw [this]; rfl)
        subst hrc
        refine x_aload_n C d_Pa_takeColumns_57 rfl rfl ?_
        refine x_get C k_Pa f_Pa_12 d_Pa_takeColumns_58 fP (by rfl) ?_
        refine x_get C k_St f_Pa_102 d_Pa_takeColumns_61 fS (by rfl) ?_
        refine x_if_le (tgt := 71) C d_Pa_takeColumns_64 rfl (fun q64 => ?_) (fun q64 => ?_)
        · skip
          have hr0 : ¬ 0 < r := fun z => absurd q64 (nI_nle z (by omega))
          refine x_iconst (v := 0) C d_Pa_takeColumns_71 (by decide) ?_
          refine x_zret C d_Pa_takeColumns_72 (by rfl) ?_
          refine ⟨po1, pick1, ?_, fP, fS, fpk, pO1, hpk, hi, hpi, kp⟩
          simp [hr0, bI]
        · skip
          have hr0 : 0 < r := by rcases Nat.eq_zero_or_pos r with z | z; exact absurd (by rw [z]; decide) q64; exact z
          refine x_iconst (v := 1) C d_Pa_takeColumns_67 (by decide) ?_
          refine x_goto (tgt := 72) C d_Pa_takeColumns_68 rfl ?_
          refine x_zret C d_Pa_takeColumns_72 (by rfl) ?_
          refine ⟨po1, pick1, ?_, fP, fS, fpk, pO1, hpk, hi, hpi, kp⟩
          simp [hr0, bI]
      · skip
        have hi6 := nlt_of q4 (by omega) (by omega)
        refine x_aload_n C d_Pa_takeColumns_7 rfl rfl ?_
        refine x_get C k_Pa f_Pa_18 d_Pa_takeColumns_8 fP (by rfl) ?_
        refine x_aload_n C d_Pa_takeColumns_11 rfl rfl ?_
        refine x_get C k_Pa f_Pa_52 d_Pa_takeColumns_12 fP (by rfl) ?_
        refine x_iconst (v := 2) C d_Pa_takeColumns_15 (by decide) ?_
        refine x_callV C l_Pa_75 v_To_isKind d_Pa_takeColumns_16 (m_To_isKind ⟨fT, fkr, fnr, hkn, hn60⟩ (nI (p + i)) 2) fT rfl (by rfl) (by rfl) (by decide) (by decide) (Nat.le_of_ble_eq_true rfl) ?_
        rintro v h' ⟨rfl, rfl⟩
        rw [kd_eq (by omega) (by omega)]
        refine x_if_eq (tgt := 57) C d_Pa_takeColumns_19 rfl (fun q19 => ?_) (fun q19 => ?_)
        · skip
          replace q19 := bI_f q19
          have hrc : r = i := by
            rw [hR]
            first | (rw [tRun_no q19]; omega) | (have : mo - i = 0 := (by omega); rw [this]; rfl)
          subst hrc
          refine x_aload_n C d_Pa_takeColumns_57 rfl rfl ?_
          refine x_get C k_Pa f_Pa_12 d_Pa_takeColumns_58 fP (by rfl) ?_
          refine x_get C k_St f_Pa_102 d_Pa_takeColumns_61 fS (by rfl) ?_
          refine x_if_le (tgt := 71) C d_Pa_takeColumns_64 rfl (fun q64 => ?_) (fun q64 => ?_)
          · skip
            have hr0 : ¬ 0 < r := fun z => absurd q64 (nI_nle z (by omega))
            refine x_iconst (v := 0) C d_Pa_takeColumns_71 (by decide) ?_
            refine x_zret C d_Pa_takeColumns_72 (by rfl) ?_
            refine ⟨po1, pick1, ?_, fP, fS, fpk, pO1, hpk, hi, hpi, kp⟩
            simp [hr0, bI]
          · skip
            have hr0 : 0 < r := by rcases Nat.eq_zero_or_pos r with z | z; exact absurd (by rw [z]; decide) q64; exact z
            refine x_iconst (v := 1) C d_Pa_takeColumns_67 (by decide) ?_
            refine x_goto (tgt := 72) C d_Pa_takeColumns_68 rfl ?_
            refine x_zret C d_Pa_takeColumns_72 (by rfl) ?_
            refine ⟨po1, pick1, ?_, fP, fS, fpk, pO1, hpk, hi, hpi, kp⟩
            simp [hr0, bI]
        · skip
          replace q19 := bI_t q19
          have hk := tK_iff.mp q19
          obtain ⟨a9, rfl⟩ : ∃ a9, a = a9 + 1 := ⟨a - 1, by omega⟩
          obtain ⟨b9, rfl⟩ : ∃ b9, b = b9 + 2 := ⟨b - 2, by omega⟩
          refine x_aload_n C d_Pa_takeColumns_22 rfl rfl ?_
          refine x_get C k_Pa f_Pa_12 d_Pa_takeColumns_23 fP (by rfl) ?_
          refine x_aload_n C d_Pa_takeColumns_26 rfl rfl ?_
          refine x_get C k_Pa f_Pa_18 d_Pa_takeColumns_27 fP (by rfl) ?_
          refine x_get C k_To f_Pa_79 d_Pa_takeColumns_30 fT (by rfl) ?_
          refine x_aload_n C d_Pa_takeColumns_33 rfl rfl ?_
          refine x_get C k_Pa f_Pa_52 d_Pa_takeColumns_34 fP (by rfl) ?_
          refine x_iald C d_Pa_takeColumns_37 fnr (vp_in_nI (by omega) (by decide)) ?_
          rw [nI_clamp (by omega)]
          refine x_callV C l_Pa_99 v_St_addPick d_Pa_takeColumns_38 (m_St_addPick fS fpk (by omega) pO1 (ns (p + i))) fS rfl (by rfl) (by rfl) (by decide) (by decide) (Nat.le_of_ble_eq_true rfl) ?_
          rintro v1 h1 ⟨rfl, po2, fS', fpk', pO2, kp1⟩
          have fP := kp1.get fP (nm_c (by first | assumption | exact Ne.symm (by assumption) | exact x_ne fP fS (by simp)) (nm_c (by first | assumption | exact Ne.symm (by assumption) | exact x_ne fP fpk (by simp)) nm_n))
          have fT := kp1.get fT (nm_c (by first | assumption | exact Ne.symm (by assumption) | exact x_ne fT fS (by simp)) (nm_c (by first | assumption | exact Ne.symm (by assumption) | exact x_ne fT fpk (by simp)) nm_n))
          have fkr := kp1.get fkr (nm_c (by first | assumption | exact Ne.symm (by assumption) | exact x_ne fkr fS (by simp)) (nm_c (by first | assumption | exact Ne.symm (by assumption) | exact x_ne fkr fpk (by simp)) nm_n))
          have fnr := kp1.get fnr (nm_c (by first | assumption | exact Ne.symm (by assumption) | exact x_ne fnr fS (by simp)) (nm_c (by first | assumption | exact Ne.symm (by assumption) | exact x_ne fnr fpk (by simp)) nm_n))
          have kp := kp.call kp1 (kc_c (Or.inl (by simp)) (kc_c (Or.inl (by simp)) kc_n))
          have fS := fS'
          have fpk := fpk'
          have fP3 := fP
          have pO3 : pOps h1 po2 (i + 1) (upd pick1 i (ns (p + i))) := pO2
          refine x_aload_n C d_Pa_takeColumns_41 rfl rfl ?_
          refine x_dup C d_Pa_takeColumns_42 rfl ?_
          refine x_get C k_Pa f_Pa_52 d_Pa_takeColumns_43 fP (by rfl) ?_
          refine x_iconst (v := 1) C d_Pa_takeColumns_46 (by decide) ?_
          refine x_iadd C d_Pa_takeColumns_47 ?_
          refine x_put (fs' := [_, _, _]) C k_Pa f_Pa_52 d_Pa_takeColumns_48 fP (by rfl) (by rfl) (by rfl) (Nat.le_of_ble_eq_true rfl) (by rfl) (fun h2 u2 => ?_)
          have fT := xUp_ne u2 fT (by first | assumption | exact Ne.symm (by assumption) | exact x_ne fT fP (by simp))
          have fkr := xUp_ne u2 fkr (by first | assumption | exact Ne.symm (by assumption) | exact x_ne fkr fP (by simp))
          have fnr := xUp_ne u2 fnr (by first | assumption | exact Ne.symm (by assumption) | exact x_ne fnr fP (by simp))
          have fS := xUp_ne u2 fS (by first | assumption | exact Ne.symm (by assumption) | exact x_ne fS fP (by simp))
          have fpk := xUp_ne u2 fpk (by first | assumption | exact Ne.symm (by assumption) | exact x_ne fpk fP (by simp))
          have fP := xUp_at u2
          have kp := kp.up u2 (by simp)
          refine x_iinc (v := nI (i + 1)) (k0 := 0) (lv' := [(2, _), (0, _), (1, _)]) C d_Pa_takeColumns_51 (by rfl) (nI_1 i) (by decide) (by rfl) ?_
          refine x_goto (tgt := 2) C d_Pa_takeColumns_54 rfl ?_
          refine ih (i + 1) a9 b9 _ po2 (upd pick1 i (ns (p + i))) (by omega) (by omega) (by omega) (by omega) (by omega) ?_ (by rw [fP, nI_1, show p + i + 1 = p + (i + 1) by omega]) ⟨fT, fkr, fnr, hkn, hn60⟩ fS fpk ?_ (lt_s (fun j hj => by rw [pk_un (by omega)]; exact hpk j hj) pk_us) kp
          · obtain ⟨m6, hm6⟩ : ∃ m6, mo - i = m6 + 1 := ⟨mo - i - 1, by omega⟩
            rw [hR, hm6, tRun_yes q19, show mo - (i + 1) = m6 by omega, show p + (i + 1) = p + i + 1 by omega]
            omega
          · exact pO3.keep (xKeep.ops (xKeep.rf.up (M := [P]) u2 (by simp)) (no_c fP3 rfl no_n))
  refine x_iconst (v := 0) C d_Pa_takeColumns_0 (by decide) ?_
  refine x_istore_n (lv' := [(2, _), (0, _), (1, _)]) C d_Pa_takeColumns_1 rfl (by decide) (by rfl) ?_
  exact loop (mo + 1) 0 8 16 h po (fun _ => 0) (by omega) (by omega) (by omega) (by omega) (by omega) (by rw [← hr]; simp) fP ⟨fT, fkr, fnr, hkn, hn60⟩ fS fpk lt_0 lt_0 kp
set_option maxRecDepth 20000 in
set_option maxHeartbeats 1000000 in
theorem m_Pa_takeList {V : xV} {h : xH} {P T kr nr S : Nat} {ks ns : Nat → Int32} {n p : Nat} (fP : h P = some (oPa T S (nI p))) (pT : pTo V h T kr nr ks ns n) (hp : p ≤ 60) {nb pk cd : Nat} {vb fi se fa nc kc : Int32} {po : Nat → Option Nat} (fS : h S = some (oSt vb (-1) fi se fa nc nb 0 pk kc cd)) (fpk : h pk = some (xR V 2 12 po)) : xM V y_Pa_takeList b_Pa_takeList 1 (some .boolean) 4 [.ref P] h 8 16 (fun v h' => ∃ (ok : Bool) (r q : Nat) (ls : Int32), v = some (.int (bI ok)) ∧ tLst ks ns n p = (ok, r, q, ls) ∧ xKeep [P, S, pk] h h' ∧ (ok = true → r ≤ 8 ∧ q ≤ 60 ∧ h' P = some (oPa T S (nI q)) ∧ h' S = some (oSt vb ls fi se fa nc nb (nI r) pk kc cd) ∧ ∃ po' pick, h' pk = some (xR V 2 12 po') ∧ pOps h' po' r pick ∧ ∀ j, j < r → pick j = ns ((if ls = 6 then p + 1 else p) + j))) := by
  refine xM_of false (by decide) (fun h => nomatch h) (Nat.le_of_ble_eq_true rfl) (fun K C => ?_)
  show K 8 16 h 0 [(0, .ref P)] []
  have kp : xKeep [P, S, pk] h h := xKeep.rf
  obtain ⟨fT, fkr, fnr, hkn, hn60⟩ := pT
  refine x_aload_n C d_Pa_takeList_0 rfl rfl ?_
  refine x_iconst (v := 4) C d_Pa_takeList_1 (by decide) ?_
  refine x_callV C l_Pa_60 v_Pa_takeWord d_Pa_takeList_2 (m_Pa_takeWord fP ⟨fT, fkr, fnr, hkn, hn60⟩ hp 4 (by decide)) fP rfl (by rfl) (by rfl) (by decide) (by decide) (Nat.le_of_ble_eq_true rfl) ?_
  rintro v1 h1 ⟨rfl, fP', kp1⟩
  have fT := kp1.get fT (nm_c (by first | assumption | exact Ne.symm (by assumption) | exact x_ne fT fP (by simp)) nm_n)
  have fkr := kp1.get fkr (nm_c (by first | assumption | exact Ne.symm (by assumption) | exact x_ne fkr fP (by simp)) nm_n)
  have fnr := kp1.get fnr (nm_c (by first | assumption | exact Ne.symm (by assumption) | exact x_ne fnr fP (by simp)) nm_n)
  have fS := kp1.get fS (nm_c (by first | assumption | exact Ne.symm (by assumption) | exact x_ne fS fP (by simp)) nm_n)
  have fpk := kp1.get fpk (nm_c (by first | assumption | exact Ne.symm (by assumption) | exact x_ne fpk fP (by simp)) nm_n)
  have kp := kp.call kp1 (kc_c (Or.inl (by simp)) kc_n)
  have fP := fP'
  refine x_if_eq (tgt := 18) C d_Pa_takeList_5 rfl (fun q5 => ?_) (fun q5 => ?_)
  · skip
    replace q5 := bI_f q5
    have y5 : ¬ tW ks ns n p 4 4 = true := by rw [q5]; decide
    rw [if_neg y5] at fP
    refine x_aload_n C d_Pa_takeList_18 rfl rfl ?_
    refine x_iconst (v := 5) C d_Pa_takeList_19 (by decide) ?_
    refine x_callV C l_Pa_60 v_Pa_takeWord d_Pa_takeList_20 (m_Pa_takeWord fP ⟨fT, fkr, fnr, hkn, hn60⟩ hp 5 (by decide)) fP rfl (by rfl) (by rfl) (by decide) (by decide) (Nat.le_of_ble_eq_true rfl) ?_
    rintro v2 h2 ⟨rfl, fP', kp2⟩
    have fT := kp2.get fT (nm_c (by first | assumption | exact Ne.symm (by assumption) | exact x_ne fT fP (by simp)) nm_n)
    have fkr := kp2.get fkr (nm_c (by first | assumption | exact Ne.symm (by assumption) | exact x_ne fkr fP (by simp)) nm_n)
    have fnr := kp2.get fnr (nm_c (by first | assumption | exact Ne.symm (by assumption) | exact x_ne fnr fP (by simp)) nm_n)
    have fS := kp2.get fS (nm_c (by first | assumption | exact Ne.symm (by assumption) | exact x_ne fS fP (by simp)) nm_n)
    have fpk := kp2.get fpk (nm_c (by first | assumption | exact Ne.symm (by assumption) | exact x_ne fpk fP (by simp)) nm_n)
    have kp := kp.call kp2 (kc_c (Or.inl (by simp)) kc_n)
    have fP := fP'
    refine x_if_eq (tgt := 36) C d_Pa_takeList_23 rfl (fun q23 => ?_) (fun q23 => ?_)
    · skip
      replace q23 := bI_f q23
      have y23 : ¬ tW ks ns n p 5 5 = true := by rw [q23]; decide
      rw [if_neg y23] at fP
      refine x_aload_n C d_Pa_takeList_36 rfl rfl ?_
      refine x_bipush (v := 6) C d_Pa_takeList_37 (by decide) ?_
      refine x_callV C l_Pa_60 v_Pa_takeWord d_Pa_takeList_39 (m_Pa_takeWord fP ⟨fT, fkr, fnr, hkn, hn60⟩ hp 6 (by decide)) fP rfl (by rfl) (by rfl) (by decide) (by decide) (Nat.le_of_ble_eq_true rfl) ?_
      rintro v3 h3 ⟨rfl, fP', kp3⟩
      have fT := kp3.get fT (nm_c (by first | assumption | exact Ne.symm (by assumption) | exact x_ne fT fP (by simp)) nm_n)
      have fkr := kp3.get fkr (nm_c (by first | assumption | exact Ne.symm (by assumption) | exact x_ne fkr fP (by simp)) nm_n)
      have fnr := kp3.get fnr (nm_c (by first | assumption | exact Ne.symm (by assumption) | exact x_ne fnr fP (by simp)) nm_n)
      have fS := kp3.get fS (nm_c (by first | assumption | exact Ne.symm (by assumption) | exact x_ne fS fP (by simp)) nm_n)
      have fpk := kp3.get fpk (nm_c (by first | assumption | exact Ne.symm (by assumption) | exact x_ne fpk fP (by simp)) nm_n)
      have kp := kp.call kp3 (kc_c (Or.inl (by simp)) kc_n)
      have fP := fP'
      refine x_if_eq (tgt := 60) C d_Pa_takeList_42 rfl (fun q42 => ?_) (fun q42 => ?_)
      · skip
        replace q42 := bI_f q42
        have y42 : ¬ tW ks ns n p 6 6 = true := by rw [q42]; decide
        rw [if_neg y42] at fP
        refine x_aload_n C d_Pa_takeList_60 rfl rfl ?_
        refine x_bipush (v := 8) C d_Pa_takeList_61 (by decide) ?_
        refine x_callV C l_Pa_96 v_Pa_takeColumns d_Pa_takeList_63 (m_Pa_takeColumns (p := p) (mo := 8) (r := tRun ks n 2 8 p) fP ⟨fT, fkr, fnr, hkn, hn60⟩ hp fS fpk (by decide) rfl) fP rfl (by rfl) (by rfl) (by decide) (by decide) (Nat.le_of_ble_eq_true rfl) ?_
        rintro v4 h4 ⟨po', pick, rfl, fP', fS', fpk', pO, hpk, hr8, hq60, kp4⟩
        have fT := kp4.get fT (nm_c (by first | assumption | exact Ne.symm (by assumption) | exact x_ne fT fP (by simp)) (nm_c (by first | assumption | exact Ne.symm (by assumption) | exact x_ne fT fS (by simp)) (nm_c (by first | assumption | exact Ne.symm (by assumption) | exact x_ne fT fpk (by simp)) nm_n)))
        have fkr := kp4.get fkr (nm_c (by first | assumption | exact Ne.symm (by assumption) | exact x_ne fkr fP (by simp)) (nm_c (by first | assumption | exact Ne.symm (by assumption) | exact x_ne fkr fS (by simp)) (nm_c (by first | assumption | exact Ne.symm (by assumption) | exact x_ne fkr fpk (by simp)) nm_n)))
        have fnr := kp4.get fnr (nm_c (by first | assumption | exact Ne.symm (by assumption) | exact x_ne fnr fP (by simp)) (nm_c (by first | assumption | exact Ne.symm (by assumption) | exact x_ne fnr fS (by simp)) (nm_c (by first | assumption | exact Ne.symm (by assumption) | exact x_ne fnr fpk (by simp)) nm_n)))
        have kp := kp.call kp4 (kc_c (Or.inl (by simp)) (kc_c (Or.inl (by simp)) (kc_c (Or.inl (by simp)) kc_n)))
        have fP := fP'
        have fS := fS'
        have fpk := fpk'
        refine x_zret C d_Pa_takeList_66 (by first | rfl | (cases (decide (0 < tRun ks n 2 1 (p + 1))) <;> rfl) | (cases (decide (0 < tRun ks n 2 8 p)) <;> rfl)) ?_
        exact ⟨_, _, _, -1, rfl, by unfold tLst; rw [if_neg y5, if_neg y23, if_neg y42], kp, fun _ => ⟨by omega, by omega, fP, fS, po', pick, fpk, pO, fun j hj => by rw [if_neg (by decide)]; exact hpk j hj⟩⟩
      · skip
        replace q42 := bI_t q42
        rw [if_pos q42] at fP
        have hw := tW_iff.mp q42
        refine x_aload_n C d_Pa_takeList_45 rfl rfl ?_
        refine x_get C k_Pa f_Pa_12 d_Pa_takeList_46 fP (by rfl) ?_
        refine x_bipush (v := 6) C d_Pa_takeList_49 (by decide) ?_
        refine x_put (fs' := [_, _, _, _, _, _, _, _, _, _, _]) C k_St f_Pa_93 d_Pa_takeList_51 fS (by rfl) (by rfl) (by rfl) (Nat.le_of_ble_eq_true rfl) (by rfl) (fun h5 u5 => ?_)
        have fP := xUp_ne u5 fP (by first | assumption | exact Ne.symm (by assumption) | exact x_ne fP fS (by simp))
        have fT := xUp_ne u5 fT (by first | assumption | exact Ne.symm (by assumption) | exact x_ne fT fS (by simp))
        have fkr := xUp_ne u5 fkr (by first | assumption | exact Ne.symm (by assumption) | exact x_ne fkr fS (by simp))
        have fnr := xUp_ne u5 fnr (by first | assumption | exact Ne.symm (by assumption) | exact x_ne fnr fS (by simp))
        have fpk := xUp_ne u5 fpk (by first | assumption | exact Ne.symm (by assumption) | exact x_ne fpk fS (by simp))
        have fS := xUp_at u5
        have kp := kp.up u5 (by simp)
        refine x_aload_n C d_Pa_takeList_54 rfl rfl ?_
        refine x_iconst (v := 1) C d_Pa_takeList_55 (by decide) ?_
        refine x_callV C l_Pa_96 v_Pa_takeColumns d_Pa_takeList_56 (m_Pa_takeColumns (p := p + 1) (mo := 1) (r := tRun ks n 2 1 (p + 1)) fP ⟨fT, fkr, fnr, hkn, hn60⟩ (by omega) fS fpk (by decide) rfl) fP rfl (by rfl) (by rfl) (by decide) (by decide) (Nat.le_of_ble_eq_true rfl) ?_
        rintro v6 h6 ⟨po', pick, rfl, fP', fS', fpk', pO, hpk, hr8, hq60, kp6⟩
        have fT := kp6.get fT (nm_c (by first | assumption | exact Ne.symm (by assumption) | exact x_ne fT fP (by simp)) (nm_c (by first | assumption | exact Ne.symm (by assumption) | exact x_ne fT fS (by simp)) (nm_c (by first | assumption | exact Ne.symm (by assumption) | exact x_ne fT fpk (by simp)) nm_n)))
        have fkr := kp6.get fkr (nm_c (by first | assumption | exact Ne.symm (by assumption) | exact x_ne fkr fP (by simp)) (nm_c (by first | assumption | exact Ne.symm (by assumption) | exact x_ne fkr fS (by simp)) (nm_c (by first | assumption | exact Ne.symm (by assumption) | exact x_ne fkr fpk (by simp)) nm_n)))
        have fnr := kp6.get fnr (nm_c (by first | assumption | exact Ne.symm (by assumption) | exact x_ne fnr fP (by simp)) (nm_c (by first | assumption | exact Ne.symm (by assumption) | exact x_ne fnr fS (by simp)) (nm_c (by first | assumption | exact Ne.symm (by assumption) | exact x_ne fnr fpk (by simp)) nm_n)))
        have kp := kp.call kp6 (kc_c (Or.inl (by simp)) (kc_c (Or.inl (by simp)) (kc_c (Or.inl (by simp)) kc_n)))
        have fP := fP'
        have fS := fS'
        have fpk := fpk'
        refine x_zret C d_Pa_takeList_59 (by first | rfl | (cases (decide (0 < tRun ks n 2 1 (p + 1))) <;> rfl) | (cases (decide (0 < tRun ks n 2 8 p)) <;> rfl)) ?_
        exact ⟨_, _, _, 6, rfl, by unfold tLst; rw [if_neg y5, if_neg y23, if_pos q42], kp, fun _ => ⟨by omega, by omega, fP, fS, po', pick, fpk, pO, fun j hj => by rw [if_pos rfl]; exact hpk j hj⟩⟩
    · skip
      replace q23 := bI_t q23
      rw [if_pos q23] at fP
      have hw := tW_iff.mp q23
      refine x_aload_n C d_Pa_takeList_26 rfl rfl ?_
      refine x_get C k_Pa f_Pa_12 d_Pa_takeList_27 fP (by rfl) ?_
      refine x_iconst (v := 5) C d_Pa_takeList_30 (by decide) ?_
      refine x_put (fs' := [_, _, _, _, _, _, _, _, _, _, _]) C k_St f_Pa_93 d_Pa_takeList_31 fS (by rfl) (by rfl) (by rfl) (Nat.le_of_ble_eq_true rfl) (by rfl) (fun h7 u7 => ?_)
      have fP := xUp_ne u7 fP (by first | assumption | exact Ne.symm (by assumption) | exact x_ne fP fS (by simp))
      have fT := xUp_ne u7 fT (by first | assumption | exact Ne.symm (by assumption) | exact x_ne fT fS (by simp))
      have fkr := xUp_ne u7 fkr (by first | assumption | exact Ne.symm (by assumption) | exact x_ne fkr fS (by simp))
      have fnr := xUp_ne u7 fnr (by first | assumption | exact Ne.symm (by assumption) | exact x_ne fnr fS (by simp))
      have fpk := xUp_ne u7 fpk (by first | assumption | exact Ne.symm (by assumption) | exact x_ne fpk fS (by simp))
      have fS := xUp_at u7
      have kp := kp.up u7 (by simp)
      refine x_iconst (v := 1) C d_Pa_takeList_34 (by decide) ?_
      refine x_zret C d_Pa_takeList_35 (by first | rfl | (cases (decide (0 < tRun ks n 2 1 (p + 1))) <;> rfl) | (cases (decide (0 < tRun ks n 2 8 p)) <;> rfl)) ?_
      exact ⟨true, 0, p + 1, 5, rfl, by unfold tLst; rw [if_neg y5, if_pos q23], kp, fun _ => ⟨by omega, by omega, fP, fS, po, (fun _ => 0), fpk, lt_0, lt_0⟩⟩
  · skip
    replace q5 := bI_t q5
    rw [if_pos q5] at fP
    have hw := tW_iff.mp q5
    refine x_aload_n C d_Pa_takeList_8 rfl rfl ?_
    refine x_get C k_Pa f_Pa_12 d_Pa_takeList_9 fP (by rfl) ?_
    refine x_iconst (v := 4) C d_Pa_takeList_12 (by decide) ?_
    refine x_put (fs' := [_, _, _, _, _, _, _, _, _, _, _]) C k_St f_Pa_93 d_Pa_takeList_13 fS (by rfl) (by rfl) (by rfl) (Nat.le_of_ble_eq_true rfl) (by rfl) (fun h8 u8 => ?_)
    have fP := xUp_ne u8 fP (by first | assumption | exact Ne.symm (by assumption) | exact x_ne fP fS (by simp))
    have fT := xUp_ne u8 fT (by first | assumption | exact Ne.symm (by assumption) | exact x_ne fT fS (by simp))
    have fkr := xUp_ne u8 fkr (by first | assumption | exact Ne.symm (by assumption) | exact x_ne fkr fS (by simp))
    have fnr := xUp_ne u8 fnr (by first | assumption | exact Ne.symm (by assumption) | exact x_ne fnr fS (by simp))
    have fpk := xUp_ne u8 fpk (by first | assumption | exact Ne.symm (by assumption) | exact x_ne fpk fS (by simp))
    have fS := xUp_at u8
    have kp := kp.up u8 (by simp)
    refine x_iconst (v := 1) C d_Pa_takeList_16 (by decide) ?_
    refine x_zret C d_Pa_takeList_17 (by first | rfl | (cases (decide (0 < tRun ks n 2 1 (p + 1))) <;> rfl) | (cases (decide (0 < tRun ks n 2 8 p)) <;> rfl)) ?_
    exact ⟨true, 0, p + 1, 4, rfl, by unfold tLst; rw [if_pos q5], kp, fun _ => ⟨by omega, by omega, fP, fS, po, (fun _ => 0), fpk, lt_0, lt_0⟩⟩
set_option maxRecDepth 20000 in
set_option maxHeartbeats 1000000 in
theorem m_Pa_init {V : xV} {h : xH} {P : Nat} (fP : h P = some (.inr (2, [.null, .null, .int 0]))) (T : Nat) : xM V y_Pa_init b_Pa_init 2 none 2 [.ref P, .ref T] h 4 37 (fun v h' => v = none ∧ ∃ S nb pk cd, h' P = some (oPa T S (nI 0)) ∧ h' S = some (oSt 0 (-1) (-1) (-1) 0 0 nb 0 pk 0 cd) ∧ h' nb = some (xI V 6 (fun _ => 0)) ∧ h' pk = some (xR V 2 12 (fun _ => none)) ∧ h' cd = some (xR V 3 8 (fun _ => none)) ∧ h S = none ∧ h nb = none ∧ h pk = none ∧ h cd = none ∧ xKeep [P] h h') := by
  refine xM_of true (by decide) (fun _ => rfl) (Nat.le_of_ble_eq_true rfl) (fun K C => ?_)
  show K 4 37 h 0 [(0, .ref P), (1, .ref T)] []
  have kp : xKeep [P] h h := xKeep.rf
  refine x_aload_n C d_Pa_init_0 rfl rfl ?_
  refine x_objInit C ⟨l_Pa_3, oi_i, oi_c⟩ (by decide) (Nat.le_of_ble_eq_true rfl) d_Pa_init_1 ?_
  refine x_aload_n C d_Pa_init_4 rfl rfl ?_
  refine x_new (fs := [.int 0, .int 0, .int 0, .int 0, .int 0, .int 0, .null, .int 0, .null, .int 0, .null]) C k_St ⟨c_Pa_9, n_St.1, n_St.2⟩ d_Pa_init_5 (by decide +revert) (fun S h1 n1 u1 => ?_)
  have x1_P := x_nn fP n1
  have fP := xUp_new u1 n1 fP
  have z_S := kp.isn n1 (by simp only [List.mem_cons, List.not_mem_nil, or_false, not_or]; exact Ne.symm x1_P)
  have kp := kp.upN u1 z_S
  have f_S := xUp_at u1
  refine x_dup C d_Pa_init_8 rfl ?_
  refine x_callI C l_Pa_11 v_St_init d_Pa_init_9 (m_St_init f_S) rfl (by rfl) (by rfl) (by decide) (by decide) (Nat.le_of_ble_eq_true rfl) ?_
  rintro v2 h2 ⟨rfl, nb, pk, cd, fS', f_nb, f_pk, f_cd, y_nb, y_pk, y_cd, kp2⟩
  have z_nb := kp.isn y_nb (nm_c (Ne.symm (x_nn fP y_nb)) nm_n)
  have z_pk := kp.isn y_pk (nm_c (Ne.symm (x_nn fP y_pk)) nm_n)
  have z_cd := kp.isn y_cd (nm_c (Ne.symm (x_nn fP y_cd)) nm_n)
  have fP := kp2.get fP (nm_c (by first | assumption | exact Ne.symm (by assumption) | exact x_ne fP f_S (by simp)) nm_n)
  have kp := kp.call kp2 (kc_c (Or.inr z_S) kc_n)
  have f_S := fS'
  refine x_putF (fs' := [_, _, _]) C k_Pa g_Pa_12 d_Pa_init_12 fP (by rfl) (by rfl) (by rfl) (Nat.le_of_ble_eq_true rfl) (by rfl) (fun h3 u3 => ?_)
  have f_S := xUp_ne u3 f_S (by first | assumption | exact Ne.symm (by assumption) | exact x_ne f_S fP (by simp))
  have f_nb := xUp_ne u3 f_nb (by first | assumption | exact Ne.symm (by assumption) | exact x_ne f_nb fP (by simp))
  have f_pk := xUp_ne u3 f_pk (by first | assumption | exact Ne.symm (by assumption) | exact x_ne f_pk fP (by simp))
  have f_cd := xUp_ne u3 f_cd (by first | assumption | exact Ne.symm (by assumption) | exact x_ne f_cd fP (by simp))
  have fP := xUp_at u3
  have kp := kp.up u3 (by simp)
  refine x_aload_n C d_Pa_init_15 rfl rfl ?_
  refine x_aload_n C d_Pa_init_16 rfl rfl ?_
  refine x_putF (fs' := [_, _, _]) C k_Pa g_Pa_18 d_Pa_init_17 fP (by rfl) (by rfl) (by rfl) (Nat.le_of_ble_eq_true rfl) (by rfl) (fun h4 u4 => ?_)
  have f_S := xUp_ne u4 f_S (by first | assumption | exact Ne.symm (by assumption) | exact x_ne f_S fP (by simp))
  have f_nb := xUp_ne u4 f_nb (by first | assumption | exact Ne.symm (by assumption) | exact x_ne f_nb fP (by simp))
  have f_pk := xUp_ne u4 f_pk (by first | assumption | exact Ne.symm (by assumption) | exact x_ne f_pk fP (by simp))
  have f_cd := xUp_ne u4 f_cd (by first | assumption | exact Ne.symm (by assumption) | exact x_ne f_cd fP (by simp))
  have fP := xUp_at u4
  have kp := kp.up u4 (by simp)
  refine x_vret C d_Pa_init_20 ?_
  exact ⟨rfl, S, nb, pk, cd, fP, f_S, f_nb, f_pk, f_cd, z_S, z_nb, z_pk, z_cd, kp⟩
set_option maxRecDepth 20000 in
set_option maxHeartbeats 1000000 in
theorem m_Pa_parse {V : xV} {h : xH} {P T kr nr S : Nat} {ks ns : Nat → Int32} {n : Nat} (fP : h P = some (oPa T S (nI 0))) (pT : pTo V h T kr nr ks ns n) {nb pk cd : Nat} {po co : Nat → Option Nat} {g : Nat → Int32} (fS : h S = some (oSt 0 (-1) (-1) (-1) 0 0 nb 0 pk 0 cd)) (fnb : h nb = some (xI V 6 g)) (fpk : h pk = some (xR V 2 12 po)) (fcd : h cd = some (xR V 3 8 co)) : xM V y_Pa_parse b_Pa_parse 2 (some (.object "CursorBase$Statement")) 5 [.ref P] h 32 72 (fun v h' => (tParse ks ns n = none ∧ v = some .null ∧ xKeep [P, S, nb, pk, cd] h h') ∨ (∃ dd, tParse ks ns n = some dd ∧ v = some (.ref S) ∧ xKeep [P, S, nb, pk, cd] h h' ∧ ∃ g' po' co' pick cf, h' S = some (oSt dd.1.1 dd.1.2.1 dd.1.2.2.1 dd.1.2.2.2.1 (bI dd.1.2.2.2.2) (nI dd.2.1) nb (nI dd.2.2.1) pk (nI dd.2.2.2.2.1) cd) ∧ h' nb = some (xI V 6 g') ∧ (∀ j, j < dd.2.1 → j < 6 → g' j = ns (2 + j)) ∧ h' pk = some (xR V 2 12 po') ∧ pOps h' po' dd.2.2.1 pick ∧ (∀ j, j < dd.2.2.1 → pick j = ns (dd.2.2.2.1 + j)) ∧ dd.2.2.1 ≤ 8 ∧ h' cd = some (xR V 3 8 co') ∧ pCds h' co' dd.2.2.2.2.1 cf ∧ (∀ j, j < dd.2.2.2.2.1 → cf j = cdAt ks ns (dd.2.2.2.2.2 + 4 * j + 1)) ∧ dd.2.2.2.2.1 ≤ 8)) := by
  refine xM_of false (by decide) (fun h => nomatch h) (Nat.le_of_ble_eq_true rfl) (fun K C => ?_)
  show K 32 72 h 0 [(0, .ref P)] []
  have kp : xKeep [P, S, nb, pk, cd] h h := xKeep.rf
  obtain ⟨fT, fkr, fnr, hkn, hn60⟩ := pT
  refine x_aload_n C d_Pa_parse_0 rfl rfl ?_
  refine x_get C k_Pa f_Pa_12 d_Pa_parse_1 fP (by rfl) ?_
  refine x_aload_n C d_Pa_parse_4 rfl rfl ?_
  refine x_iconst (v := 0) C d_Pa_parse_5 (by decide) ?_
  refine x_iconst (v := 3) C d_Pa_parse_6 (by decide) ?_
  refine x_callV C l_Pa_22 v_Pa_takeWordBetween d_Pa_parse_7 (m_Pa_takeWordBetween (p := 0) fP ⟨fT, fkr, fnr, hkn, hn60⟩ (by omega) 0 3) fP rfl (by rfl) (by rfl) (by decide) (by decide) (Nat.le_of_ble_eq_true rfl) ?_
  rintro v1 h1 ⟨rfl, fP', kp1⟩
  have fT := kp1.get fT (nm_c (by first | assumption | exact Ne.symm (by assumption) | exact x_ne fT fP (by simp)) nm_n)
  have fkr := kp1.get fkr (nm_c (by first | assumption | exact Ne.symm (by assumption) | exact x_ne fkr fP (by simp)) nm_n)
  have fnr := kp1.get fnr (nm_c (by first | assumption | exact Ne.symm (by assumption) | exact x_ne fnr fP (by simp)) nm_n)
  have fS := kp1.get fS (nm_c (by first | assumption | exact Ne.symm (by assumption) | exact x_ne fS fP (by simp)) nm_n)
  have fnb := kp1.get fnb (nm_c (by first | assumption | exact Ne.symm (by assumption) | exact x_ne fnb fP (by simp)) nm_n)
  have fpk := kp1.get fpk (nm_c (by first | assumption | exact Ne.symm (by assumption) | exact x_ne fpk fP (by simp)) nm_n)
  have fcd := kp1.get fcd (nm_c (by first | assumption | exact Ne.symm (by assumption) | exact x_ne fcd fP (by simp)) nm_n)
  have kp := kp.call kp1 (kc_c (Or.inl (by simp)) kc_n)
  have fP := fP'
  refine x_put (fs' := [_, _, _, _, _, _, _, _, _, _, _]) C k_St f_Pa_26 d_Pa_parse_10 fS (by rfl) (by rfl) (by rfl) (Nat.le_of_ble_eq_true rfl) (by rfl) (fun h2 u2 => ?_)
  have fP := xUp_ne u2 fP (by first | assumption | exact Ne.symm (by assumption) | exact x_ne fP fS (by simp))
  have fT := xUp_ne u2 fT (by first | assumption | exact Ne.symm (by assumption) | exact x_ne fT fS (by simp))
  have fkr := xUp_ne u2 fkr (by first | assumption | exact Ne.symm (by assumption) | exact x_ne fkr fS (by simp))
  have fnr := xUp_ne u2 fnr (by first | assumption | exact Ne.symm (by assumption) | exact x_ne fnr fS (by simp))
  have fnb := xUp_ne u2 fnb (by first | assumption | exact Ne.symm (by assumption) | exact x_ne fnb fS (by simp))
  have fpk := xUp_ne u2 fpk (by first | assumption | exact Ne.symm (by assumption) | exact x_ne fpk fS (by simp))
  have fcd := xUp_ne u2 fcd (by first | assumption | exact Ne.symm (by assumption) | exact x_ne fcd fS (by simp))
  have fS := xUp_at u2
  have kp := kp.up u2 (by simp)
  refine x_iconst (v := 0) C d_Pa_parse_13 (by decide) ?_
  refine x_istore_n (lv' := [(1, _), (0, _)]) C d_Pa_parse_14 rfl (by decide) (by rfl) ?_
  refine x_aload_n C d_Pa_parse_15 rfl rfl ?_
  refine x_get C k_Pa f_Pa_12 d_Pa_parse_16 fP (by rfl) ?_
  refine x_get C k_St f_Pa_26 d_Pa_parse_19 fS (by rfl) ?_
  rcases sw4 (if tW ks ns n 0 0 3 = true then ns 0 else -1) with e0 | e1 | e2 | e3 | q22
  · skip
    obtain ⟨hW, hv⟩ := tp_vb e0 (by decide)
    rw [e0]
    rw [e0] at fS
    have hP := tp_0 hW hv
    rw [if_pos hW] at fP
    refine x_tabIn (tgt := 52) C d_Pa_parse_22 (by decide) (by decide) (by rfl) rfl ?_
    refine x_aload_n C d_Pa_parse_52 rfl rfl ?_
    refine x_callV C l_Pa_30 v_Pa_takeFirstTable d_Pa_parse_53 (m_Pa_takeFirstTable (p := 1) fP ⟨fT, fkr, fnr, hkn, hn60⟩ (by omega) fS) fP rfl (by rfl) (by rfl) (by decide) (by decide) (Nat.le_of_ble_eq_true rfl) ?_
    rintro v3 h3 ⟨rfl, fP', fS', kp3⟩
    have fT := kp3.get fT (nm_c (by first | assumption | exact Ne.symm (by assumption) | exact x_ne fT fP (by simp)) (nm_c (by first | assumption | exact Ne.symm (by assumption) | exact x_ne fT fS (by simp)) nm_n))
    have fkr := kp3.get fkr (nm_c (by first | assumption | exact Ne.symm (by assumption) | exact x_ne fkr fP (by simp)) (nm_c (by first | assumption | exact Ne.symm (by assumption) | exact x_ne fkr fS (by simp)) nm_n))
    have fnr := kp3.get fnr (nm_c (by first | assumption | exact Ne.symm (by assumption) | exact x_ne fnr fP (by simp)) (nm_c (by first | assumption | exact Ne.symm (by assumption) | exact x_ne fnr fS (by simp)) nm_n))
    have fnb := kp3.get fnb (nm_c (by first | assumption | exact Ne.symm (by assumption) | exact x_ne fnb fP (by simp)) (nm_c (by first | assumption | exact Ne.symm (by assumption) | exact x_ne fnb fS (by simp)) nm_n))
    have fpk := kp3.get fpk (nm_c (by first | assumption | exact Ne.symm (by assumption) | exact x_ne fpk fP (by simp)) (nm_c (by first | assumption | exact Ne.symm (by assumption) | exact x_ne fpk fS (by simp)) nm_n))
    have fcd := kp3.get fcd (nm_c (by first | assumption | exact Ne.symm (by assumption) | exact x_ne fcd fP (by simp)) (nm_c (by first | assumption | exact Ne.symm (by assumption) | exact x_ne fcd fS (by simp)) nm_n))
    have kp := kp.call kp3 (kc_c (Or.inl (by simp)) (kc_c (Or.inl (by simp)) kc_n))
    have fP := fP'
    have fS := fS'
    rw [show (!decide ((if tK ks n 1 1 = true then ns 1 else -1) = -1)) = tFT ks ns n 1 from rfl]
    refine x_if_eq (tgt := 70) C d_Pa_parse_56 rfl (fun q56 => ?_) (fun q56 => ?_)
    · skip
      replace q56 := bI_f q56
      rw [if_neg (by rw [q56]; decide)] at hP
      refine x_iconst (v := 0) C d_Pa_parse_70 (by decide) ?_
      refine x_istore_n (lv' := [(1, _), (0, _)]) C d_Pa_parse_71 rfl (by decide) (by rfl) ?_
      refine x_goto (tgt := 158) C d_Pa_parse_72 rfl ?_
      refine x_iload_n C d_Pa_parse_158 rfl rfl ?_
      refine x_if_eq (tgt := 183) C d_Pa_parse_159 rfl (fun q159 => ?_) (fun q159 => ?_)
      · skip
        refine x_null C d_Pa_parse_183 ?_
        refine x_aretN C d_Pa_parse_184 ?_
        exact Or.inl ⟨hP, rfl, kp⟩
      · skip
        exact absurd q159 (by decide)
    · skip
      replace q56 := bI_t q56
      rw [if_pos q56] at hP
      have hft := tFT_iff.mp q56
      rw [if_pos hft.1] at fP fS
      have hl1 := (tK_iff.mp hft.1).1
      refine x_aload_n C d_Pa_parse_59 rfl rfl ?_
      refine x_callV C l_Pa_34 v_Pa_takeNumber d_Pa_parse_60 (m_Pa_takeNumber (p := 2) (nc := 0) fP ⟨fT, fkr, fnr, hkn, hn60⟩ (by omega) fS fnb (by decide)) fP rfl (by rfl) (by rfl) (by decide) (by decide) (Nat.le_of_ble_eq_true rfl) ?_
      rintro v4 h4 ⟨rfl, fP', fS', fnb', kp4⟩
      have fT := kp4.get fT (nm_c (by first | assumption | exact Ne.symm (by assumption) | exact x_ne fT fP (by simp)) (nm_c (by first | assumption | exact Ne.symm (by assumption) | exact x_ne fT fS (by simp)) (nm_c (by first | assumption | exact Ne.symm (by assumption) | exact x_ne fT fnb (by simp)) nm_n)))
      have fkr := kp4.get fkr (nm_c (by first | assumption | exact Ne.symm (by assumption) | exact x_ne fkr fP (by simp)) (nm_c (by first | assumption | exact Ne.symm (by assumption) | exact x_ne fkr fS (by simp)) (nm_c (by first | assumption | exact Ne.symm (by assumption) | exact x_ne fkr fnb (by simp)) nm_n)))
      have fnr := kp4.get fnr (nm_c (by first | assumption | exact Ne.symm (by assumption) | exact x_ne fnr fP (by simp)) (nm_c (by first | assumption | exact Ne.symm (by assumption) | exact x_ne fnr fS (by simp)) (nm_c (by first | assumption | exact Ne.symm (by assumption) | exact x_ne fnr fnb (by simp)) nm_n)))
      have fpk := kp4.get fpk (nm_c (by first | assumption | exact Ne.symm (by assumption) | exact x_ne fpk fP (by simp)) (nm_c (by first | assumption | exact Ne.symm (by assumption) | exact x_ne fpk fS (by simp)) (nm_c (by first | assumption | exact Ne.symm (by assumption) | exact x_ne fpk fnb (by simp)) nm_n)))
      have fcd := kp4.get fcd (nm_c (by first | assumption | exact Ne.symm (by assumption) | exact x_ne fcd fP (by simp)) (nm_c (by first | assumption | exact Ne.symm (by assumption) | exact x_ne fcd fS (by simp)) (nm_c (by first | assumption | exact Ne.symm (by assumption) | exact x_ne fcd fnb (by simp)) nm_n)))
      have kp := kp.call kp4 (kc_c (Or.inl (by simp)) (kc_c (Or.inl (by simp)) (kc_c (Or.inl (by simp)) kc_n)))
      have fP := fP'
      have fS := fS'
      have fnb := fnb'
      refine x_if_eq (tgt := 70) C d_Pa_parse_63 rfl (fun q63 => ?_) (fun q63 => ?_)
      · skip
        replace q63 := bI_f q63
        rw [if_neg (by rw [q63]; decide)] at hP
        refine x_iconst (v := 0) C d_Pa_parse_70 (by decide) ?_
        refine x_istore_n (lv' := [(1, _), (0, _)]) C d_Pa_parse_71 rfl (by decide) (by rfl) ?_
        refine x_goto (tgt := 158) C d_Pa_parse_72 rfl ?_
        refine x_iload_n C d_Pa_parse_158 rfl rfl ?_
        refine x_if_eq (tgt := 183) C d_Pa_parse_159 rfl (fun q159 => ?_) (fun q159 => ?_)
        · skip
          refine x_null C d_Pa_parse_183 ?_
          refine x_aretN C d_Pa_parse_184 ?_
          exact Or.inl ⟨hP, rfl, kp⟩
        · skip
          exact absurd q159 (by decide)
      · skip
        replace q63 := bI_t q63
        rw [if_pos q63] at hP fP fS fnb
        refine x_iconst (v := 1) C d_Pa_parse_66 (by decide) ?_
        refine x_goto (tgt := 71) C d_Pa_parse_67 rfl ?_
        refine x_istore_n (lv' := [(1, _), (0, _)]) C d_Pa_parse_71 rfl (by decide) (by rfl) ?_
        refine x_goto (tgt := 158) C d_Pa_parse_72 rfl ?_
        refine x_iload_n C d_Pa_parse_158 rfl rfl ?_
        refine x_if_eq (tgt := 183) C d_Pa_parse_159 rfl (fun q159 => ?_) (fun q159 => ?_)
        · skip
          exact absurd q159 (by decide)
        · skip
          refine x_aload_n C d_Pa_parse_162 rfl rfl ?_
          refine x_get C k_Pa f_Pa_52 d_Pa_parse_163 fP (by rfl) ?_
          refine x_aload_n C d_Pa_parse_166 rfl rfl ?_
          refine x_get C k_Pa f_Pa_18 d_Pa_parse_167 fP (by rfl) ?_
          refine x_get C k_To f_Pa_55 d_Pa_parse_170 fT (by rfl) ?_
          refine x_icmp_ne (tgt := 183) C d_Pa_parse_173 rfl (fun q173 => ?_) (fun q173 => ?_)
          · skip
            first | rw [if_neg (c := 3 = n) (fun z => q173 (congrArg nI z))] at hP | rw [if_neg (c := 2 + tRun ks n 3 60 2 = n) (fun z => q173 (congrArg nI z))] at hP | rw [if_neg (c := 2 + 4 * k = n) (fun z => q173 (congrArg nI z))] at hP | rw [if_neg (c := tEnd ks ns n (tB ks n q + 4 * k) = n) (fun z => q173 (congrArg nI z))] at hP
            refine x_null C d_Pa_parse_183 ?_
            refine x_aretN C d_Pa_parse_184 ?_
            exact Or.inl ⟨hP, rfl, kp⟩
          · skip
            have hend := (nI_eq (by first | omega | (have := hend60; unfold tEnd at this; omega)) (by omega)).mp q173
            first | rw [if_pos (show 3 = n from hend)] at hP | rw [if_pos (show 2 + tRun ks n 3 60 2 = n from hend)] at hP | rw [if_pos (show 2 + 4 * k = n from hend)] at hP | rw [if_pos (show tEnd ks ns n (tB ks n q + 4 * k) = n from hend)] at hP
            refine x_aload_n C d_Pa_parse_176 rfl rfl ?_
            refine x_get C k_Pa f_Pa_12 d_Pa_parse_177 fP (by rfl) ?_
            refine x_goto (tgt := 184) C d_Pa_parse_180 rfl ?_
            refine x_aret C d_Pa_parse_184 ?_
            refine Or.inr ⟨_, hP, rfl, kp, _, _, _, (fun _ => 0), (fun _ => cdAt ks ns 0), fS, fnb, (fun j h1 h2 => ?_), fpk, lt_0, lt_0, Nat.zero_le _, fcd, lt_0, lt_0, Nat.zero_le _⟩
            have h1 : j < 1 := h1
            have hj : j = 0 := by omega
            subst hj
            rw [if_pos (by decide)]
            exact pk_us
  · skip
    obtain ⟨hW, hv⟩ := tp_vb e1 (by decide)
    rw [e1]
    rw [e1] at fS
    have hP := tp_1 hW hv
    rw [if_pos hW] at fP
    refine x_tabIn (tgt := 75) C d_Pa_parse_22 (by decide) (by decide) (by rfl) rfl ?_
    refine x_aload_n C d_Pa_parse_75 rfl rfl ?_
    refine x_callV C l_Pa_30 v_Pa_takeFirstTable d_Pa_parse_76 (m_Pa_takeFirstTable (p := 1) fP ⟨fT, fkr, fnr, hkn, hn60⟩ (by omega) fS) fP rfl (by rfl) (by rfl) (by decide) (by decide) (Nat.le_of_ble_eq_true rfl) ?_
    rintro v5 h5 ⟨rfl, fP', fS', kp5⟩
    have fT := kp5.get fT (nm_c (by first | assumption | exact Ne.symm (by assumption) | exact x_ne fT fP (by simp)) (nm_c (by first | assumption | exact Ne.symm (by assumption) | exact x_ne fT fS (by simp)) nm_n))
    have fkr := kp5.get fkr (nm_c (by first | assumption | exact Ne.symm (by assumption) | exact x_ne fkr fP (by simp)) (nm_c (by first | assumption | exact Ne.symm (by assumption) | exact x_ne fkr fS (by simp)) nm_n))
    have fnr := kp5.get fnr (nm_c (by first | assumption | exact Ne.symm (by assumption) | exact x_ne fnr fP (by simp)) (nm_c (by first | assumption | exact Ne.symm (by assumption) | exact x_ne fnr fS (by simp)) nm_n))
    have fnb := kp5.get fnb (nm_c (by first | assumption | exact Ne.symm (by assumption) | exact x_ne fnb fP (by simp)) (nm_c (by first | assumption | exact Ne.symm (by assumption) | exact x_ne fnb fS (by simp)) nm_n))
    have fpk := kp5.get fpk (nm_c (by first | assumption | exact Ne.symm (by assumption) | exact x_ne fpk fP (by simp)) (nm_c (by first | assumption | exact Ne.symm (by assumption) | exact x_ne fpk fS (by simp)) nm_n))
    have fcd := kp5.get fcd (nm_c (by first | assumption | exact Ne.symm (by assumption) | exact x_ne fcd fP (by simp)) (nm_c (by first | assumption | exact Ne.symm (by assumption) | exact x_ne fcd fS (by simp)) nm_n))
    have kp := kp.call kp5 (kc_c (Or.inl (by simp)) (kc_c (Or.inl (by simp)) kc_n))
    have fP := fP'
    have fS := fS'
    rw [show (!decide ((if tK ks n 1 1 = true then ns 1 else -1) = -1)) = tFT ks ns n 1 from rfl]
    refine x_if_eq (tgt := 93) C d_Pa_parse_79 rfl (fun q79 => ?_) (fun q79 => ?_)
    · skip
      replace q79 := bI_f q79
      rw [if_neg (by rw [q79]; decide)] at hP
      refine x_iconst (v := 0) C d_Pa_parse_93 (by decide) ?_
      refine x_istore_n (lv' := [(1, _), (0, _)]) C d_Pa_parse_94 rfl (by decide) (by rfl) ?_
      refine x_goto (tgt := 158) C d_Pa_parse_95 rfl ?_
      refine x_iload_n C d_Pa_parse_158 rfl rfl ?_
      refine x_if_eq (tgt := 183) C d_Pa_parse_159 rfl (fun q159 => ?_) (fun q159 => ?_)
      · skip
        refine x_null C d_Pa_parse_183 ?_
        refine x_aretN C d_Pa_parse_184 ?_
        exact Or.inl ⟨hP, rfl, kp⟩
      · skip
        exact absurd q159 (by decide)
    · skip
      replace q79 := bI_t q79
      rw [if_pos q79] at hP
      have hft := tFT_iff.mp q79
      rw [if_pos hft.1] at fP fS
      have hl1 := (tK_iff.mp hft.1).1
      refine x_aload_n C d_Pa_parse_82 rfl rfl ?_
      refine x_callV C l_Pa_37 v_Pa_takeNumbers d_Pa_parse_83 (m_Pa_takeNumbers (p := 2) (r := tRun ks n 3 60 2) fP ⟨fT, fkr, fnr, hkn, hn60⟩ (by omega) fS fnb rfl) fP rfl (by rfl) (by rfl) (by decide) (by decide) (Nat.le_of_ble_eq_true rfl) ?_
      rintro v6 h6 ⟨g', rfl, fP', fS', fnb', hg', hrn, kp6⟩
      have fT := kp6.get fT (nm_c (by first | assumption | exact Ne.symm (by assumption) | exact x_ne fT fP (by simp)) (nm_c (by first | assumption | exact Ne.symm (by assumption) | exact x_ne fT fS (by simp)) (nm_c (by first | assumption | exact Ne.symm (by assumption) | exact x_ne fT fnb (by simp)) nm_n)))
      have fkr := kp6.get fkr (nm_c (by first | assumption | exact Ne.symm (by assumption) | exact x_ne fkr fP (by simp)) (nm_c (by first | assumption | exact Ne.symm (by assumption) | exact x_ne fkr fS (by simp)) (nm_c (by first | assumption | exact Ne.symm (by assumption) | exact x_ne fkr fnb (by simp)) nm_n)))
      have fnr := kp6.get fnr (nm_c (by first | assumption | exact Ne.symm (by assumption) | exact x_ne fnr fP (by simp)) (nm_c (by first | assumption | exact Ne.symm (by assumption) | exact x_ne fnr fS (by simp)) (nm_c (by first | assumption | exact Ne.symm (by assumption) | exact x_ne fnr fnb (by simp)) nm_n)))
      have fpk := kp6.get fpk (nm_c (by first | assumption | exact Ne.symm (by assumption) | exact x_ne fpk fP (by simp)) (nm_c (by first | assumption | exact Ne.symm (by assumption) | exact x_ne fpk fS (by simp)) (nm_c (by first | assumption | exact Ne.symm (by assumption) | exact x_ne fpk fnb (by simp)) nm_n)))
      have fcd := kp6.get fcd (nm_c (by first | assumption | exact Ne.symm (by assumption) | exact x_ne fcd fP (by simp)) (nm_c (by first | assumption | exact Ne.symm (by assumption) | exact x_ne fcd fS (by simp)) (nm_c (by first | assumption | exact Ne.symm (by assumption) | exact x_ne fcd fnb (by simp)) nm_n)))
      have kp := kp.call kp6 (kc_c (Or.inl (by simp)) (kc_c (Or.inl (by simp)) (kc_c (Or.inl (by simp)) kc_n)))
      have fP := fP'
      have fS := fS'
      have fnb := fnb'
      refine x_if_eq (tgt := 93) C d_Pa_parse_86 rfl (fun q86 => ?_) (fun q86 => ?_)
      · skip
        replace q86 := bI_f q86
        rw [if_neg (by simpa using q86)] at hP
        refine x_iconst (v := 0) C d_Pa_parse_93 (by decide) ?_
        refine x_istore_n (lv' := [(1, _), (0, _)]) C d_Pa_parse_94 rfl (by decide) (by rfl) ?_
        refine x_goto (tgt := 158) C d_Pa_parse_95 rfl ?_
        refine x_iload_n C d_Pa_parse_158 rfl rfl ?_
        refine x_if_eq (tgt := 183) C d_Pa_parse_159 rfl (fun q159 => ?_) (fun q159 => ?_)
        · skip
          refine x_null C d_Pa_parse_183 ?_
          refine x_aretN C d_Pa_parse_184 ?_
          exact Or.inl ⟨hP, rfl, kp⟩
        · skip
          exact absurd q159 (by decide)
      · skip
        replace q86 := bI_t q86
        have hr0 : 0 < tRun ks n 3 60 2 := by simpa using q86
        rw [if_pos hr0] at hP
        refine x_iconst (v := 1) C d_Pa_parse_89 (by decide) ?_
        refine x_goto (tgt := 94) C d_Pa_parse_90 rfl ?_
        refine x_istore_n (lv' := [(1, _), (0, _)]) C d_Pa_parse_94 rfl (by decide) (by rfl) ?_
        refine x_goto (tgt := 158) C d_Pa_parse_95 rfl ?_
        refine x_iload_n C d_Pa_parse_158 rfl rfl ?_
        refine x_if_eq (tgt := 183) C d_Pa_parse_159 rfl (fun q159 => ?_) (fun q159 => ?_)
        · skip
          exact absurd q159 (by decide)
        · skip
          refine x_aload_n C d_Pa_parse_162 rfl rfl ?_
          refine x_get C k_Pa f_Pa_52 d_Pa_parse_163 fP (by rfl) ?_
          refine x_aload_n C d_Pa_parse_166 rfl rfl ?_
          refine x_get C k_Pa f_Pa_18 d_Pa_parse_167 fP (by rfl) ?_
          refine x_get C k_To f_Pa_55 d_Pa_parse_170 fT (by rfl) ?_
          refine x_icmp_ne (tgt := 183) C d_Pa_parse_173 rfl (fun q173 => ?_) (fun q173 => ?_)
          · skip
            first | rw [if_neg (c := 3 = n) (fun z => q173 (congrArg nI z))] at hP | rw [if_neg (c := 2 + tRun ks n 3 60 2 = n) (fun z => q173 (congrArg nI z))] at hP | rw [if_neg (c := 2 + 4 * k = n) (fun z => q173 (congrArg nI z))] at hP | rw [if_neg (c := tEnd ks ns n (tB ks n q + 4 * k) = n) (fun z => q173 (congrArg nI z))] at hP
            refine x_null C d_Pa_parse_183 ?_
            refine x_aretN C d_Pa_parse_184 ?_
            exact Or.inl ⟨hP, rfl, kp⟩
          · skip
            have hend := (nI_eq (by first | omega | (have := hend60; unfold tEnd at this; omega)) (by omega)).mp q173
            first | rw [if_pos (show 3 = n from hend)] at hP | rw [if_pos (show 2 + tRun ks n 3 60 2 = n from hend)] at hP | rw [if_pos (show 2 + 4 * k = n from hend)] at hP | rw [if_pos (show tEnd ks ns n (tB ks n q + 4 * k) = n from hend)] at hP
            refine x_aload_n C d_Pa_parse_176 rfl rfl ?_
            refine x_get C k_Pa f_Pa_12 d_Pa_parse_177 fP (by rfl) ?_
            refine x_goto (tgt := 184) C d_Pa_parse_180 rfl ?_
            refine x_aret C d_Pa_parse_184 ?_
            exact Or.inr ⟨_, hP, rfl, kp, _, _, _, (fun _ => 0), (fun _ => cdAt ks ns 0), fS, fnb, hg', fpk, lt_0, lt_0, Nat.zero_le _, fcd, lt_0, lt_0, Nat.zero_le _⟩
  · skip
    obtain ⟨hW, hv⟩ := tp_vb e2 (by decide)
    rw [e2]
    rw [e2] at fS
    have hP := tp_2 hW hv
    rw [if_pos hW] at fP
    refine x_tabIn (tgt := 98) C d_Pa_parse_22 (by decide) (by decide) (by rfl) rfl ?_
    refine x_aload_n C d_Pa_parse_98 rfl rfl ?_
    refine x_callV C l_Pa_30 v_Pa_takeFirstTable d_Pa_parse_99 (m_Pa_takeFirstTable (p := 1) fP ⟨fT, fkr, fnr, hkn, hn60⟩ (by omega) fS) fP rfl (by rfl) (by rfl) (by decide) (by decide) (Nat.le_of_ble_eq_true rfl) ?_
    rintro v7 h7 ⟨rfl, fP', fS', kp7⟩
    have fT := kp7.get fT (nm_c (by first | assumption | exact Ne.symm (by assumption) | exact x_ne fT fP (by simp)) (nm_c (by first | assumption | exact Ne.symm (by assumption) | exact x_ne fT fS (by simp)) nm_n))
    have fkr := kp7.get fkr (nm_c (by first | assumption | exact Ne.symm (by assumption) | exact x_ne fkr fP (by simp)) (nm_c (by first | assumption | exact Ne.symm (by assumption) | exact x_ne fkr fS (by simp)) nm_n))
    have fnr := kp7.get fnr (nm_c (by first | assumption | exact Ne.symm (by assumption) | exact x_ne fnr fP (by simp)) (nm_c (by first | assumption | exact Ne.symm (by assumption) | exact x_ne fnr fS (by simp)) nm_n))
    have fnb := kp7.get fnb (nm_c (by first | assumption | exact Ne.symm (by assumption) | exact x_ne fnb fP (by simp)) (nm_c (by first | assumption | exact Ne.symm (by assumption) | exact x_ne fnb fS (by simp)) nm_n))
    have fpk := kp7.get fpk (nm_c (by first | assumption | exact Ne.symm (by assumption) | exact x_ne fpk fP (by simp)) (nm_c (by first | assumption | exact Ne.symm (by assumption) | exact x_ne fpk fS (by simp)) nm_n))
    have fcd := kp7.get fcd (nm_c (by first | assumption | exact Ne.symm (by assumption) | exact x_ne fcd fP (by simp)) (nm_c (by first | assumption | exact Ne.symm (by assumption) | exact x_ne fcd fS (by simp)) nm_n))
    have kp := kp.call kp7 (kc_c (Or.inl (by simp)) (kc_c (Or.inl (by simp)) kc_n))
    have fP := fP'
    have fS := fS'
    rw [show (!decide ((if tK ks n 1 1 = true then ns 1 else -1) = -1)) = tFT ks ns n 1 from rfl]
    refine x_if_eq (tgt := 116) C d_Pa_parse_102 rfl (fun q102 => ?_) (fun q102 => ?_)
    · skip
      replace q102 := bI_f q102
      rw [if_neg (by rw [q102]; decide)] at hP
      refine x_iconst (v := 0) C d_Pa_parse_116 (by decide) ?_
      refine x_istore_n (lv' := [(1, _), (0, _)]) C d_Pa_parse_117 rfl (by decide) (by rfl) ?_
      refine x_goto (tgt := 158) C d_Pa_parse_118 rfl ?_
      refine x_iload_n C d_Pa_parse_158 rfl rfl ?_
      refine x_if_eq (tgt := 183) C d_Pa_parse_159 rfl (fun q159 => ?_) (fun q159 => ?_)
      · skip
        refine x_null C d_Pa_parse_183 ?_
        refine x_aretN C d_Pa_parse_184 ?_
        exact Or.inl ⟨hP, rfl, kp⟩
      · skip
        exact absurd q159 (by decide)
    · skip
      replace q102 := bI_t q102
      rw [if_pos q102] at hP
      have hft := tFT_iff.mp q102
      rw [if_pos hft.1] at fP fS
      have hl1 := (tK_iff.mp hft.1).1
      refine x_aload_n C d_Pa_parse_105 rfl rfl ?_
      refine x_callV C l_Pa_40 v_Pa_takeConditions d_Pa_parse_106 (m_Pa_takeConditions (p := 2) (tc := tConds ks ns n 8 8 2) fP ⟨fT, fkr, fnr, hkn, hn60⟩ (by omega) fS fcd rfl) fP rfl (by rfl) (by rfl) (by decide) (by decide) (Nat.le_of_ble_eq_true rfl) ?_
      rintro v8 h8 (⟨k, co2, hT, rfl, fP', fS', fcd', pC, hk8, hk60, kp8⟩ | ⟨hT, rfl, kp8⟩)
      · skip
        have fT := kp8.get fT (nm_c (by first | assumption | exact Ne.symm (by assumption) | exact x_ne fT fP (by simp)) (nm_c (by first | assumption | exact Ne.symm (by assumption) | exact x_ne fT fS (by simp)) (nm_c (by first | assumption | exact Ne.symm (by assumption) | exact x_ne fT fcd (by simp)) nm_n)))
        have fkr := kp8.get fkr (nm_c (by first | assumption | exact Ne.symm (by assumption) | exact x_ne fkr fP (by simp)) (nm_c (by first | assumption | exact Ne.symm (by assumption) | exact x_ne fkr fS (by simp)) (nm_c (by first | assumption | exact Ne.symm (by assumption) | exact x_ne fkr fcd (by simp)) nm_n)))
        have fnr := kp8.get fnr (nm_c (by first | assumption | exact Ne.symm (by assumption) | exact x_ne fnr fP (by simp)) (nm_c (by first | assumption | exact Ne.symm (by assumption) | exact x_ne fnr fS (by simp)) (nm_c (by first | assumption | exact Ne.symm (by assumption) | exact x_ne fnr fcd (by simp)) nm_n)))
        have fnb := kp8.get fnb (nm_c (by first | assumption | exact Ne.symm (by assumption) | exact x_ne fnb fP (by simp)) (nm_c (by first | assumption | exact Ne.symm (by assumption) | exact x_ne fnb fS (by simp)) (nm_c (by first | assumption | exact Ne.symm (by assumption) | exact x_ne fnb fcd (by simp)) nm_n)))
        have fpk := kp8.get fpk (nm_c (by first | assumption | exact Ne.symm (by assumption) | exact x_ne fpk fP (by simp)) (nm_c (by first | assumption | exact Ne.symm (by assumption) | exact x_ne fpk fS (by simp)) (nm_c (by first | assumption | exact Ne.symm (by assumption) | exact x_ne fpk fcd (by simp)) nm_n)))
        have kp := kp.call kp8 (kc_c (Or.inl (by simp)) (kc_c (Or.inl (by simp)) (kc_c (Or.inl (by simp)) kc_n)))
        have fP := fP'
        have fS := fS'
        have fcd := fcd'
        rw [hT] at hP
        replace hP : tParse ks ns n = if 2 + 4 * k = n then some ((2, -1, ns 1, -1, false), (0, 0, 0, k, 2)) else none := hP
        refine x_if_eq (tgt := 116) C d_Pa_parse_109 rfl (fun q109 => ?_) (fun q109 => ?_)
        · skip
          exact absurd q109 (by decide)
        · skip
          refine x_iconst (v := 1) C d_Pa_parse_112 (by decide) ?_
          refine x_goto (tgt := 117) C d_Pa_parse_113 rfl ?_
          refine x_istore_n (lv' := [(1, _), (0, _)]) C d_Pa_parse_117 rfl (by decide) (by rfl) ?_
          refine x_goto (tgt := 158) C d_Pa_parse_118 rfl ?_
          refine x_iload_n C d_Pa_parse_158 rfl rfl ?_
          refine x_if_eq (tgt := 183) C d_Pa_parse_159 rfl (fun q159 => ?_) (fun q159 => ?_)
          · skip
            exact absurd q159 (by decide)
          · skip
            refine x_aload_n C d_Pa_parse_162 rfl rfl ?_
            refine x_get C k_Pa f_Pa_52 d_Pa_parse_163 fP (by rfl) ?_
            refine x_aload_n C d_Pa_parse_166 rfl rfl ?_
            refine x_get C k_Pa f_Pa_18 d_Pa_parse_167 fP (by rfl) ?_
            refine x_get C k_To f_Pa_55 d_Pa_parse_170 fT (by rfl) ?_
            refine x_icmp_ne (tgt := 183) C d_Pa_parse_173 rfl (fun q173 => ?_) (fun q173 => ?_)
            · skip
              first | rw [if_neg (c := 3 = n) (fun z => q173 (congrArg nI z))] at hP | rw [if_neg (c := 2 + tRun ks n 3 60 2 = n) (fun z => q173 (congrArg nI z))] at hP | rw [if_neg (c := 2 + 4 * k = n) (fun z => q173 (congrArg nI z))] at hP | rw [if_neg (c := tEnd ks ns n (tB ks n q + 4 * k) = n) (fun z => q173 (congrArg nI z))] at hP
              refine x_null C d_Pa_parse_183 ?_
              refine x_aretN C d_Pa_parse_184 ?_
              exact Or.inl ⟨hP, rfl, kp⟩
            · skip
              have hend := (nI_eq (by first | omega | (have := hend60; unfold tEnd at this; omega)) (by omega)).mp q173
              first | rw [if_pos (show 3 = n from hend)] at hP | rw [if_pos (show 2 + tRun ks n 3 60 2 = n from hend)] at hP | rw [if_pos (show 2 + 4 * k = n from hend)] at hP | rw [if_pos (show tEnd ks ns n (tB ks n q + 4 * k) = n from hend)] at hP
              refine x_aload_n C d_Pa_parse_176 rfl rfl ?_
              refine x_get C k_Pa f_Pa_12 d_Pa_parse_177 fP (by rfl) ?_
              refine x_goto (tgt := 184) C d_Pa_parse_180 rfl ?_
              refine x_aret C d_Pa_parse_184 ?_
              exact Or.inr ⟨_, hP, rfl, kp, _, _, _, (fun _ => 0), _, fS, fnb, (fun j h1 h2 => absurd (show j < 0 from h1) (by omega)), fpk, lt_0, lt_0, Nat.zero_le _, fcd, pC, (fun _ _ => rfl), hk8⟩
      · skip
        have fT := kp8.get fT (nm_c (by first | assumption | exact Ne.symm (by assumption) | exact x_ne fT fP (by simp)) (nm_c (by first | assumption | exact Ne.symm (by assumption) | exact x_ne fT fS (by simp)) (nm_c (by first | assumption | exact Ne.symm (by assumption) | exact x_ne fT fcd (by simp)) nm_n)))
        have fkr := kp8.get fkr (nm_c (by first | assumption | exact Ne.symm (by assumption) | exact x_ne fkr fP (by simp)) (nm_c (by first | assumption | exact Ne.symm (by assumption) | exact x_ne fkr fS (by simp)) (nm_c (by first | assumption | exact Ne.symm (by assumption) | exact x_ne fkr fcd (by simp)) nm_n)))
        have fnr := kp8.get fnr (nm_c (by first | assumption | exact Ne.symm (by assumption) | exact x_ne fnr fP (by simp)) (nm_c (by first | assumption | exact Ne.symm (by assumption) | exact x_ne fnr fS (by simp)) (nm_c (by first | assumption | exact Ne.symm (by assumption) | exact x_ne fnr fcd (by simp)) nm_n)))
        have fnb := kp8.get fnb (nm_c (by first | assumption | exact Ne.symm (by assumption) | exact x_ne fnb fP (by simp)) (nm_c (by first | assumption | exact Ne.symm (by assumption) | exact x_ne fnb fS (by simp)) (nm_c (by first | assumption | exact Ne.symm (by assumption) | exact x_ne fnb fcd (by simp)) nm_n)))
        have fpk := kp8.get fpk (nm_c (by first | assumption | exact Ne.symm (by assumption) | exact x_ne fpk fP (by simp)) (nm_c (by first | assumption | exact Ne.symm (by assumption) | exact x_ne fpk fS (by simp)) (nm_c (by first | assumption | exact Ne.symm (by assumption) | exact x_ne fpk fcd (by simp)) nm_n)))
        have kp := kp.call kp8 (kc_c (Or.inl (by simp)) (kc_c (Or.inl (by simp)) (kc_c (Or.inl (by simp)) kc_n)))
        rw [hT] at hP
        replace hP : tParse ks ns n = none := hP
        refine x_if_eq (tgt := 116) C d_Pa_parse_109 rfl (fun q109 => ?_) (fun q109 => ?_)
        · skip
          refine x_iconst (v := 0) C d_Pa_parse_116 (by decide) ?_
          refine x_istore_n (lv' := [(1, _), (0, _)]) C d_Pa_parse_117 rfl (by decide) (by rfl) ?_
          refine x_goto (tgt := 158) C d_Pa_parse_118 rfl ?_
          refine x_iload_n C d_Pa_parse_158 rfl rfl ?_
          refine x_if_eq (tgt := 183) C d_Pa_parse_159 rfl (fun q159 => ?_) (fun q159 => ?_)
          · skip
            refine x_null C d_Pa_parse_183 ?_
            refine x_aretN C d_Pa_parse_184 ?_
            exact Or.inl ⟨hP, rfl, kp⟩
          · skip
            exact absurd q159 (by decide)
        · skip
          exact absurd q109 (by decide)
  · skip
    obtain ⟨hW, hv⟩ := tp_vb e3 (by decide)
    rw [e3]
    rw [e3] at fS
    have hP := tp_3 hW hv
    rw [if_pos hW] at fP
    refine x_tabIn (tgt := 121) C d_Pa_parse_22 (by decide) (by decide) (by rfl) rfl ?_
    refine x_aload_n C d_Pa_parse_121 rfl rfl ?_
    refine x_callV C l_Pa_43 v_Pa_takeList d_Pa_parse_122 (m_Pa_takeList (p := 1) fP ⟨fT, fkr, fnr, hkn, hn60⟩ (by omega) fS fpk) fP rfl (by rfl) (by rfl) (by decide) (by decide) (Nat.le_of_ble_eq_true rfl) ?_
    rintro v9 h9 ⟨ok, r, q, ls, rfl, hL, kp9, hok⟩
    have fT := kp9.get fT (nm_c (by first | assumption | exact Ne.symm (by assumption) | exact x_ne fT fP (by simp)) (nm_c (by first | assumption | exact Ne.symm (by assumption) | exact x_ne fT fS (by simp)) (nm_c (by first | assumption | exact Ne.symm (by assumption) | exact x_ne fT fpk (by simp)) nm_n)))
    have fkr := kp9.get fkr (nm_c (by first | assumption | exact Ne.symm (by assumption) | exact x_ne fkr fP (by simp)) (nm_c (by first | assumption | exact Ne.symm (by assumption) | exact x_ne fkr fS (by simp)) (nm_c (by first | assumption | exact Ne.symm (by assumption) | exact x_ne fkr fpk (by simp)) nm_n)))
    have fnr := kp9.get fnr (nm_c (by first | assumption | exact Ne.symm (by assumption) | exact x_ne fnr fP (by simp)) (nm_c (by first | assumption | exact Ne.symm (by assumption) | exact x_ne fnr fS (by simp)) (nm_c (by first | assumption | exact Ne.symm (by assumption) | exact x_ne fnr fpk (by simp)) nm_n)))
    have fnb := kp9.get fnb (nm_c (by first | assumption | exact Ne.symm (by assumption) | exact x_ne fnb fP (by simp)) (nm_c (by first | assumption | exact Ne.symm (by assumption) | exact x_ne fnb fS (by simp)) (nm_c (by first | assumption | exact Ne.symm (by assumption) | exact x_ne fnb fpk (by simp)) nm_n)))
    have fcd := kp9.get fcd (nm_c (by first | assumption | exact Ne.symm (by assumption) | exact x_ne fcd fP (by simp)) (nm_c (by first | assumption | exact Ne.symm (by assumption) | exact x_ne fcd fS (by simp)) (nm_c (by first | assumption | exact Ne.symm (by assumption) | exact x_ne fcd fpk (by simp)) nm_n)))
    have kp := kp.call kp9 (kc_c (Or.inl (by simp)) (kc_c (Or.inl (by simp)) (kc_c (Or.inl (by simp)) kc_n)))
    refine x_if_eq (tgt := 153) C d_Pa_parse_125 rfl (fun q125 => ?_) (fun q125 => ?_)
    · skip
      replace q125 := bI_f q125
      replace hP := hP.trans (tSel_eq hL)
      rw [if_neg (by rw [q125]; decide)] at hP
      refine x_iconst (v := 0) C d_Pa_parse_153 (by decide) ?_
      refine x_istore_n (lv' := [(1, _), (0, _)]) C d_Pa_parse_154 rfl (by decide) (by rfl) ?_
      refine x_goto (tgt := 158) C d_Pa_parse_155 rfl ?_
      refine x_iload_n C d_Pa_parse_158 rfl rfl ?_
      refine x_if_eq (tgt := 183) C d_Pa_parse_159 rfl (fun q159 => ?_) (fun q159 => ?_)
      · skip
        refine x_null C d_Pa_parse_183 ?_
        refine x_aretN C d_Pa_parse_184 ?_
        exact Or.inl ⟨hP, rfl, kp⟩
      · skip
        exact absurd q159 (by decide)
    · skip
      replace q125 := bI_t q125
      obtain ⟨hr8, hq60, fP, fS, po1, pick, fpk, pO, hpk⟩ := hok q125
      replace hP := hP.trans (tSel_eq hL)
      rw [if_pos q125] at hP
      refine x_aload_n C d_Pa_parse_128 rfl rfl ?_
      refine x_callV C l_Pa_46 v_Pa_takeFrom d_Pa_parse_129 (m_Pa_takeFrom (p := q) fP ⟨fT, fkr, fnr, hkn, hn60⟩ hq60 fS) fP rfl (by rfl) (by rfl) (by decide) (by decide) (Nat.le_of_ble_eq_true rfl) ?_
      rintro v10 h10 ⟨okf, rfl, kp10, hfi, hff⟩
      have fT := kp10.get fT (nm_c (by first | assumption | exact Ne.symm (by assumption) | exact x_ne fT fP (by simp)) (nm_c (by first | assumption | exact Ne.symm (by assumption) | exact x_ne fT fS (by simp)) nm_n))
      have fkr := kp10.get fkr (nm_c (by first | assumption | exact Ne.symm (by assumption) | exact x_ne fkr fP (by simp)) (nm_c (by first | assumption | exact Ne.symm (by assumption) | exact x_ne fkr fS (by simp)) nm_n))
      have fnr := kp10.get fnr (nm_c (by first | assumption | exact Ne.symm (by assumption) | exact x_ne fnr fP (by simp)) (nm_c (by first | assumption | exact Ne.symm (by assumption) | exact x_ne fnr fS (by simp)) nm_n))
      have fnb := kp10.get fnb (nm_c (by first | assumption | exact Ne.symm (by assumption) | exact x_ne fnb fP (by simp)) (nm_c (by first | assumption | exact Ne.symm (by assumption) | exact x_ne fnb fS (by simp)) nm_n))
      have fpk := kp10.get fpk (nm_c (by first | assumption | exact Ne.symm (by assumption) | exact x_ne fpk fP (by simp)) (nm_c (by first | assumption | exact Ne.symm (by assumption) | exact x_ne fpk fS (by simp)) nm_n))
      have fcd := kp10.get fcd (nm_c (by first | assumption | exact Ne.symm (by assumption) | exact x_ne fcd fP (by simp)) (nm_c (by first | assumption | exact Ne.symm (by assumption) | exact x_ne fcd fS (by simp)) nm_n))
      have kp := kp.call kp10 (kc_c (Or.inl (by simp)) (kc_c (Or.inl (by simp)) kc_n))
      have pO := pO.keep (kp10.ops (no_c fP rfl (no_c fS rfl no_n)))
      refine x_if_eq (tgt := 153) C d_Pa_parse_132 rfl (fun q132 => ?_) (fun q132 => ?_)
      · skip
        replace q132 := bI_f q132
        rw [if_neg (fun z => by rw [hfi.mpr z] at q132; cases q132)] at hP
        refine x_iconst (v := 0) C d_Pa_parse_153 (by decide) ?_
        refine x_istore_n (lv' := [(1, _), (0, _)]) C d_Pa_parse_154 rfl (by decide) (by rfl) ?_
        refine x_goto (tgt := 158) C d_Pa_parse_155 rfl ?_
        refine x_iload_n C d_Pa_parse_158 rfl rfl ?_
        refine x_if_eq (tgt := 183) C d_Pa_parse_159 rfl (fun q159 => ?_) (fun q159 => ?_)
        · skip
          refine x_null C d_Pa_parse_183 ?_
          refine x_aretN C d_Pa_parse_184 ?_
          exact Or.inl ⟨hP, rfl, kp⟩
        · skip
          exact absurd q159 (by decide)
      · skip
        replace q132 := bI_t q132
        have hf3 := hfi.mp q132
        obtain ⟨fP, fS⟩ := hff q132
        rw [if_pos hf3] at hP
        have hl1 := (tK_iff.mp hf3.2.1).1
        have hb60 : tB ks n q ≤ 60 := by
          unfold tB
          by_cases z : tK ks n (q + 2) 1 = true
          · have := (tK_iff.mp z).1; rw [if_pos z]; omega
          · rw [if_neg z]; omega
        have fP9 := fP
        have fS9 := fS
        have fcd9 := fcd
        refine x_aload_n C d_Pa_parse_135 rfl rfl ?_
        refine x_callV C l_Pa_40 v_Pa_takeConditions d_Pa_parse_136 (m_Pa_takeConditions (p := tB ks n q) (tc := tConds ks ns n 8 8 (tB ks n q)) fP ⟨fT, fkr, fnr, hkn, hn60⟩ hb60 fS fcd rfl) fP rfl (by rfl) (by rfl) (by decide) (by decide) (Nat.le_of_ble_eq_true rfl) ?_
        rintro v11 h11 (⟨k, co2, hT, rfl, fP', fS', fcd', pC, hk8, hk60, kp11⟩ | ⟨hT, rfl, kp11⟩)
        · skip
          have fT := kp11.get fT (nm_c (by first | assumption | exact Ne.symm (by assumption) | exact x_ne fT fP (by simp)) (nm_c (by first | assumption | exact Ne.symm (by assumption) | exact x_ne fT fS (by simp)) (nm_c (by first | assumption | exact Ne.symm (by assumption) | exact x_ne fT fcd (by simp)) nm_n)))
          have fkr := kp11.get fkr (nm_c (by first | assumption | exact Ne.symm (by assumption) | exact x_ne fkr fP (by simp)) (nm_c (by first | assumption | exact Ne.symm (by assumption) | exact x_ne fkr fS (by simp)) (nm_c (by first | assumption | exact Ne.symm (by assumption) | exact x_ne fkr fcd (by simp)) nm_n)))
          have fnr := kp11.get fnr (nm_c (by first | assumption | exact Ne.symm (by assumption) | exact x_ne fnr fP (by simp)) (nm_c (by first | assumption | exact Ne.symm (by assumption) | exact x_ne fnr fS (by simp)) (nm_c (by first | assumption | exact Ne.symm (by assumption) | exact x_ne fnr fcd (by simp)) nm_n)))
          have fnb := kp11.get fnb (nm_c (by first | assumption | exact Ne.symm (by assumption) | exact x_ne fnb fP (by simp)) (nm_c (by first | assumption | exact Ne.symm (by assumption) | exact x_ne fnb fS (by simp)) (nm_c (by first | assumption | exact Ne.symm (by assumption) | exact x_ne fnb fcd (by simp)) nm_n)))
          have fpk := kp11.get fpk (nm_c (by first | assumption | exact Ne.symm (by assumption) | exact x_ne fpk fP (by simp)) (nm_c (by first | assumption | exact Ne.symm (by assumption) | exact x_ne fpk fS (by simp)) (nm_c (by first | assumption | exact Ne.symm (by assumption) | exact x_ne fpk fcd (by simp)) nm_n)))
          have kp := kp.call kp11 (kc_c (Or.inl (by simp)) (kc_c (Or.inl (by simp)) (kc_c (Or.inl (by simp)) kc_n)))
          have fP := fP'
          have fS := fS'
          have fcd := fcd'
          have pO := pO.keep (kp11.ops (no_c fP9 rfl (no_c fS9 rfl (no_c fcd9 rfl no_n))))
          rw [hT] at hP
          replace hP : tParse ks ns n = if tEnd ks ns n (tB ks n q + 4 * k) = n then some (((3, ls, ns (q + 1), tT ks ns n (q + 2), tW ks ns n (tB ks n q + 4 * k) 13 13), (0, r, if ls = 6 then 2 else 1, k, tB ks n q)) : tD) else none := hP
          refine x_if_eq (tgt := 153) C d_Pa_parse_139 rfl (fun q139 => ?_) (fun q139 => ?_)
          · skip
            exact absurd q139 (by decide)
          · skip
            refine x_aload_n C d_Pa_parse_142 rfl rfl ?_
            refine x_callV C l_Pa_49 v_Pa_takeOrder d_Pa_parse_143 (m_Pa_takeOrder (p := tB ks n q + 4 * k) fP ⟨fT, fkr, fnr, hkn, hn60⟩ hk60 fS) fP rfl (by rfl) (by rfl) (by decide) (by decide) (Nat.le_of_ble_eq_true rfl) ?_
            rintro v12 h12 ⟨rfl, fP', fS', kp12⟩
            have fP8 := fP
            have fS8 := fS
            have fT := kp12.get fT (nm_c (by first | assumption | exact Ne.symm (by assumption) | exact x_ne fT fP (by simp)) (nm_c (by first | assumption | exact Ne.symm (by assumption) | exact x_ne fT fS (by simp)) nm_n))
            have fkr := kp12.get fkr (nm_c (by first | assumption | exact Ne.symm (by assumption) | exact x_ne fkr fP (by simp)) (nm_c (by first | assumption | exact Ne.symm (by assumption) | exact x_ne fkr fS (by simp)) nm_n))
            have fnr := kp12.get fnr (nm_c (by first | assumption | exact Ne.symm (by assumption) | exact x_ne fnr fP (by simp)) (nm_c (by first | assumption | exact Ne.symm (by assumption) | exact x_ne fnr fS (by simp)) nm_n))
            have fnb := kp12.get fnb (nm_c (by first | assumption | exact Ne.symm (by assumption) | exact x_ne fnb fP (by simp)) (nm_c (by first | assumption | exact Ne.symm (by assumption) | exact x_ne fnb fS (by simp)) nm_n))
            have fpk := kp12.get fpk (nm_c (by first | assumption | exact Ne.symm (by assumption) | exact x_ne fpk fP (by simp)) (nm_c (by first | assumption | exact Ne.symm (by assumption) | exact x_ne fpk fS (by simp)) nm_n))
            have fcd := kp12.get fcd (nm_c (by first | assumption | exact Ne.symm (by assumption) | exact x_ne fcd fP (by simp)) (nm_c (by first | assumption | exact Ne.symm (by assumption) | exact x_ne fcd fS (by simp)) nm_n))
            have kp := kp.call kp12 (kc_c (Or.inl (by simp)) (kc_c (Or.inl (by simp)) kc_n))
            have fP := fP'
            have fS := fS'
            have pO := pO.keep (kp12.ops (no_c fP8 rfl (no_c fS8 rfl no_n)))
            have pC := pC.keep (kp12.ops (no_c fP8 rfl (no_c fS8 rfl no_n)))
            have hend60 : tEnd ks ns n (tB ks n q + 4 * k) ≤ 60 := tW_le hk60 hn60
            refine x_if_eq (tgt := 153) C d_Pa_parse_146 rfl (fun q146 => ?_) (fun q146 => ?_)
            · skip
              exact absurd q146 (by decide)
            · skip
              refine x_iconst (v := 1) C d_Pa_parse_149 (by decide) ?_
              refine x_goto (tgt := 154) C d_Pa_parse_150 rfl ?_
              refine x_istore_n (lv' := [(1, _), (0, _)]) C d_Pa_parse_154 rfl (by decide) (by rfl) ?_
              refine x_goto (tgt := 158) C d_Pa_parse_155 rfl ?_
              refine x_iload_n C d_Pa_parse_158 rfl rfl ?_
              refine x_if_eq (tgt := 183) C d_Pa_parse_159 rfl (fun q159 => ?_) (fun q159 => ?_)
              · skip
                exact absurd q159 (by decide)
              · skip
                refine x_aload_n C d_Pa_parse_162 rfl rfl ?_
                refine x_get C k_Pa f_Pa_52 d_Pa_parse_163 fP (by rfl) ?_
                refine x_aload_n C d_Pa_parse_166 rfl rfl ?_
                refine x_get C k_Pa f_Pa_18 d_Pa_parse_167 fP (by rfl) ?_
                refine x_get C k_To f_Pa_55 d_Pa_parse_170 fT (by rfl) ?_
                refine x_icmp_ne (tgt := 183) C d_Pa_parse_173 rfl (fun q173 => ?_) (fun q173 => ?_)
                · skip
                  first | rw [if_neg (c := 3 = n) (fun z => q173 (congrArg nI z))] at hP | rw [if_neg (c := 2 + tRun ks n 3 60 2 = n) (fun z => q173 (congrArg nI z))] at hP | rw [if_neg (c := 2 + 4 * k = n) (fun z => q173 (congrArg nI z))] at hP | rw [if_neg (c := tEnd ks ns n (tB ks n q + 4 * k) = n) (fun z => q173 (congrArg nI z))] at hP
                  refine x_null C d_Pa_parse_183 ?_
                  refine x_aretN C d_Pa_parse_184 ?_
                  exact Or.inl ⟨hP, rfl, kp⟩
                · skip
                  have hend := (nI_eq (by first | omega | (have := hend60; unfold tEnd at this; omega)) (by omega)).mp q173
                  first | rw [if_pos (show 3 = n from hend)] at hP | rw [if_pos (show 2 + tRun ks n 3 60 2 = n from hend)] at hP | rw [if_pos (show 2 + 4 * k = n from hend)] at hP | rw [if_pos (show tEnd ks ns n (tB ks n q + 4 * k) = n from hend)] at hP
                  refine x_aload_n C d_Pa_parse_176 rfl rfl ?_
                  refine x_get C k_Pa f_Pa_12 d_Pa_parse_177 fP (by rfl) ?_
                  refine x_goto (tgt := 184) C d_Pa_parse_180 rfl ?_
                  refine x_aret C d_Pa_parse_184 ?_
                  exact Or.inr ⟨_, hP, rfl, kp, _, _, _, pick, _, fS, fnb, (fun j h1 h2 => absurd (show j < 0 from h1) (by omega)), fpk, pO, hpk, hr8, fcd, pC, (fun _ _ => rfl), hk8⟩
        · skip
          have fT := kp11.get fT (nm_c (by first | assumption | exact Ne.symm (by assumption) | exact x_ne fT fP (by simp)) (nm_c (by first | assumption | exact Ne.symm (by assumption) | exact x_ne fT fS (by simp)) (nm_c (by first | assumption | exact Ne.symm (by assumption) | exact x_ne fT fcd (by simp)) nm_n)))
          have fkr := kp11.get fkr (nm_c (by first | assumption | exact Ne.symm (by assumption) | exact x_ne fkr fP (by simp)) (nm_c (by first | assumption | exact Ne.symm (by assumption) | exact x_ne fkr fS (by simp)) (nm_c (by first | assumption | exact Ne.symm (by assumption) | exact x_ne fkr fcd (by simp)) nm_n)))
          have fnr := kp11.get fnr (nm_c (by first | assumption | exact Ne.symm (by assumption) | exact x_ne fnr fP (by simp)) (nm_c (by first | assumption | exact Ne.symm (by assumption) | exact x_ne fnr fS (by simp)) (nm_c (by first | assumption | exact Ne.symm (by assumption) | exact x_ne fnr fcd (by simp)) nm_n)))
          have fnb := kp11.get fnb (nm_c (by first | assumption | exact Ne.symm (by assumption) | exact x_ne fnb fP (by simp)) (nm_c (by first | assumption | exact Ne.symm (by assumption) | exact x_ne fnb fS (by simp)) (nm_c (by first | assumption | exact Ne.symm (by assumption) | exact x_ne fnb fcd (by simp)) nm_n)))
          have fpk := kp11.get fpk (nm_c (by first | assumption | exact Ne.symm (by assumption) | exact x_ne fpk fP (by simp)) (nm_c (by first | assumption | exact Ne.symm (by assumption) | exact x_ne fpk fS (by simp)) (nm_c (by first | assumption | exact Ne.symm (by assumption) | exact x_ne fpk fcd (by simp)) nm_n)))
          have kp := kp.call kp11 (kc_c (Or.inl (by simp)) (kc_c (Or.inl (by simp)) (kc_c (Or.inl (by simp)) kc_n)))
          rw [hT] at hP
          replace hP : tParse ks ns n = none := hP
          refine x_if_eq (tgt := 153) C d_Pa_parse_139 rfl (fun q139 => ?_) (fun q139 => ?_)
          · skip
            refine x_iconst (v := 0) C d_Pa_parse_153 (by decide) ?_
            refine x_istore_n (lv' := [(1, _), (0, _)]) C d_Pa_parse_154 rfl (by decide) (by rfl) ?_
            refine x_goto (tgt := 158) C d_Pa_parse_155 rfl ?_
            refine x_iload_n C d_Pa_parse_158 rfl rfl ?_
            refine x_if_eq (tgt := 183) C d_Pa_parse_159 rfl (fun q159 => ?_) (fun q159 => ?_)
            · skip
              refine x_null C d_Pa_parse_183 ?_
              refine x_aretN C d_Pa_parse_184 ?_
              exact Or.inl ⟨hP, rfl, kp⟩
            · skip
              exact absurd q159 (by decide)
          · skip
            exact absurd q139 (by decide)
  · skip
    have hP := tp_no rfl q22
    refine x_tabOut (tgt := 158) C d_Pa_parse_22 q22 rfl ?_
    refine x_iload_n C d_Pa_parse_158 rfl rfl ?_
    refine x_if_eq (tgt := 183) C d_Pa_parse_159 rfl (fun q159 => ?_) (fun q159 => ?_)
    · skip
      refine x_null C d_Pa_parse_183 ?_
      refine x_aretN C d_Pa_parse_184 ?_
      exact Or.inl ⟨hP, rfl, kp⟩
    · skip
      exact absurd q159 (by decide)
end
section
/-! STATE of the run -/
abbrev oRu (st : Value) (gv on en fp sp : Int32) (tt : Int64) (rd : Nat) : va_E := .inr (3, [st, .int gv, .int on, .int en, .int fp, .int sp, .long tt, .ref rd])
theorem pOps.keepU {h h' : xH} {po : Nat → Option Nat} {n a : Nat} {pick : Nat → Int32} {ea e' : va_E} (p : pOps h po n pick) (u : h' = va_up h a (some e')) (fa : h a = some ea) (hn : nOp ea = true) : pOps h' po n pick := p.keep ((xKeep.rf.up (M := [a]) u (by simp)).ops (no_c fa hn no_n))
theorem pCds.keepU {h h' : xH} {co : Nat → Option Nat} {n a : Nat} {cf : Nat → tCd} {ea e' : va_E} (p : pCds h co n cf) (u : h' = va_up h a (some e')) (fa : h a = some ea) (hn : nOp ea = true) : pCds h' co n cf := p.keep ((xKeep.rf.up (M := [a]) u (by simp)).ops (no_c fa hn no_n))
theorem xOps.new {h h' : xH} {a : Nat} {e' : va_E} (u : h' = va_up h a (some e')) (n : h a = none) : xOps h h' := fun q e f _ => xUp_new u n f
theorem pOps.keepN {h h' : xH} {po : Nat → Option Nat} {n a : Nat} {pick : Nat → Int32} {e' : va_E} (p : pOps h po n pick) (u : h' = va_up h a (some e')) (z : h a = none) : pOps h' po n pick := p.keep (xOps.new u z)
theorem pCds.keepN {h h' : xH} {co : Nat → Option Nat} {n a : Nat} {cf : Nat → tCd} {e' : va_E} (p : pCds h co n cf) (u : h' = va_up h a (some e')) (z : h a = none) : pCds h' co n cf := p.keep (xOps.new u z)
theorem pOps.keepC {M : List Nat} {h h' : xH} {po : Nat → Option Nat} {n : Nat} {pick : Nat → Int32} (p : pOps h po n pick) (kp : xKeep M h h') (hM : ∀ q ∈ M, ∀ e, h q = some e → nOp e = true) : pOps h' po n pick := p.keep (kp.ops hM)
theorem pCds.keepC {M : List Nat} {h h' : xH} {co : Nat → Option Nat} {n : Nat} {cf : Nat → tCd} (p : pCds h co n cf) (kp : xKeep M h h') (hM : ∀ q ∈ M, ∀ e, h q = some e → nOp e = true) : pCds h' co n cf := p.keep (kp.ops hM)
/-- the row at 'passed' of n: from the front, or falling from the back -/
def plc (fa : Int32) (n i : Nat) : Nat := if fa = 0 then i else n - 1 - i
/-- what the cursors have read: a row of the first table from o1 on, one of the second from o2 on -/
def rdF (f g : Nat → Int32) (o1 : Nat) (o2 : Option Nat) : Nat → Int32 := match o2 with
  | none => va_cpy f g o1 0 6
  | some o => va_cpy f (va_cpy f g o1 0 6) o 10 6
/-- the parts of 'read' that no row covers -/
def rdE (se : Int32) (g g0 : Nat → Int32) : Prop := ∀ c, 6 ≤ c → (c < 10 ∨ 16 ≤ c ∨ se = -1) → g c = g0 c
theorem rdE.rf {se : Int32} {g : Nat → Int32} : rdE se g g := fun _ _ _ => rfl
theorem rdE.one {se : Int32} {f g g0 : Nat → Int32} {o : Nat} (h : rdE se g g0) : rdE se (va_cpy f g o 0 6) g0 := fun c h1 h2 => by
  rw [pk_cpy_out (Or.inr (by omega))]; exact h c h1 h2
theorem rdE.two {se : Int32} {f g g0 : Nat → Int32} {o : Nat} (h : rdE se g g0) (hs : ¬ se = -1) : rdE se (va_cpy f g o 10 6) g0 := fun c h1 h2 => by
  rw [pk_cpy_out (by rcases h2 with z | z | z; exact Or.inl z; exact Or.inr z; exact absurd z hs)]; exact h c h1 h2
theorem rd_one {f g g0 : Nat → Int32} {o : Nat} (h : rdE (-1) g g0) : va_cpy f g o 0 6 = rdF f g0 o none := by
  funext c
  show _ = va_cpy f g0 o 0 6 c
  by_cases hc : c < 6
  · rw [pk_cpy_in (by omega) (by omega), pk_cpy_in (by omega) (by omega)]
  · rw [pk_cpy_out (Or.inr (by omega)), pk_cpy_out (Or.inr (by omega))]; exact h c (by omega) (Or.inr (Or.inr rfl))
theorem rd_two {se : Int32} {f g g0 : Nat → Int32} {o o2 : Nat} (h : rdE se g g0) (h6 : ∀ c, c < 6 → g c = f (o + c)) : va_cpy f g o2 10 6 = rdF f g0 o (some o2) := by
  funext c
  show _ = va_cpy f (va_cpy f g0 o 0 6) o2 10 6 c
  by_cases hc : 10 ≤ c ∧ c < 16
  · rw [pk_cpy_in (by omega) (by omega), pk_cpy_in (by omega) (by omega)]
  · rw [pk_cpy_out (by omega), pk_cpy_out (by omega)]
    by_cases h9 : c < 6
    · rw [pk_cpy_in (by omega) (by omega), h6 c h9]; congr 1
    · rw [pk_cpy_out (Or.inr (by omega))]; exact h c (by omega) (by omega)
theorem plc_lt {fa : Int32} {n i : Nat} (hi : i < n) : plc fa n i < n := by
  unfold plc
  by_cases h : fa = 0
  · rw [if_pos h]; exact hi
  · rw [if_neg h]; omega
/-- what is behind the second table's cursor: nothing, where there is no second table -/
def sec (se fa : Int32) (z n2 j : Nat) : Option Nat := if se = -1 then none else some ((z + plc fa n2 j) * 6)
theorem nI_m1 {t : Nat} (ht : t < 2 ^ 31) : ¬ nI t = -1 := fun e => absurd (show (nI t).toInt = -1 by rw [e]; decide) (by rw [nI_toInt ht]; omega)
/-- the pair (a, b) is at or behind (i, j) -/
def bhd (i j a b : Nat) : Prop := i < a ∨ (a = i ∧ j ≤ b)
/-- no pair from (i, j) on and ahead of (i1, j1) is good -/
def bad (G : Nat → Nat → Bool) (n1 n2 i j i1 j1 : Nat) : Prop := ∀ a b, a < n1 → b < n2 → bhd i j a b → (a < i1 ∨ (a = i1 ∧ b < j1)) → G a b = false
theorem bad.rf {G : Nat → Nat → Bool} {n1 n2 i j : Nat} : bad G n1 n2 i j i j := fun a b _ _ h1 h2 => by unfold bhd at h1; omega
theorem bad.next {G : Nat → Nat → Bool} {n1 n2 i j i1 j1 : Nat} (h : bad G n1 n2 i j i1 j1) (hg : G i1 j1 = false) : bad G n1 n2 i j i1 (j1 + 1) := fun a b h1 h2 h3 h4 => by
  by_cases hz : a = i1 ∧ b = j1
  · rw [hz.1, hz.2]; exact hg
  · exact h a b h1 h2 h3 (by omega)
theorem bad.line {G : Nat → Nat → Bool} {n1 n2 i j i1 j1 : Nat} (h : bad G n1 n2 i j i1 j1) (hj : n2 ≤ j1) : bad G n1 n2 i j (i1 + 1) 0 := fun a b h1 h2 h3 h4 => h a b h1 h2 h3 (by omega)
/-! sums over pairs -/
def sumRow (w : Nat → Int64) : Nat → Int64
  | 0 => 0
  | b + 1 => sumRow w b + w b
/-- the sum over all pairs ahead of (i, j) -/
def sumUp (w : Nat → Nat → Int64) (n2 : Nat) : Nat → Nat → Int64
  | 0, j => sumRow (w 0) j
  | i + 1, j => sumUp w n2 i n2 + sumRow (w (i + 1)) j
theorem sumRow_skip {w : Nat → Int64} {j : Nat} : ∀ k, (∀ b, j ≤ b → b < j + k → w b = 0) → sumRow w (j + k) = sumRow w j := by
  intro k
  induction k with
  | zero => intro _; rfl
  | succ k ih =>
    intro h
    show sumRow w (j + k) + w (j + k) = _
    rw [ih (fun b h1 h2 => h b h1 (by omega)), h (j + k) (by omega) (by omega), Int64.add_zero]
theorem sumUp_row {w : Nat → Nat → Int64} {n2 i j j' : Nat} (hj : j ≤ j') (h : ∀ b, j ≤ b → b < j' → w i b = 0) : sumUp w n2 i j' = sumUp w n2 i j := by
  obtain ⟨k, rfl⟩ : ∃ k, j' = j + k := ⟨j' - j, by omega⟩
  cases i with
  | zero => exact sumRow_skip k h
  | succ i =>
    show sumUp w n2 i n2 + sumRow (w (i + 1)) (j + k) = sumUp w n2 i n2 + sumRow (w (i + 1)) j
    rw [sumRow_skip k h]
theorem sumUp_line {w : Nat → Nat → Int64} {n2 i : Nat} : sumUp w n2 (i + 1) 0 = sumUp w n2 i n2 := by
  show sumUp w n2 i n2 + sumRow (w (i + 1)) 0 = _
  exact Int64.add_zero _
theorem sumUp_next {w : Nat → Nat → Int64} {n2 i j : Nat} : sumUp w n2 i (j + 1) = sumUp w n2 i j + w i j := by
  cases i with
  | zero => rfl
  | succ i =>
    show sumUp w n2 i n2 + (sumRow (w (i + 1)) j + w (i + 1) j) = sumUp w n2 i n2 + sumRow (w (i + 1)) j + w (i + 1) j
    rw [Int64.add_assoc]
/-- what is bad adds nothing -/
theorem sumUp_bad {G : Nat → Nat → Bool} {val : Nat → Nat → Int64} {n1 n2 i j : Nat} (hj : j ≤ n2) : ∀ d i' j', i' = i + d → i' ≤ n1 → j' ≤ n2 → (i' = n1 → j' = 0 ∨ i' = i) → (d = 0 → j ≤ j') → (∀ a b, a < n1 → b < n2 → bhd i j a b → (a < i' ∨ (a = i' ∧ b < j')) → G a b = false) → (i' = n1 → d = 0 → j' = j) → sumUp (fun a b => if G a b = true then val a b else 0) n2 i' j' = sumUp (fun a b => if G a b = true then val a b else 0) n2 i j := by
  intro d
  induction d with
  | zero =>
    intro i' j' hi hi1 hj' h0 hjj h hz
    have hi : i' = i := by omega
    subst hi
    by_cases hn : i' = n1
    · rw [hz hn rfl]
    · exact sumUp_row (hjj rfl) (fun b h1 h2 => by rw [h i' b (by omega) (by omega) (Or.inr ⟨rfl, h1⟩) (Or.inr ⟨rfl, h2⟩)]; rfl)
  | succ d ih =>
    intro i' j' hi hi1 hj' h0 hjj h hz
    have hi : i' = i + d + 1 := by omega
    subst hi
    have h3 : sumUp (fun a b => if G a b = true then val a b else 0) n2 (i + d + 1) j' = sumUp (fun a b => if G a b = true then val a b else 0) n2 (i + d + 1) 0 := by
      by_cases hn : i + d + 1 = n1
      · rcases h0 hn with z | z
        · rw [z]
        · omega
      · exact sumUp_row (by omega) (fun b h1 h2 => by rw [h (i + d + 1) b (by omega) (by omega) (Or.inl (by omega)) (Or.inr ⟨rfl, h2⟩)]; rfl)
    rw [h3, sumUp_line]
    by_cases hd : d = 0
    · subst hd
      exact sumUp_row hj (fun b h1 h2 => by show (if G i b = true then val i b else 0) = 0; rw [h i b (by omega) h2 (Or.inr ⟨rfl, h1⟩) (Or.inl (by omega))]; rfl)
    · exact ih (i + d) n2 rfl (by omega) (Nat.le_refl _) (fun z => by omega) (fun z => absurd z hd) (fun a b h1 h2 h3 h4 => h a b h1 h2 h3 (by omega)) (fun z => by omega)
theorem pos_le {n2 i j i' j' k : Nat} (hj : j ≤ n2) (hb : bhd i j i' j') (hk : k ≤ i * n2 + j) : k + 1 ≤ i' * n2 + (j' + 1) := by
  rcases hb with h | ⟨h1, h2⟩
  · have := Nat.mul_le_mul_right n2 (show i + 1 ≤ i' from h)
    rw [Nat.add_mul, Nat.one_mul] at this
    omega
  · subst h1; omega
theorem pos_end {n1 n2 i j : Nat} (h1 : n1 ≤ 400) (h2 : n2 ≤ 400) (hi : i ≤ n1) (hj : j ≤ n2) (hk : 160000 ≤ i * n2 + j) : n1 ≤ i ∨ (n1 = i + 1 ∧ n2 ≤ j) := by
  rcases Nat.lt_or_ge i n1 with h | h
  · right
    have hi9 : i ≤ 399 := by omega
    have a1 : i * n2 ≤ i * 400 := Nat.mul_le_mul_left i h2
    have a2 : i * n2 ≤ 399 * n2 := Nat.mul_le_mul_right n2 hi9
    omega
  · exact Or.inl h
theorem rdE.tr {se : Int32} {a b c : Nat → Int32} (h : rdE se a b) (h2 : rdE se b c) : rdE se a c := fun x h1 h3 => (h x h1 h3).trans (h2 x h1 h3)
theorem rdF_base {se fa : Int32} {f g1 g : Nat → Int32} {o z n2 b : Nat} (h : rdE se g1 g) : rdF f g1 o (sec se fa z n2 b) = rdF f g o (sec se fa z n2 b) := by
  unfold sec
  by_cases hs : se = -1
  · rw [if_pos hs]
    subst hs
    exact rd_one h
  · rw [if_neg hs]
    exact rd_two h.one (fun c hc => by rw [pk_cpy_in (by omega) (by omega)]; congr 1)
theorem gd_base {se fa : Int32} {f g1 g : Nat → Int32} {z n2 kc : Nat} {cf : Nat → tCd} (o : Nat → Nat) (h : rdE se g1 g) : (fun a b => cdsVal kc cf (rdF f g1 (o a) (sec se fa z n2 b))) = (fun a b => cdsVal kc cf (rdF f g (o a) (sec se fa z n2 b))) := by
  funext a b
  rw [rdF_base h]
end
section
/-! TABLES as lists of rows -/
def row6 (f : Nat → Int32) (o : Nat) : Nat → Int32 := fun c => if c < 6 then f (o + c) else 0
def rws {α : Type} (R : Nat → α) (b n : Nat) : List α := (List.range n).map (fun j => R (b + j))
theorem rws_get {α : Type} {R : Nat → α} {b n j : Nat} : (rws R b n)[j]? = if j < n then some (R (b + j)) else none := by
  unfold rws
  by_cases h : j < n
  · simp [h]
  · simp [h]
theorem rws_len {α : Type} {R : Nat → α} {b n : Nat} : (rws R b n).length = n := by simp [rws]
theorem rws_eq {α : Type} {R R' : Nat → α} {b b' n : Nat} (h : ∀ j, j < n → R' (b' + j) = R (b + j)) : rws R' b' n = rws R b n := by
  unfold rws
  exact List.map_congr_left (fun j hj => h j (List.mem_range.mp hj))
theorem rws_ins {α : Type} {R R' : Nat → α} {b n p : Nat} {v : α} (hp : p ≤ n) (h : ∀ j, j ≤ n → R' (b + j) = if j < p then R (b + j) else if j = p then v else R (b + (j - 1))) : rws R' b (n + 1) = (rws R b n).insertIdx p v := by
  apply List.ext_getElem?
  intro j
  rw [rws_get, List.getElem?_insertIdx, rws_get, rws_get, rws_len]
  by_cases h1 : j < p
  · rw [if_pos h1, if_pos (by omega), if_pos (by omega), h j (by omega), if_pos h1]
  · rw [if_neg h1]
    by_cases h2 : j = p
    · rw [if_pos h2, if_pos (by omega), if_pos (by omega), h j (by omega), if_neg h1, if_pos h2]
    · rw [if_neg h2]
      by_cases h3 : j < n + 1
      · rw [if_pos h3, if_pos (by omega), h j (by omega), if_neg h1, if_neg h2]
      · rw [if_neg h3, if_neg (by omega)]
theorem rws_rem {α : Type} {R R' : Nat → α} {b n p : Nat} (hp : p < n) (h : ∀ j, j < n - 1 → R' (b + j) = if j < p then R (b + j) else R (b + (j + 1))) : rws R' b (n - 1) = (rws R b n).eraseIdx p := by
  apply List.ext_getElem?
  intro j
  rw [rws_get, List.getElem?_eraseIdx, rws_get, rws_get]
  by_cases h1 : j < p
  · rw [if_pos h1, if_pos (by omega), if_pos (by omega), h j (by omega), if_pos h1]
  · rw [if_neg h1]
    by_cases h3 : j < n - 1
    · rw [if_pos h3, if_pos (by omega), h j h3, if_neg h1]
    · rw [if_neg h3, if_neg (by omega)]
/-- the rows of table t -/
def tbl (f : Nat → Int32) (SS : Nat → Nat) (t : Nat) : List (Nat → Int32) := rws (fun x => row6 f (x * 6)) (SS t) (SS (t + 1) - SS t)
theorem tbl_len {f : Nat → Int32} {SS : Nat → Nat} {t : Nat} : (tbl f SS t).length = SS (t + 1) - SS t := rws_len
def incB (SS : Nat → Nat) (t : Nat) : Nat → Nat := fun i => if t < i then SS i + 1 else SS i
def decB (SS : Nat → Nat) (t : Nat) : Nat → Nat := fun i => if t < i then SS i - 1 else SS i
/-- row x of the array behind an insertion at row r -/
theorem row_ins {f g : Nat → Int32} {r N x : Nat} (hr : r ≤ N) (hx : x ≤ N) : row6 (va_cpy g (va_cpy f f (r * 6) (r * 6 + 6) (N * 6 - r * 6)) 0 (r * 6) 6) (x * 6) = if x < r then row6 f (x * 6) else if x = r then row6 g 0 else row6 f ((x - 1) * 6) := by
  funext c
  unfold row6
  by_cases hc : c < 6
  · rw [if_pos hc]
    by_cases h1 : x < r
    · rw [if_pos h1, if_pos hc, pk_cpy_out (Or.inl (by omega)), pk_cpy_out (Or.inl (by omega))]
    · rw [if_neg h1]
      by_cases h2 : x = r
      · rw [if_pos h2, if_pos hc, pk_cpy_in (by omega) (by omega)]; congr 1; omega
      · rw [if_neg h2, if_pos hc, pk_cpy_out (Or.inr (by omega)), pk_cpy_in (by omega) (by omega)]; congr 1; omega
  · rw [if_neg hc]
    by_cases h1 : x < r
    · rw [if_pos h1, if_neg hc]
    · rw [if_neg h1]
      by_cases h2 : x = r
      · rw [if_pos h2, if_neg hc]
      · rw [if_neg h2, if_neg hc]
theorem row_rem {f : Nat → Int32} {r N x : Nat} (hr : r < N) (hx : x < N - 1) : row6 (va_cpy f f ((r + 1) * 6) ((r + 1) * 6 - 6) (N * 6 - (r + 1) * 6)) (x * 6) = if x < r then row6 f (x * 6) else row6 f ((x + 1) * 6) := by
  funext c
  unfold row6
  by_cases hc : c < 6
  · rw [if_pos hc]
    by_cases h1 : x < r
    · rw [if_pos h1, if_pos hc, pk_cpy_out (Or.inl (by omega))]
    · rw [if_neg h1, if_pos hc, pk_cpy_in (by omega) (by omega)]; congr 1; omega
  · rw [if_neg hc]
    by_cases h1 : x < r
    · rw [if_pos h1, if_neg hc]
    · rw [if_neg h1, if_neg hc]
theorem pS.inc {s s' : Nat → Int32} {SS : Nat → Nat} {t : Nat} (h : pS s SS) (ht : t < 10) (hs : ∀ i, s' i = if t < i ∧ i < 11 then s i + 1 else s i) (hl : SS 10 < 400) : pS s' (incB SS t) := by
  refine ⟨fun i hi => ?_, fun i hi => ?_, ?_⟩
  · rw [hs i]
    unfold incB
    by_cases h1 : t < i
    · rw [if_pos ⟨h1, by omega⟩, if_pos h1, h.1 i hi, nI_1]
    · rw [if_neg (by omega), if_neg h1, h.1 i hi]
  · have := h.2.1 i hi
    unfold incB
    by_cases h1 : t < i
    · rw [if_pos h1, if_pos (by omega)]; omega
    · rw [if_neg h1]
      by_cases h2 : t < i + 1
      · rw [if_pos h2]; omega
      · rw [if_neg h2]; omega
  · unfold incB; rw [if_pos (by omega)]; omega
theorem pS.dec {s s' : Nat → Int32} {SS : Nat → Nat} {t : Nat} (h : pS s SS) (ht : t < 10) (hs : ∀ i, s' i = if t < i ∧ i < 11 then s i + (-1) else s i) (hl : SS t < SS (t + 1)) : pS s' (decB SS t) := by
  have hm : ∀ i, t < i → i ≤ 10 → SS t < SS i := fun i h1 h2 => Nat.lt_of_lt_of_le hl (h.mono (t + 1) i (by omega) h2)
  refine ⟨fun i hi => ?_, fun i hi => ?_, ?_⟩
  · rw [hs i]
    unfold decB
    by_cases h1 : t < i
    · rw [if_pos ⟨h1, by omega⟩, if_pos h1, h.1 i hi, sb_m1 (by have := hm i h1 hi; omega)]
    · rw [if_neg (by omega), if_neg h1, h.1 i hi]
  · have := h.2.1 i hi
    unfold decB
    by_cases h1 : t < i
    · rw [if_pos h1, if_pos (by omega)]; omega
    · rw [if_neg h1]
      by_cases h2 : t < i + 1
      · rw [if_pos h2]
        have h3 : i = t := by omega
        subst h3; omega
      · rw [if_neg h2]; omega
  · have := h.2.2
    unfold decB; rw [if_pos (by omega)]; omega
theorem tbl_ins {s f g : Nat → Int32} {SS : Nat → Nat} {t p : Nat} (h : pS s SS) (ht : t < 10) (hp : p ≤ SS (t + 1) - SS t) : tbl (va_cpy g (va_cpy f f ((SS t + p) * 6) ((SS t + p) * 6 + 6) (SS 10 * 6 - (SS t + p) * 6)) 0 ((SS t + p) * 6) 6) (incB SS t) t = (tbl f SS t).insertIdx p (row6 g 0) := by
  have hm := h.mono (t + 1) 10 (by omega) (by omega)
  have h1 := h.2.1 t ht
  unfold tbl
  rw [show incB SS t (t + 1) - incB SS t t = SS (t + 1) - SS t + 1 by unfold incB; rw [if_pos (by omega), if_neg (by omega)]; omega, show incB SS t t = SS t by unfold incB; rw [if_neg (by omega)]]
  refine rws_ins hp (fun j hj => ?_)
  rw [row_ins (by omega) (by omega)]
  by_cases h2 : j < p
  · rw [if_pos (by omega), if_pos h2]
  · rw [if_neg (by omega), if_neg h2]
    by_cases h3 : j = p
    · rw [if_pos (by omega), if_pos h3]
    · rw [if_neg (by omega), if_neg h3, show SS t + j - 1 = SS t + (j - 1) by omega]
theorem tbl_insO {s f g : Nat → Int32} {SS : Nat → Nat} {t t' p : Nat} (h : pS s SS) (ht : t < 10) (ht' : t' < 10) (hne : t' ≠ t) (hp : p ≤ SS (t + 1) - SS t) : tbl (va_cpy g (va_cpy f f ((SS t + p) * 6) ((SS t + p) * 6 + 6) (SS 10 * 6 - (SS t + p) * 6)) 0 ((SS t + p) * 6) 6) (incB SS t) t' = tbl f SS t' := by
  have hm := h.mono (t + 1) 10 (by omega) (by omega)
  have h1 := h.2.1 t ht
  have h4 := h.2.1 t' ht'
  have h5 := h.mono (t' + 1) 10 (by omega) (by omega)
  unfold tbl
  rcases Nat.lt_or_ge t' t with hlt | hge
  · have hm2 := h.mono (t' + 1) t (by omega) (by omega)
    rw [show incB SS t (t' + 1) = SS (t' + 1) by unfold incB; rw [if_neg (by omega)], show incB SS t t' = SS t' by unfold incB; rw [if_neg (by omega)]]
    refine rws_eq (fun j hj => ?_)
    rw [row_ins (by omega) (by omega), if_pos (by omega)]
  · have hm2 := h.mono (t + 1) t' (by omega) (by omega)
    rw [show incB SS t (t' + 1) = SS (t' + 1) + 1 by unfold incB; rw [if_pos (by omega)], show incB SS t t' = SS t' + 1 by unfold incB; rw [if_pos (by omega)], show SS (t' + 1) + 1 - (SS t' + 1) = SS (t' + 1) - SS t' by omega]
    refine rws_eq (fun j hj => ?_)
    rw [row_ins (by omega) (by omega), if_neg (by omega), if_neg (by omega), show SS t' + 1 + j - 1 = SS t' + j by omega]
theorem tbl_rem {s f : Nat → Int32} {SS : Nat → Nat} {t p : Nat} (h : pS s SS) (ht : t < 10) (hp : p < SS (t + 1) - SS t) : tbl (va_cpy f f ((SS t + p + 1) * 6) ((SS t + p + 1) * 6 - 6) (SS 10 * 6 - (SS t + p + 1) * 6)) (decB SS t) t = (tbl f SS t).eraseIdx p := by
  have hm := h.mono (t + 1) 10 (by omega) (by omega)
  unfold tbl
  rw [show decB SS t (t + 1) - decB SS t t = SS (t + 1) - SS t - 1 by unfold decB; rw [if_pos (by omega), if_neg (by omega)]; omega, show decB SS t t = SS t by unfold decB; rw [if_neg (by omega)]]
  refine rws_rem hp (fun j hj => ?_)
  rw [row_rem (by omega) (by omega)]
  by_cases h2 : j < p
  · rw [if_pos (by omega), if_pos h2]
  · rw [if_neg (by omega), if_neg h2, show SS t + j + 1 = SS t + (j + 1) by omega]
theorem tbl_remO {s f : Nat → Int32} {SS : Nat → Nat} {t t' p : Nat} (h : pS s SS) (ht : t < 10) (ht' : t' < 10) (hne : t' ≠ t) (hp : p < SS (t + 1) - SS t) : tbl (va_cpy f f ((SS t + p + 1) * 6) ((SS t + p + 1) * 6 - 6) (SS 10 * 6 - (SS t + p + 1) * 6)) (decB SS t) t' = tbl f SS t' := by
  have hm := h.mono (t + 1) 10 (by omega) (by omega)
  have h4 := h.2.1 t' ht'
  have h5 := h.mono (t' + 1) 10 (by omega) (by omega)
  unfold tbl
  rcases Nat.lt_or_ge t' t with hlt | hge
  · have hm2 := h.mono (t' + 1) t (by omega) (by omega)
    rw [show decB SS t (t' + 1) = SS (t' + 1) by unfold decB; rw [if_neg (by omega)], show decB SS t t' = SS t' by unfold decB; rw [if_neg (by omega)]]
    refine rws_eq (fun j hj => ?_)
    rw [row_rem (by omega) (by omega), if_pos (by omega)]
  · have hm2 := h.mono (t + 1) t' (by omega) (by omega)
    rw [show decB SS t (t' + 1) = SS (t' + 1) - 1 by unfold decB; rw [if_pos (by omega)], show decB SS t t' = SS t' - 1 by unfold decB; rw [if_pos (by omega)], show SS (t' + 1) - 1 - (SS t' - 1) = SS (t' + 1) - SS t' by omega]
    refine rws_eq (fun j hj => ?_)
    rw [row_rem (by omega) (by omega), if_neg (by omega), show SS t' - 1 + j + 1 = SS t' + j by omega]
def mix (r g : Nat → Int32) : Nat → Int32 := fun c => if c < 6 then r c else g c
theorem mix_eq {f g1 g : Nat → Int32} {o : Nat} (h : rdE (-1) g1 g) : va_cpy f g1 o 0 6 = mix (row6 f o) g := by
  funext c
  unfold mix row6
  by_cases hc : c < 6
  · rw [if_pos hc, if_pos hc, pk_cpy_in (by omega) (by omega)]; congr 1
  · rw [if_neg hc, pk_cpy_out (Or.inr (by omega))]; exact h c (by omega) (Or.inr (Or.inr rfl))
theorem del_split {α : Type} {L : List α} {k : Nat} {r : α} (hr : L[k]? = some r) : L.take (k + 1) = L.take k ++ [r] ∧ L.drop k = r :: L.drop (k + 1) := by
  obtain ⟨hk, he⟩ := List.getElem?_eq_some_iff.mp hr
  constructor
  · rw [List.take_succ, hr]; rfl
  · rw [List.drop_eq_getElem_cons hk, he]
theorem del_keep {α : Type} {q : α → Bool} {L : List α} {k : Nat} {r : α} (hr : L[k]? = some r) (hq : q r = true) : L.take (k + 1) ++ (L.drop (k + 1)).filter q = L.take k ++ (L.drop k).filter q := by
  rw [(del_split hr).1, (del_split hr).2, List.filter_cons_of_pos hq, List.append_assoc]; rfl
theorem del_rem {α : Type} {q : α → Bool} {L : List α} {k : Nat} {r : α} (hr : L[k]? = some r) (hq : q r = false) : (L.take (k + 1) ++ (L.drop (k + 1)).filter q).eraseIdx k = L.take k ++ (L.drop k).filter q := by
  obtain ⟨hk, -⟩ := List.getElem?_eq_some_iff.mp hr
  have hl : (L.take k).length = k := by rw [List.length_take]; omega
  rw [(del_split hr).1, (del_split hr).2, List.filter_cons_of_neg (by rw [hq]; decide), List.append_assoc, List.eraseIdx_append_of_length_le (by omega), hl, Nat.sub_self]
  rfl
theorem del_row {f : Nat → Int32} {SS : Nat → Nat} {t k : Nat} {L X : List (Nat → Int32)} (h : tbl f SS t = L.take (k + 1) ++ X) (hk : k < L.length) : k < SS (t + 1) - SS t ∧ L[k]? = some (row6 f ((SS t + k) * 6)) := by
  have hl : k < (tbl f SS t).length := by rw [h, List.length_append, List.length_take]; omega
  have h1 : (tbl f SS t)[k]? = L[k]? := by
    rw [h, List.getElem?_append_left (by rw [List.length_take]; omega), List.getElem?_take_of_lt (by omega)]
  rw [tbl_len] at hl
  refine ⟨hl, h1.symm.trans ?_⟩
  unfold tbl
  rw [rws_get, if_pos hl]
end
section
/-! CursorBase$Run -/
set_option maxRecDepth 20000 in
set_option maxHeartbeats 1000000 in
theorem m_Ru_begin {V : xV} {h : xH} {U rd : Nat} {gv on en fp sp : Int32} {tt : Int64} {st : Value} (fU : h U = some (oRu st gv on en fp sp tt rd)) (a : Nat) : xM V y_Ru_begin b_Ru_begin 2 none 0 [.ref U, .ref a] h 0 0 (fun v h' => v = none ∧ h' U = some (oRu (.ref a) 0 0 0 0 0 tt rd) ∧ xKeep [U] h h') := by
  refine xM_of false (by decide) (fun h => nomatch h) (Nat.le_of_ble_eq_true rfl) (fun K C => ?_)
  show K 0 0 h 0 [(0, .ref U), (1, .ref a)] []
  have kp : xKeep [U] h h := xKeep.rf
  refine x_aload_n C d_Ru_begin_0 rfl rfl ?_
  refine x_aload_n C d_Ru_begin_1 rfl rfl ?_
  refine x_put (fs' := [_, _, _, _, _, _, _, _]) C k_Ru f_Ru_15 d_Ru_begin_2 fU (by rfl) (by rfl) (by rfl) (Nat.le_of_ble_eq_true rfl) (by rfl) (fun h1 u1 => ?_)
  have fU := xUp_at u1
  have kp := kp.up u1 (by simp)
  refine x_aload_n C d_Ru_begin_5 rfl rfl ?_
  refine x_iconst (v := 0) C d_Ru_begin_6 (by decide) ?_
  refine x_put (fs' := [_, _, _, _, _, _, _, _]) C k_Ru f_Ru_19 d_Ru_begin_7 fU (by rfl) (by rfl) (by rfl) (Nat.le_of_ble_eq_true rfl) (by rfl) (fun h2 u2 => ?_)
  have fU := xUp_at u2
  have kp := kp.up u2 (by simp)
  refine x_aload_n C d_Ru_begin_10 rfl rfl ?_
  refine x_iconst (v := 0) C d_Ru_begin_11 (by decide) ?_
  refine x_put (fs' := [_, _, _, _, _, _, _, _]) C k_Ru f_Ru_23 d_Ru_begin_12 fU (by rfl) (by rfl) (by rfl) (Nat.le_of_ble_eq_true rfl) (by rfl) (fun h3 u3 => ?_)
  have fU := xUp_at u3
  have kp := kp.up u3 (by simp)
  refine x_aload_n C d_Ru_begin_15 rfl rfl ?_
  refine x_iconst (v := 0) C d_Ru_begin_16 (by decide) ?_
  refine x_put (fs' := [_, _, _, _, _, _, _, _]) C k_Ru f_Ru_27 d_Ru_begin_17 fU (by rfl) (by rfl) (by rfl) (Nat.le_of_ble_eq_true rfl) (by rfl) (fun h4 u4 => ?_)
  have fU := xUp_at u4
  have kp := kp.up u4 (by simp)
  refine x_aload_n C d_Ru_begin_20 rfl rfl ?_
  refine x_iconst (v := 0) C d_Ru_begin_21 (by decide) ?_
  refine x_put (fs' := [_, _, _, _, _, _, _, _]) C k_Ru f_Ru_30 d_Ru_begin_22 fU (by rfl) (by rfl) (by rfl) (Nat.le_of_ble_eq_true rfl) (by rfl) (fun h5 u5 => ?_)
  have fU := xUp_at u5
  have kp := kp.up u5 (by simp)
  refine x_aload_n C d_Ru_begin_25 rfl rfl ?_
  refine x_iconst (v := 0) C d_Ru_begin_26 (by decide) ?_
  refine x_put (fs' := [_, _, _, _, _, _, _, _]) C k_Ru f_Ru_33 d_Ru_begin_27 fU (by rfl) (by rfl) (by rfl) (Nat.le_of_ble_eq_true rfl) (by rfl) (fun h6 u6 => ?_)
  have fU := xUp_at u6
  have kp := kp.up u6 (by simp)
  refine x_vret C d_Ru_begin_30 ?_
  exact ⟨rfl, fU, kp⟩
set_option maxRecDepth 20000 in
set_option maxHeartbeats 1000000 in
theorem m_Ru_beginN {V : xV} {h : xH} {U rd : Nat} {gv on en fp sp : Int32} {tt : Int64} {st : Value} (fU : h U = some (oRu st gv on en fp sp tt rd)) : xM V y_Ru_begin b_Ru_begin 2 none 0 [.ref U, .null] h 0 0 (fun v h' => v = none ∧ h' U = some (oRu .null 0 0 0 0 0 tt rd) ∧ xKeep [U] h h') := by
  refine xM_of false (by decide) (fun h => nomatch h) (Nat.le_of_ble_eq_true rfl) (fun K C => ?_)
  show K 0 0 h 0 [(0, .ref U), (1, .null)] []
  have kp : xKeep [U] h h := xKeep.rf
  refine x_aload_n C d_Ru_begin_0 rfl rfl ?_
  refine x_aload_nN C d_Ru_begin_1 rfl rfl ?_
  refine x_put (fs' := [_, _, _, _, _, _, _, _]) C k_Ru f_Ru_15 d_Ru_begin_2 fU (by rfl) (by rfl) (by rfl) (Nat.le_of_ble_eq_true rfl) (by rfl) (fun h1 u1 => ?_)
  have fU := xUp_at u1
  have kp := kp.up u1 (by simp)
  refine x_aload_n C d_Ru_begin_5 rfl rfl ?_
  refine x_iconst (v := 0) C d_Ru_begin_6 (by decide) ?_
  refine x_put (fs' := [_, _, _, _, _, _, _, _]) C k_Ru f_Ru_19 d_Ru_begin_7 fU (by rfl) (by rfl) (by rfl) (Nat.le_of_ble_eq_true rfl) (by rfl) (fun h2 u2 => ?_)
  have fU := xUp_at u2
  have kp := kp.up u2 (by simp)
  refine x_aload_n C d_Ru_begin_10 rfl rfl ?_
  refine x_iconst (v := 0) C d_Ru_begin_11 (by decide) ?_
  refine x_put (fs' := [_, _, _, _, _, _, _, _]) C k_Ru f_Ru_23 d_Ru_begin_12 fU (by rfl) (by rfl) (by rfl) (Nat.le_of_ble_eq_true rfl) (by rfl) (fun h3 u3 => ?_)
  have fU := xUp_at u3
  have kp := kp.up u3 (by simp)
  refine x_aload_n C d_Ru_begin_15 rfl rfl ?_
  refine x_iconst (v := 0) C d_Ru_begin_16 (by decide) ?_
  refine x_put (fs' := [_, _, _, _, _, _, _, _]) C k_Ru f_Ru_27 d_Ru_begin_17 fU (by rfl) (by rfl) (by rfl) (Nat.le_of_ble_eq_true rfl) (by rfl) (fun h4 u4 => ?_)
  have fU := xUp_at u4
  have kp := kp.up u4 (by simp)
  refine x_aload_n C d_Ru_begin_20 rfl rfl ?_
  refine x_iconst (v := 0) C d_Ru_begin_21 (by decide) ?_
  refine x_put (fs' := [_, _, _, _, _, _, _, _]) C k_Ru f_Ru_30 d_Ru_begin_22 fU (by rfl) (by rfl) (by rfl) (Nat.le_of_ble_eq_true rfl) (by rfl) (fun h5 u5 => ?_)
  have fU := xUp_at u5
  have kp := kp.up u5 (by simp)
  refine x_aload_n C d_Ru_begin_25 rfl rfl ?_
  refine x_iconst (v := 0) C d_Ru_begin_26 (by decide) ?_
  refine x_put (fs' := [_, _, _, _, _, _, _, _]) C k_Ru f_Ru_33 d_Ru_begin_27 fU (by rfl) (by rfl) (by rfl) (Nat.le_of_ble_eq_true rfl) (by rfl) (fun h6 u6 => ?_)
  have fU := xUp_at u6
  have kp := kp.up u6 (by simp)
  refine x_vret C d_Ru_begin_30 ?_
  exact ⟨rfl, fU, kp⟩
set_option maxRecDepth 20000 in
set_option maxHeartbeats 1000000 in
theorem m_Ru_note {V : xV} {h : xH} {U rd : Nat} {gv on en fp sp : Int32} {tt : Int64} {st : Value} (fU : h U = some (oRu st gv on en fp sp tt rd)) (an : Int32) : xM V y_Ru_note b_Ru_note 2 none 0 [.ref U, .int an] h 0 0 (fun v h' => v = none ∧ h' U = some (oRu st (if an = 1 then gv + 1 else gv) (bI (decide (an = 1))) (bI (!decide (an = 1))) fp sp tt rd) ∧ xKeep [U] h h') := by
  refine xM_of false (by decide) (fun h => nomatch h) (Nat.le_of_ble_eq_true rfl) (fun K C => ?_)
  show K 0 0 h 0 [(0, .ref U), (1, .int an)] []
  have kp : xKeep [U] h h := xKeep.rf
  refine x_aload_n C d_Ru_note_0 rfl rfl ?_
  refine x_iload_n C d_Ru_note_1 rfl rfl ?_
  refine x_iconst (v := 1) C d_Ru_note_2 (by decide) ?_
  refine x_icmp_ne (tgt := 10) C d_Ru_note_3 rfl (fun q3 => ?_) (fun q3 => ?_)
  · skip
    refine x_iconst (v := 0) C d_Ru_note_10 (by decide) ?_
    refine x_put (fs' := [_, _, _, _, _, _, _, _]) C k_Ru f_Ru_23 d_Ru_note_11 fU (by rfl) (by rfl) (by rfl) (Nat.le_of_ble_eq_true rfl) (by rfl) (fun h1 u1 => ?_)
    have fU := xUp_at u1
    have kp := kp.up u1 (by simp)
    refine x_aload_n C d_Ru_note_14 rfl rfl ?_
    refine x_aload_n C d_Ru_note_15 rfl rfl ?_
    refine x_get C k_Ru f_Ru_23 d_Ru_note_16 fU (by rfl) ?_
    refine x_if_ne (tgt := 26) C d_Ru_note_19 rfl (fun q19 => ?_) (fun q19 => ?_)
    · skip
      exact absurd q19 (by decide)
    · skip
      refine x_iconst (v := 1) C d_Ru_note_22 (by decide) ?_
      refine x_goto (tgt := 27) C d_Ru_note_23 rfl ?_
      refine x_put (fs' := [_, _, _, _, _, _, _, _]) C k_Ru f_Ru_27 d_Ru_note_27 fU (by rfl) (by rfl) (by rfl) (Nat.le_of_ble_eq_true rfl) (by rfl) (fun h2 u2 => ?_)
      have fU := xUp_at u2
      have kp := kp.up u2 (by simp)
      refine x_aload_n C d_Ru_note_30 rfl rfl ?_
      refine x_get C k_Ru f_Ru_23 d_Ru_note_31 fU (by rfl) ?_
      refine x_if_eq (tgt := 47) C d_Ru_note_34 rfl (fun q34 => ?_) (fun q34 => ?_)
      · skip
        refine x_vret C d_Ru_note_47 ?_
        first | exact absurd q19 (by decide) | exact absurd rfl q19 | exact absurd q34 (by decide) | exact absurd rfl q34 | (refine ⟨rfl, ?_, kp⟩; rw [fU]; first | (rw [if_pos q3, decide_eq_true q3]; rfl) | (rw [if_neg q3, decide_eq_false q3]; rfl))
      · skip
        exact absurd q34 (by decide)
  · skip
    refine x_iconst (v := 1) C d_Ru_note_6 (by decide) ?_
    refine x_goto (tgt := 11) C d_Ru_note_7 rfl ?_
    refine x_put (fs' := [_, _, _, _, _, _, _, _]) C k_Ru f_Ru_23 d_Ru_note_11 fU (by rfl) (by rfl) (by rfl) (Nat.le_of_ble_eq_true rfl) (by rfl) (fun h3 u3 => ?_)
    have fU := xUp_at u3
    have kp := kp.up u3 (by simp)
    refine x_aload_n C d_Ru_note_14 rfl rfl ?_
    refine x_aload_n C d_Ru_note_15 rfl rfl ?_
    refine x_get C k_Ru f_Ru_23 d_Ru_note_16 fU (by rfl) ?_
    refine x_if_ne (tgt := 26) C d_Ru_note_19 rfl (fun q19 => ?_) (fun q19 => ?_)
    · skip
      refine x_iconst (v := 0) C d_Ru_note_26 (by decide) ?_
      refine x_put (fs' := [_, _, _, _, _, _, _, _]) C k_Ru f_Ru_27 d_Ru_note_27 fU (by rfl) (by rfl) (by rfl) (Nat.le_of_ble_eq_true rfl) (by rfl) (fun h4 u4 => ?_)
      have fU := xUp_at u4
      have kp := kp.up u4 (by simp)
      refine x_aload_n C d_Ru_note_30 rfl rfl ?_
      refine x_get C k_Ru f_Ru_23 d_Ru_note_31 fU (by rfl) ?_
      refine x_if_eq (tgt := 47) C d_Ru_note_34 rfl (fun q34 => ?_) (fun q34 => ?_)
      · skip
        exact absurd q34 (by decide)
      · skip
        refine x_aload_n C d_Ru_note_37 rfl rfl ?_
        refine x_dup C d_Ru_note_38 rfl ?_
        refine x_get C k_Ru f_Ru_19 d_Ru_note_39 fU (by rfl) ?_
        refine x_iconst (v := 1) C d_Ru_note_42 (by decide) ?_
        refine x_iadd C d_Ru_note_43 ?_
        refine x_put (fs' := [_, _, _, _, _, _, _, _]) C k_Ru f_Ru_19 d_Ru_note_44 fU (by rfl) (by rfl) (by rfl) (Nat.le_of_ble_eq_true rfl) (by rfl) (fun h5 u5 => ?_)
        have fU := xUp_at u5
        have kp := kp.up u5 (by simp)
        refine x_vret C d_Ru_note_47 ?_
        first | exact absurd q19 (by decide) | exact absurd rfl q19 | exact absurd q34 (by decide) | exact absurd rfl q34 | (refine ⟨rfl, ?_, kp⟩; rw [fU]; first | (rw [if_pos q3, decide_eq_true q3]; rfl) | (rw [if_neg q3, decide_eq_false q3]; rfl))
    · skip
      exact absurd q19 (by decide)
set_option maxRecDepth 20000 in
set_option maxHeartbeats 1000000 in
theorem m_Ru_init {V : xV} {h : xH} {U : Nat} (fU : h U = some (.inr (3, [.null, .int 0, .int 0, .int 0, .int 0, .int 0, .long 0, .null]))) : xM V y_Ru_init b_Ru_init 1 none 1 [.ref U] h 1 16 (fun v h' => v = none ∧ ∃ rd, h' U = some (oRu .null 0 0 0 0 0 0 rd) ∧ h' rd = some (xI V 16 (fun _ => 0)) ∧ h rd = none ∧ xKeep [U] h h') := by
  refine xM_of true (by decide) (fun _ => rfl) (Nat.le_of_ble_eq_true rfl) (fun K C => ?_)
  show K 1 16 h 0 [(0, .ref U)] []
  have kp : xKeep [U] h h := xKeep.rf
  refine x_aload_n C d_Ru_init_0 rfl rfl ?_
  refine x_objInit C ⟨l_Ru_3, oi_i, oi_c⟩ (by decide) (Nat.le_of_ble_eq_true rfl) d_Ru_init_1 ?_
  refine x_aload_n C d_Ru_init_4 rfl rfl ?_
  refine x_bipush (v := 16) C d_Ru_init_5 (by decide) ?_
  refine x_newI (N := 16) C ac_int d_Ru_init_7 (by decide) (by decide) (by decide) (fun rd h1 n1 u1 => ?_)
  have x1_U := x_nn fU n1
  have fU := xUp_new u1 n1 fU
  have z_rd := kp.isn n1 (by simp only [List.mem_cons, List.not_mem_nil, or_false, not_or]; exact Ne.symm x1_U)
  have kp := kp.upN u1 z_rd
  have f_rd := xUp_at u1
  refine x_putF (fs' := [_, _, _, _, _, _, _, _]) C k_Ru g_Ru_9 d_Ru_init_9 fU (by rfl) (by rfl) (by rfl) (Nat.le_of_ble_eq_true rfl) (by rfl) (fun h2 u2 => ?_)
  have f_rd := xUp_ne u2 f_rd (by first | assumption | exact Ne.symm (by assumption) | exact x_ne f_rd fU (by simp))
  have fU := xUp_at u2
  have kp := kp.up u2 (by simp)
  refine x_vret C d_Ru_init_12 ?_
  exact ⟨rfl, rd, fU, f_rd, z_rd, kp⟩
set_option maxRecDepth 20000 in
set_option maxHeartbeats 1000000 in
theorem m_Ru_place {V : xV} {h : xH} {U rd : Nat} {gv on en fp sp : Int32} {tt : Int64} {S nb pk cd : Nat} {vb ls fi se fa nc np kc : Int32} (fS : h S = some (oSt vb ls fi se fa nc nb np pk kc cd)) (fU : h U = some (oRu (.ref S) gv on en fp sp tt rd)) {n i : Nat} (hi : i < n) : xM V y_Ru_place b_Ru_place 3 (some .int) 0 [.ref U, .int (nI i), .int (nI n)] h 0 0 (fun v h' => h' = h ∧ v = some (.int (nI (plc fa n i)))) := by
  refine xM_of false (by decide) (fun h => nomatch h) (Nat.le_of_ble_eq_true rfl) (fun K C => ?_)
  show K 0 0 h 0 [(0, .ref U), (1, .int (nI i)), (2, .int (nI n))] []
  refine x_aload_n C d_Ru_place_0 rfl rfl ?_
  refine x_get C k_Ru f_Ru_15 d_Ru_place_1 fU (by rfl) ?_
  refine x_get C k_St f_Ru_119 d_Ru_place_4 fS (by rfl) ?_
  refine x_if_eq (tgt := 18) C d_Ru_place_7 rfl (fun q7 => ?_) (fun q7 => ?_)
  · skip
    refine x_iload_n C d_Ru_place_18 rfl rfl ?_
    refine x_iret C d_Ru_place_19 ?_
    refine ⟨rfl, ?_⟩
    unfold plc
    first | (rw [if_pos q7]; done) | (rw [if_neg q7, show nI n - 1 = nI (n - 1) from pk_sub (b := 1) (by omega), pk_sub (by omega)]; done)
  · skip
    refine x_iload_n C d_Ru_place_10 rfl rfl ?_
    refine x_iconst (v := 1) C d_Ru_place_11 (by decide) ?_
    refine x_isub C d_Ru_place_12 ?_
    refine x_iload_n C d_Ru_place_13 rfl rfl ?_
    refine x_isub C d_Ru_place_14 ?_
    refine x_goto (tgt := 19) C d_Ru_place_15 rfl ?_
    refine x_iret C d_Ru_place_19 ?_
    refine ⟨rfl, ?_⟩
    unfold plc
    first | (rw [if_pos q7]; done) | (rw [if_neg q7, show nI n - 1 = nI (n - 1) from pk_sub (b := 1) (by omega), pk_sub (by omega)]; done)
set_option maxRecDepth 20000 in
set_option maxHeartbeats 1000000 in
theorem m_Ru_findRow {V : xV} {h : xH} {U rd S nb pk cd B ce co sr : Nat} {vb ls se fa nc : Int32} {np kc t1 t2 n2 : Nat} {f c s g : Nat → Int32} {po cp : Nat → Option Nat} {pick : Nat → Int32} {cf : Nat → tCd} {SS : Nat → Nat} (fS : h S = some (oSt vb ls (nI t1) se fa nc nb (nI np) pk (nI kc) cd)) (fpk : h pk = some (xR V 2 12 po)) (fcd : h cd = some (xR V 3 8 cp)) (hnp : np ≤ 12) (hkc : kc ≤ 8) (pO : pOps h po np pick) (pC : pCds h cp kc cf) (pT : pTa V h B ce co sr f c s) (hS : pS s SS) (ht1 : t1 < 10) (h2 : (se = -1 ∧ n2 = 1) ∨ (se = nI t2 ∧ t2 < 10 ∧ n2 = SS (t2 + 1) - SS t2)) (frd : h rd = some (xI V 16 g)) (hin : ∀ j, j < kc → cdIn (cf j)) {gv on en : Int32} {tt : Int64} {i j : Nat} (fU : h U = some (oRu (.ref S) gv on en (nI i) (nI j) tt rd)) (hi : i ≤ (SS (t1 + 1) - SS t1)) (hj : j ≤ n2) : xM V y_Ru_findRow b_Ru_findRow 4 (some .boolean) 4 [.ref U, .ref B] h 0 0 (fun v h' => ∃ g', xKeep [U, rd] h h' ∧ h' rd = some (xI V 16 g') ∧ rdE se g' g ∧ ((v = some (.int 0) ∧ bad (fun a b => cdsVal kc cf (rdF f g ((SS t1 + plc fa (SS (t1 + 1) - SS t1) a) * 6) (sec se fa (SS t2) n2 b))) (SS (t1 + 1) - SS t1) n2 i j (SS (t1 + 1) - SS t1) 0 ∧ ∃ i' j', i' ≤ (SS (t1 + 1) - SS t1) ∧ j' ≤ n2 ∧ h' U = some (oRu (.ref S) gv on en (nI i') (nI j') tt rd)) ∨ (v = some (.int 1) ∧ ∃ i' j', i' < (SS (t1 + 1) - SS t1) ∧ j' < n2 ∧ bhd i j i' j' ∧ bad (fun a b => cdsVal kc cf (rdF f g ((SS t1 + plc fa (SS (t1 + 1) - SS t1) a) * 6) (sec se fa (SS t2) n2 b))) (SS (t1 + 1) - SS t1) n2 i j i' j' ∧ (fun a b => cdsVal kc cf (rdF f g ((SS t1 + plc fa (SS (t1 + 1) - SS t1) a) * 6) (sec se fa (SS t2) n2 b))) i' j' = true ∧ g' = rdF f g ((SS t1 + plc fa (SS (t1 + 1) - SS t1) i') * 6) (sec se fa (SS t2) n2 j') ∧ h' U = some (oRu (.ref S) gv on en (nI i') (nI (j' + 1)) tt rd)))) := by
  refine xM_of false (by decide) (fun h => nomatch h) (Nat.le_of_ble_eq_true rfl) (fun K C => ?_)
  show K 0 0 h 0 [(0, .ref U), (1, .ref B)] []
  have kp : xKeep [U, rd] h h := xKeep.rf
  obtain ⟨fB, fce, fco, fsr⟩ := pT
  have fU0 := fU
  have frd0 := frd
  have n_S : S ∉ [U, rd] := nm_c (x_ne fS fU (by simp)) (nm_c (x_ne fS frd (by simp)) nm_n)
  have n_pk : pk ∉ [U, rd] := nm_c (x_ne fpk fU (by simp)) (nm_c (x_ne fpk frd (by simp)) nm_n)
  have n_cd : cd ∉ [U, rd] := nm_c (x_ne fcd fU (by simp)) (nm_c (x_ne fcd frd (by simp)) nm_n)
  have n_B : B ∉ [U, rd] := nm_c (x_ne fB fU (by simp)) (nm_c (x_ne fB frd (by simp)) nm_n)
  have n_ce : ce ∉ [U, rd] := nm_c (x_ne fce fU (by simp)) (nm_c (x_ne fce frd (by simp)) nm_n)
  have n_co : co ∉ [U, rd] := nm_c (x_ne fco fU (by simp)) (nm_c (x_ne fco frd (by simp)) nm_n)
  have n_sr : sr ∉ [U, rd] := nm_c (x_ne fsr fU (by simp)) (nm_c (x_ne fsr frd (by simp)) nm_n)
  have hs1 := hS.1 t1 (by omega)
  have hl1 := hS.le (t1 + 1) (by omega)
  have hm1 := hS.2.1 t1 ht1
  have fSo := fS
  have fpko := fpk
  have fcdo := fcd
  have fBo := fB
  have fceo := fce
  have fcoo := fco
  have fsro := fsr
  have pOo := pO
  have pCo := pC
  have hn2 : n2 ≤ 400 := by rcases h2 with z | z; omega; have := hS.le (t2 + 1) (by omega); omega
  have loop : ∀ m : Nat, ∀ (i1 j1 : Nat) (h1 : xH) (g1 : Nat → Int32), (SS (t1 + 1) - SS t1) - i1 < m → i1 ≤ (SS (t1 + 1) - SS t1) → j1 ≤ n2 → bhd i j i1 j1 → bad (fun a b => cdsVal kc cf (rdF f g ((SS t1 + plc fa (SS (t1 + 1) - SS t1) a) * 6) (sec se fa (SS t2) n2 b))) (SS (t1 + 1) - SS t1) n2 i j i1 j1 → h1 U = some (oRu (.ref S) gv on en (nI i1) (nI j1) tt rd) → h1 rd = some (xI V 16 g1) → rdE se g1 g → xKeep [U, rd] h h1 → K 0 0 h1 39 [(3, .int (nI n2)), (2, .int (nI (SS (t1 + 1) - SS t1))), (0, .ref U), (1, .ref B)] [] := by
    intro m
    induction m with
    | zero => intro i1 j1 h1 g1 hm hi1 hj1 hbh hbad fU frd hE kp; omega
    | succ m ih =>
      intro i1 j1 h1 g1 hm hi1 hj1 hbh hbad fU frd hE kp
      have fS := kp.get fS n_S
      have fpk := kp.get fpk n_pk
      have fcd := kp.get fcd n_cd
      have fB := kp.get fB n_B
      have fce := kp.get fce n_ce
      have fco := kp.get fco n_co
      have fsr := kp.get fsr n_sr
      have pO := pO.keepC kp (no_c fU0 rfl (no_c frd0 rfl no_n))
      have pC := pC.keepC kp (no_c fU0 rfl (no_c frd0 rfl no_n))
      have inner : ∀ m2 : Nat, ∀ (j1 : Nat) (h1 : xH) (g1 : Nat → Int32), n2 - j1 < m2 → i1 < (SS (t1 + 1) - SS t1) → j1 ≤ n2 → bhd i j i1 j1 → bad (fun a b => cdsVal kc cf (rdF f g ((SS t1 + plc fa (SS (t1 + 1) - SS t1) a) * 6) (sec se fa (SS t2) n2 b))) (SS (t1 + 1) - SS t1) n2 i j i1 j1 → h1 U = some (oRu (.ref S) gv on en (nI i1) (nI j1) tt rd) → h1 rd = some (xI V 16 g1) → rdE se g1 g → (∀ c, c < 6 → g1 c = f (((SS t1 + plc fa (SS (t1 + 1) - SS t1) i1) * 6) + c)) → (se = -1 → g1 = rdF f g ((SS t1 + plc fa (SS (t1 + 1) - SS t1) i1) * 6) none) → xKeep [U, rd] h h1 → K 0 0 h1 72 [(3, .int (nI n2)), (2, .int (nI (SS (t1 + 1) - SS t1))), (0, .ref U), (1, .ref B)] [] := by
        intro m2
        induction m2 with
        | zero => intro j1 h1 g1 hm2 hi2 hj1 hbh hbad fU frd hE h6 hg1 kp; omega
        | succ m2 ih2 =>
          intro j1 h1 g1 hm2 hi2 hj1 hbh hbad fU frd hE h6 hg1 kp
          have fS := fSo
          have fpk := fpko
          have fcd := fcdo
          have fB := fBo
          have fce := fceo
          have fco := fcoo
          have fsr := fsro
          have pO := pOo
          have pC := pCo
          have fS := kp.get fS n_S
          have fpk := kp.get fpk n_pk
          have fcd := kp.get fcd n_cd
          have fB := kp.get fB n_B
          have fce := kp.get fce n_ce
          have fco := kp.get fco n_co
          have fsr := kp.get fsr n_sr
          have pO := pO.keepC kp (no_c fU0 rfl (no_c frd0 rfl no_n))
          have pC := pC.keepC kp (no_c fU0 rfl (no_c frd0 rfl no_n))
          refine x_aload_n C d_Ru_findRow_72 rfl rfl ?_
          refine x_get C k_Ru f_Ru_33 d_Ru_findRow_73 fU (by rfl) ?_
          refine x_iload_n C d_Ru_findRow_76 rfl rfl ?_
          refine x_icmp_ge (tgt := 143) C d_Ru_findRow_77 rfl (fun q77 => ?_) (fun q77 => ?_)
          · skip
            have hj2 := nge_of q77 (by omega)
            refine x_aload_n C d_Ru_findRow_143 rfl rfl ?_
            refine x_iconst (v := 0) C d_Ru_findRow_144 (by decide) ?_
            refine x_put (fs' := [_, _, _, _, _, _, _, _]) C k_Ru f_Ru_33 d_Ru_findRow_145 fU (by rfl) (by rfl) (by rfl) (Nat.le_of_ble_eq_true rfl) (by rfl) (fun h1 u1 => ?_)
            have pO := pO.keepU u1 fU rfl
            have pC := pC.keepU u1 fU rfl
            have frd := xUp_ne u1 frd (by first | assumption | exact Ne.symm (by assumption) | exact x_ne frd fU (by simp))
            have fS := xUp_ne u1 fS (by first | assumption | exact Ne.symm (by assumption) | exact x_ne fS fU (by simp))
            have fpk := xUp_ne u1 fpk (by first | assumption | exact Ne.symm (by assumption) | exact x_ne fpk fU (by simp))
            have fcd := xUp_ne u1 fcd (by first | assumption | exact Ne.symm (by assumption) | exact x_ne fcd fU (by simp))
            have fB := xUp_ne u1 fB (by first | assumption | exact Ne.symm (by assumption) | exact x_ne fB fU (by simp))
            have fce := xUp_ne u1 fce (by first | assumption | exact Ne.symm (by assumption) | exact x_ne fce fU (by simp))
            have fco := xUp_ne u1 fco (by first | assumption | exact Ne.symm (by assumption) | exact x_ne fco fU (by simp))
            have fsr := xUp_ne u1 fsr (by first | assumption | exact Ne.symm (by assumption) | exact x_ne fsr fU (by simp))
            have fU := xUp_at u1
            have kp := kp.up u1 (by simp)
            refine x_aload_n C d_Ru_findRow_148 rfl rfl ?_
            refine x_dup C d_Ru_findRow_149 rfl ?_
            refine x_get C k_Ru f_Ru_30 d_Ru_findRow_150 fU (by rfl) ?_
            refine x_iconst (v := 1) C d_Ru_findRow_153 (by decide) ?_
            refine x_iadd C d_Ru_findRow_154 ?_
            refine x_put (fs' := [_, _, _, _, _, _, _, _]) C k_Ru f_Ru_30 d_Ru_findRow_155 fU (by rfl) (by rfl) (by rfl) (Nat.le_of_ble_eq_true rfl) (by rfl) (fun h2 u2 => ?_)
            have pO := pO.keepU u2 fU rfl
            have pC := pC.keepU u2 fU rfl
            have frd := xUp_ne u2 frd (by first | assumption | exact Ne.symm (by assumption) | exact x_ne frd fU (by simp))
            have fS := xUp_ne u2 fS (by first | assumption | exact Ne.symm (by assumption) | exact x_ne fS fU (by simp))
            have fpk := xUp_ne u2 fpk (by first | assumption | exact Ne.symm (by assumption) | exact x_ne fpk fU (by simp))
            have fcd := xUp_ne u2 fcd (by first | assumption | exact Ne.symm (by assumption) | exact x_ne fcd fU (by simp))
            have fB := xUp_ne u2 fB (by first | assumption | exact Ne.symm (by assumption) | exact x_ne fB fU (by simp))
            have fce := xUp_ne u2 fce (by first | assumption | exact Ne.symm (by assumption) | exact x_ne fce fU (by simp))
            have fco := xUp_ne u2 fco (by first | assumption | exact Ne.symm (by assumption) | exact x_ne fco fU (by simp))
            have fsr := xUp_ne u2 fsr (by first | assumption | exact Ne.symm (by assumption) | exact x_ne fsr fU (by simp))
            have fU := xUp_at u2
            have kp := kp.up u2 (by simp)
            refine x_goto (tgt := 39) C d_Ru_findRow_158 rfl ?_
            exact ih (i1 + 1) 0 _ _ (by omega) (by omega) (by omega) (by unfold bhd at hbh ⊢; omega) (hbad.line hj2) (by rw [fU, nI_1]; rfl) frd hE kp
          · skip
            have hj2 := nlt_of q77 (by omega) (by omega)
            refine x_aload_n C d_Ru_findRow_80 rfl rfl ?_
            refine x_get C k_Ru f_Ru_15 d_Ru_findRow_81 fU (by rfl) ?_
            refine x_get C k_St f_Ru_113 d_Ru_findRow_84 fS (by rfl) ?_
            refine x_iconst (v := -1) C d_Ru_findRow_87 (by decide) ?_
            refine x_icmp_eq (tgt := 117) C d_Ru_findRow_88 rfl (fun q88 => ?_) (fun q88 => ?_)
            · skip
              have hg2 : g1 = rdF f g ((SS t1 + plc fa (SS (t1 + 1) - SS t1) i1) * 6) (sec se fa (SS t2) n2 j1) := by rw [show sec se fa (SS t2) n2 j1 = none from if_pos q88]; exact hg1 q88
              have hE2 := hE
              have h62 := h6
              refine x_aload_n C d_Ru_findRow_117 rfl rfl ?_
              refine x_dup C d_Ru_findRow_118 rfl ?_
              refine x_get C k_Ru f_Ru_33 d_Ru_findRow_119 fU (by rfl) ?_
              refine x_iconst (v := 1) C d_Ru_findRow_122 (by decide) ?_
              refine x_iadd C d_Ru_findRow_123 ?_
              refine x_put (fs' := [_, _, _, _, _, _, _, _]) C k_Ru f_Ru_33 d_Ru_findRow_124 fU (by rfl) (by rfl) (by rfl) (Nat.le_of_ble_eq_true rfl) (by rfl) (fun h3 u3 => ?_)
              have pO := pO.keepU u3 fU rfl
              have pC := pC.keepU u3 fU rfl
              have frd := xUp_ne u3 frd (by first | assumption | exact Ne.symm (by assumption) | exact x_ne frd fU (by simp))
              have fS := xUp_ne u3 fS (by first | assumption | exact Ne.symm (by assumption) | exact x_ne fS fU (by simp))
              have fpk := xUp_ne u3 fpk (by first | assumption | exact Ne.symm (by assumption) | exact x_ne fpk fU (by simp))
              have fcd := xUp_ne u3 fcd (by first | assumption | exact Ne.symm (by assumption) | exact x_ne fcd fU (by simp))
              have fB := xUp_ne u3 fB (by first | assumption | exact Ne.symm (by assumption) | exact x_ne fB fU (by simp))
              have fce := xUp_ne u3 fce (by first | assumption | exact Ne.symm (by assumption) | exact x_ne fce fU (by simp))
              have fco := xUp_ne u3 fco (by first | assumption | exact Ne.symm (by assumption) | exact x_ne fco fU (by simp))
              have fsr := xUp_ne u3 fsr (by first | assumption | exact Ne.symm (by assumption) | exact x_ne fsr fU (by simp))
              have fU := xUp_at u3
              have kp := kp.up u3 (by simp)
              refine x_aload_n C d_Ru_findRow_127 rfl rfl ?_
              refine x_get C k_Ru f_Ru_15 d_Ru_findRow_128 fU (by rfl) ?_
              refine x_aload_n C d_Ru_findRow_131 rfl rfl ?_
              refine x_get C k_Ru f_Ru_9 d_Ru_findRow_132 fU (by rfl) ?_
              refine x_callV C l_Ru_83 v_St_holds d_Ru_findRow_135 (m_St_holds fS fpk fcd hnp hkc pO pC frd hin) fS rfl (by rfl) (by rfl) (by decide) (by decide) (Nat.le_of_ble_eq_true rfl) ?_
              rintro v9 h9 ⟨rfl, rfl⟩
              rw [hg2]
              refine x_if_eq (tgt := 72) C d_Ru_findRow_138 rfl (fun q138 => ?_) (fun q138 => ?_)
              · skip
                replace q138 := bI_f q138
                exact ih2 (j1 + 1) _ _ (by omega) hi2 (by omega) (by unfold bhd at hbh ⊢; omega) (hbad.next (by first | exact q138 | (rw [← hg2]; exact q138))) (by rw [fU, nI_1]) frd hE2 h62 (fun z => by first | exact hg1 z | exact absurd z q88) kp
              · skip
                replace q138 := bI_t q138
                refine x_iconst (v := 1) C d_Ru_findRow_141 (by decide) ?_
                refine x_zret C d_Ru_findRow_142 (by rfl) ?_
                exact ⟨_, kp, frd, hE2, Or.inr ⟨rfl, i1, j1, hi2, hj2, hbh, hbad, (by first | exact q138 | (rw [← hg2]; exact q138)), hg2, by rw [fU, nI_1]⟩⟩
            · skip
              have hse : se = nI t2 ∧ t2 < 10 ∧ n2 = SS (t2 + 1) - SS t2 := by rcases h2 with z | z; exact absurd z.1 q88; exact z
              have hs2 := hS.1 t2 (by omega)
              have hpl2 := plc_lt (fa := fa) hj2
              have hl2 := hS.le (t2 + 1) (by omega)
              have hm2 := hS.2.1 t2 hse.2.1
              refine x_aload_n C d_Ru_findRow_91 rfl rfl ?_
              refine x_aload_n C d_Ru_findRow_92 rfl rfl ?_
              refine x_get C k_Ru f_Ru_15 d_Ru_findRow_93 fU (by rfl) ?_
              refine x_get C k_St f_Ru_113 d_Ru_findRow_96 fS (by rfl) ?_
              refine x_aload_n C d_Ru_findRow_99 rfl rfl ?_
              refine x_aload_n C d_Ru_findRow_100 rfl rfl ?_
              refine x_get C k_Ru f_Ru_33 d_Ru_findRow_101 fU (by rfl) ?_
              refine x_iload_n C d_Ru_findRow_104 rfl rfl ?_
              refine x_callV C l_Ru_116 v_Ru_place d_Ru_findRow_105 (m_Ru_place fS fU (n := n2) (i := j1) hj2) fU rfl (by rfl) (by rfl) (by decide) (by decide) (Nat.le_of_ble_eq_true rfl) ?_
              rintro v9 h9 ⟨rfl, rfl⟩
              refine x_aload_n C d_Ru_findRow_108 rfl rfl ?_
              refine x_get C k_Ru f_Ru_9 d_Ru_findRow_109 fU (by rfl) ?_
              refine x_bipush (v := 10) C d_Ru_findRow_112 (by decide) ?_
              rw [hse.1]
              refine x_callV C l_Ru_80 v_Ta_read d_Ru_findRow_114 (m_Ta_read ⟨fB, fce, fco, fsr⟩ (t := t2) (p := nI (plc fa n2 j1)) (a := (SS t2 + plc fa n2 j1) * 6) (by omega) (by omega) (by rw [hs2, cell_eq]) frd (b := 10) (by decide)) fB rfl (by rfl) (by rfl) (by decide) (by decide) (Nat.le_of_ble_eq_true rfl) ?_
              rintro v4 h4 ⟨rfl, u4⟩
              have pO := pO.keepU u4 frd rfl
              have pC := pC.keepU u4 frd rfl
              have fU := xUp_ne u4 fU (by first | assumption | exact Ne.symm (by assumption) | exact x_ne fU frd (by simp))
              have fS := xUp_ne u4 fS (by first | assumption | exact Ne.symm (by assumption) | exact x_ne fS frd (by simp))
              have fpk := xUp_ne u4 fpk (by first | assumption | exact Ne.symm (by assumption) | exact x_ne fpk frd (by simp))
              have fcd := xUp_ne u4 fcd (by first | assumption | exact Ne.symm (by assumption) | exact x_ne fcd frd (by simp))
              have fB := xUp_ne u4 fB (by first | assumption | exact Ne.symm (by assumption) | exact x_ne fB frd (by simp))
              have fce := xUp_ne u4 fce (by first | assumption | exact Ne.symm (by assumption) | exact x_ne fce frd (by simp))
              have fco := xUp_ne u4 fco (by first | assumption | exact Ne.symm (by assumption) | exact x_ne fco frd (by simp))
              have fsr := xUp_ne u4 fsr (by first | assumption | exact Ne.symm (by assumption) | exact x_ne fsr frd (by simp))
              have frd := xUp_at u4
              have kp := kp.up u4 (by simp)
              have hg2 := rd_two (o2 := (SS t2 + plc fa n2 j1) * 6) hE h6
              have hsec : sec se fa (SS t2) n2 j1 = some ((SS t2 + plc fa n2 j1) * 6) := if_neg q88
              rw [← hsec] at hg2
              have hE2 := hE.two (f := f) (o := (SS t2 + plc fa n2 j1) * 6) q88
              have h62 : ∀ c, c < 6 → va_cpy f g1 ((SS t2 + plc fa n2 j1) * 6) 10 6 c = f (((SS t1 + plc fa (SS (t1 + 1) - SS t1) i1) * 6) + c) := fun c hc => by rw [pk_cpy_out (Or.inl (by omega))]; exact h6 c hc
              refine x_aload_n C d_Ru_findRow_117 rfl rfl ?_
              refine x_dup C d_Ru_findRow_118 rfl ?_
              refine x_get C k_Ru f_Ru_33 d_Ru_findRow_119 fU (by rfl) ?_
              refine x_iconst (v := 1) C d_Ru_findRow_122 (by decide) ?_
              refine x_iadd C d_Ru_findRow_123 ?_
              refine x_put (fs' := [_, _, _, _, _, _, _, _]) C k_Ru f_Ru_33 d_Ru_findRow_124 fU (by rfl) (by rfl) (by rfl) (Nat.le_of_ble_eq_true rfl) (by rfl) (fun h5 u5 => ?_)
              have pO := pO.keepU u5 fU rfl
              have pC := pC.keepU u5 fU rfl
              have frd := xUp_ne u5 frd (by first | assumption | exact Ne.symm (by assumption) | exact x_ne frd fU (by simp))
              have fS := xUp_ne u5 fS (by first | assumption | exact Ne.symm (by assumption) | exact x_ne fS fU (by simp))
              have fpk := xUp_ne u5 fpk (by first | assumption | exact Ne.symm (by assumption) | exact x_ne fpk fU (by simp))
              have fcd := xUp_ne u5 fcd (by first | assumption | exact Ne.symm (by assumption) | exact x_ne fcd fU (by simp))
              have fB := xUp_ne u5 fB (by first | assumption | exact Ne.symm (by assumption) | exact x_ne fB fU (by simp))
              have fce := xUp_ne u5 fce (by first | assumption | exact Ne.symm (by assumption) | exact x_ne fce fU (by simp))
              have fco := xUp_ne u5 fco (by first | assumption | exact Ne.symm (by assumption) | exact x_ne fco fU (by simp))
              have fsr := xUp_ne u5 fsr (by first | assumption | exact Ne.symm (by assumption) | exact x_ne fsr fU (by simp))
              have fU := xUp_at u5
              have kp := kp.up u5 (by simp)
              refine x_aload_n C d_Ru_findRow_127 rfl rfl ?_
              refine x_get C k_Ru f_Ru_15 d_Ru_findRow_128 fU (by rfl) ?_
              refine x_aload_n C d_Ru_findRow_131 rfl rfl ?_
              refine x_get C k_Ru f_Ru_9 d_Ru_findRow_132 fU (by rfl) ?_
              refine x_callV C l_Ru_83 v_St_holds d_Ru_findRow_135 (m_St_holds fS fpk fcd hnp hkc pO pC frd hin) fS rfl (by rfl) (by rfl) (by decide) (by decide) (Nat.le_of_ble_eq_true rfl) ?_
              rintro v9 h9 ⟨rfl, rfl⟩
              rw [hg2]
              refine x_if_eq (tgt := 72) C d_Ru_findRow_138 rfl (fun q138 => ?_) (fun q138 => ?_)
              · skip
                replace q138 := bI_f q138
                exact ih2 (j1 + 1) _ _ (by omega) hi2 (by omega) (by unfold bhd at hbh ⊢; omega) (hbad.next (by first | exact q138 | (rw [← hg2]; exact q138))) (by rw [fU, nI_1]) frd hE2 h62 (fun z => by first | exact hg1 z | exact absurd z q88) kp
              · skip
                replace q138 := bI_t q138
                refine x_iconst (v := 1) C d_Ru_findRow_141 (by decide) ?_
                refine x_zret C d_Ru_findRow_142 (by rfl) ?_
                exact ⟨_, kp, frd, hE2, Or.inr ⟨rfl, i1, j1, hi2, hj2, hbh, hbad, (by first | exact q138 | (rw [← hg2]; exact q138)), hg2, by rw [fU, nI_1]⟩⟩
      refine x_aload_n C d_Ru_findRow_39 rfl rfl ?_
      refine x_get C k_Ru f_Ru_30 d_Ru_findRow_40 fU (by rfl) ?_
      refine x_iload_n C d_Ru_findRow_43 rfl rfl ?_
      refine x_icmp_ge (tgt := 161) C d_Ru_findRow_44 rfl (fun q44 => ?_) (fun q44 => ?_)
      · skip
        have hi2 := nge_of q44 (by omega)
        refine x_iconst (v := 0) C d_Ru_findRow_161 (by decide) ?_
        refine x_zret C d_Ru_findRow_162 (by rfl) ?_
        have hin1 : i1 = (SS (t1 + 1) - SS t1) := by omega
        exact ⟨_, kp, frd, hE, Or.inl ⟨rfl, fun a b z1 z2 z3 z4 => hbad a b z1 z2 z3 (by omega), i1, j1, hi1, hj1, fU⟩⟩
      · skip
        have hi2 := nlt_of q44 (by omega) (by omega)
        have hpl := plc_lt (fa := fa) hi2
        refine x_aload_n C d_Ru_findRow_47 rfl rfl ?_
        refine x_aload_n C d_Ru_findRow_48 rfl rfl ?_
        refine x_get C k_Ru f_Ru_15 d_Ru_findRow_49 fU (by rfl) ?_
        refine x_get C k_St f_Ru_41 d_Ru_findRow_52 fS (by rfl) ?_
        refine x_aload_n C d_Ru_findRow_55 rfl rfl ?_
        refine x_aload_n C d_Ru_findRow_56 rfl rfl ?_
        refine x_get C k_Ru f_Ru_30 d_Ru_findRow_57 fU (by rfl) ?_
        refine x_iload_n C d_Ru_findRow_60 rfl rfl ?_
        refine x_callV C l_Ru_116 v_Ru_place d_Ru_findRow_61 (m_Ru_place fS fU (n := (SS (t1 + 1) - SS t1)) (i := i1) hi2) fU rfl (by rfl) (by rfl) (by decide) (by decide) (Nat.le_of_ble_eq_true rfl) ?_
        rintro v9 h9 ⟨rfl, rfl⟩
        refine x_aload_n C d_Ru_findRow_64 rfl rfl ?_
        refine x_get C k_Ru f_Ru_9 d_Ru_findRow_65 fU (by rfl) ?_
        refine x_iconst (v := 0) C d_Ru_findRow_68 (by decide) ?_
        refine x_callV C l_Ru_80 v_Ta_read d_Ru_findRow_69 (m_Ta_read ⟨fB, fce, fco, fsr⟩ (t := t1) (p := nI (plc fa (SS (t1 + 1) - SS t1) i1)) (a := ((SS t1 + plc fa (SS (t1 + 1) - SS t1) i1) * 6)) (by omega) (by omega) (by rw [hs1, cell_eq]) frd (b := 0) (by decide)) fB rfl (by rfl) (by rfl) (by decide) (by decide) (Nat.le_of_ble_eq_true rfl) ?_
        rintro v6 h6 ⟨rfl, u6⟩
        have pO := pO.keepU u6 frd rfl
        have pC := pC.keepU u6 frd rfl
        have fU := xUp_ne u6 fU (by first | assumption | exact Ne.symm (by assumption) | exact x_ne fU frd (by simp))
        have fS := xUp_ne u6 fS (by first | assumption | exact Ne.symm (by assumption) | exact x_ne fS frd (by simp))
        have fpk := xUp_ne u6 fpk (by first | assumption | exact Ne.symm (by assumption) | exact x_ne fpk frd (by simp))
        have fcd := xUp_ne u6 fcd (by first | assumption | exact Ne.symm (by assumption) | exact x_ne fcd frd (by simp))
        have fB := xUp_ne u6 fB (by first | assumption | exact Ne.symm (by assumption) | exact x_ne fB frd (by simp))
        have fce := xUp_ne u6 fce (by first | assumption | exact Ne.symm (by assumption) | exact x_ne fce frd (by simp))
        have fco := xUp_ne u6 fco (by first | assumption | exact Ne.symm (by assumption) | exact x_ne fco frd (by simp))
        have fsr := xUp_ne u6 fsr (by first | assumption | exact Ne.symm (by assumption) | exact x_ne fsr frd (by simp))
        have frd := xUp_at u6
        have kp := kp.up u6 (by simp)
        exact inner (n2 + 1) j1 _ _ (by omega) hi2 hj1 hbh hbad fU frd hE.one (fun c hc => by rw [pk_cpy_in (by omega) (by omega)]; congr 1) (fun z => by subst z; exact rd_one hE) kp
  refine x_aload_n C d_Ru_findRow_0 rfl rfl ?_
  refine x_aload_n C d_Ru_findRow_1 rfl rfl ?_
  refine x_get C k_Ru f_Ru_15 d_Ru_findRow_2 fU (by rfl) ?_
  refine x_get C k_St f_Ru_41 d_Ru_findRow_5 fS (by rfl) ?_
  refine x_callV C l_Ru_76 v_Ta_rowsOf d_Ru_findRow_8 (m_Ta_rowsOf ⟨fB, fce, fco, fsr⟩ (nI t1)) fB rfl (by rfl) (by rfl) (by decide) (by decide) (Nat.le_of_ble_eq_true rfl) ?_
  rintro v9 h9 ⟨rfl, rfl⟩
  rw [hS.row ht1]
  refine x_istore_n (lv' := [(2, _), (0, _), (1, _)]) C d_Ru_findRow_11 rfl (by decide) (by rfl) ?_
  refine x_aload_n C d_Ru_findRow_12 rfl rfl ?_
  refine x_get C k_Ru f_Ru_15 d_Ru_findRow_13 fU (by rfl) ?_
  refine x_get C k_St f_Ru_113 d_Ru_findRow_16 fS (by rfl) ?_
  refine x_iconst (v := -1) C d_Ru_findRow_19 (by decide) ?_
  refine x_icmp_ne (tgt := 27) C d_Ru_findRow_20 rfl (fun q20 => ?_) (fun q20 => ?_)
  · skip
    refine x_aload_n C d_Ru_findRow_27 rfl rfl ?_
    refine x_aload_n C d_Ru_findRow_28 rfl rfl ?_
    refine x_get C k_Ru f_Ru_15 d_Ru_findRow_29 fU (by rfl) ?_
    refine x_get C k_St f_Ru_113 d_Ru_findRow_32 fS (by rfl) ?_
    refine x_callV C l_Ru_76 v_Ta_rowsOf d_Ru_findRow_35 (m_Ta_rowsOf ⟨fB, fce, fco, fsr⟩ se) fB rfl (by rfl) (by rfl) (by decide) (by decide) (Nat.le_of_ble_eq_true rfl) ?_
    rintro v9 h9 ⟨rfl, rfl⟩
    have hse : se = nI t2 ∧ t2 < 10 ∧ n2 = SS (t2 + 1) - SS t2 := by rcases h2 with z | z; exact absurd z.1 q20; exact z
    rw [hse.1, hS.row hse.2.1, ← hse.2.2]
    refine x_istore_n (lv' := [(3, _), (2, _), (0, _), (1, _)]) C d_Ru_findRow_38 rfl (by decide) (by rfl) ?_
    first | exact loop ((SS (t1 + 1) - SS t1) + 1) i j _ g (by omega) hi hj (Or.inr ⟨rfl, Nat.le_refl _⟩) bad.rf fU0 frd0 rdE.rf xKeep.rf | (subst hn21; exact loop ((SS (t1 + 1) - SS t1) + 1) i j _ g (by omega) hi hj (Or.inr ⟨rfl, Nat.le_refl _⟩) bad.rf fU0 frd0 rdE.rf xKeep.rf)
  · skip
    have hn21 : n2 = 1 := by rcases h2 with z | z; exact z.2; exact absurd (z.1.symm.trans q20) (nI_m1 (by omega))
    refine x_iconst (v := 1) C d_Ru_findRow_23 (by decide) ?_
    refine x_goto (tgt := 38) C d_Ru_findRow_24 rfl ?_
    refine x_istore_n (lv' := [(3, _), (2, _), (0, _), (1, _)]) C d_Ru_findRow_38 rfl (by decide) (by rfl) ?_
    first | exact loop ((SS (t1 + 1) - SS t1) + 1) i j _ g (by omega) hi hj (Or.inr ⟨rfl, Nat.le_refl _⟩) bad.rf fU0 frd0 rdE.rf xKeep.rf | (subst hn21; exact loop ((SS (t1 + 1) - SS t1) + 1) i j _ g (by omega) hi hj (Or.inr ⟨rfl, Nat.le_refl _⟩) bad.rf fU0 frd0 rdE.rf xKeep.rf)
set_option maxRecDepth 20000 in
set_option maxHeartbeats 1000000 in
theorem m_Ru_giveRow {V : xV} {h : xH} {U rd S nb pk cd B ce co sr : Nat} {vb ls se fa nc : Int32} {np kc t1 t2 n2 : Nat} {f c s g : Nat → Int32} {po cp : Nat → Option Nat} {pick : Nat → Int32} {cf : Nat → tCd} {SS : Nat → Nat} (fS : h S = some (oSt vb ls (nI t1) se fa nc nb (nI np) pk (nI kc) cd)) (fpk : h pk = some (xR V 2 12 po)) (fcd : h cd = some (xR V 3 8 cp)) (hnp : np ≤ 12) (hkc : kc ≤ 8) (pO : pOps h po np pick) (pC : pCds h cp kc cf) (pT : pTa V h B ce co sr f c s) (hS : pS s SS) (ht1 : t1 < 10) (h2 : (se = -1 ∧ n2 = 1) ∨ (se = nI t2 ∧ t2 < 10 ∧ n2 = SS (t2 + 1) - SS t2)) (frd : h rd = some (xI V 16 g)) (hin : ∀ j, j < kc → cdIn (cf j)) {gv on en : Int32} {tt : Int64} {i j : Nat} (fU : h U = some (oRu (.ref S) gv on en (nI i) (nI j) tt rd)) (hi : i ≤ (SS (t1 + 1) - SS t1)) (hj : j ≤ n2) : xM V y_Ru_giveRow b_Ru_giveRow 2 (some .int) 5 [.ref U, .ref B] h 0 0 (fun v h' => ∃ g', xKeep [U, rd] h h' ∧ h' rd = some (xI V 16 g') ∧ rdE se g' g ∧ ((v = some (.int 0) ∧ bad (fun a b => cdsVal kc cf (rdF f g ((SS t1 + plc fa (SS (t1 + 1) - SS t1) a) * 6) (sec se fa (SS t2) n2 b))) (SS (t1 + 1) - SS t1) n2 i j (SS (t1 + 1) - SS t1) 0 ∧ ∃ i' j', i' ≤ (SS (t1 + 1) - SS t1) ∧ j' ≤ n2 ∧ h' U = some (oRu (.ref S) gv on en (nI i') (nI j') tt rd)) ∨ (v = some (.int 1) ∧ ∃ i' j', i' < (SS (t1 + 1) - SS t1) ∧ j' < n2 ∧ bhd i j i' j' ∧ bad (fun a b => cdsVal kc cf (rdF f g ((SS t1 + plc fa (SS (t1 + 1) - SS t1) a) * 6) (sec se fa (SS t2) n2 b))) (SS (t1 + 1) - SS t1) n2 i j i' j' ∧ (fun a b => cdsVal kc cf (rdF f g ((SS t1 + plc fa (SS (t1 + 1) - SS t1) a) * 6) (sec se fa (SS t2) n2 b))) i' j' = true ∧ g' = rdF f g ((SS t1 + plc fa (SS (t1 + 1) - SS t1) i') * 6) (sec se fa (SS t2) n2 j') ∧ h' U = some (oRu (.ref S) gv on en (nI i') (nI (j' + 1)) tt rd)))) := by
  refine xM_of false (by decide) (fun h => nomatch h) (Nat.le_of_ble_eq_true rfl) (fun K C => ?_)
  show K 0 0 h 0 [(0, .ref U), (1, .ref B)] []
  obtain ⟨fB, fce, fco, fsr⟩ := pT
  refine x_aload_n C d_Ru_giveRow_0 rfl rfl ?_
  refine x_aload_n C d_Ru_giveRow_1 rfl rfl ?_
  refine x_callV C l_Ru_91 v_Ru_findRow d_Ru_giveRow_2 (m_Ru_findRow fS fpk fcd hnp hkc pO pC ⟨fB, fce, fco, fsr⟩ hS ht1 h2 frd hin fU hi hj) fU rfl (by rfl) (by rfl) (by decide) (by decide) (Nat.le_of_ble_eq_true rfl) ?_
  rintro v1 h1 ⟨g', kp1, frd', hE', ⟨rfl, hbad, i', j', hi', hj', fU'⟩ | ⟨rfl, i', j', hi', hj', hbh, hbad, hG, hg', fU'⟩⟩
  · skip
    refine x_if_eq (tgt := 12) C d_Ru_giveRow_5 rfl (fun q5 => ?_) (fun q5 => ?_)
    · skip
      refine x_iconst (v := 0) C d_Ru_giveRow_12 (by decide) ?_
      refine x_iret C d_Ru_giveRow_13 ?_
      first | exact ⟨g', kp1, frd', hE', Or.inl ⟨rfl, hbad, i', j', hi', hj', fU'⟩⟩ | exact ⟨g', kp1, frd', hE', Or.inr ⟨rfl, i', j', hi', hj', hbh, hbad, hG, hg', fU'⟩⟩
    · skip
      exact absurd q5 (by decide)
  · skip
    refine x_if_eq (tgt := 12) C d_Ru_giveRow_5 rfl (fun q5 => ?_) (fun q5 => ?_)
    · skip
      exact absurd q5 (by decide)
    · skip
      refine x_iconst (v := 1) C d_Ru_giveRow_8 (by decide) ?_
      refine x_goto (tgt := 13) C d_Ru_giveRow_9 rfl ?_
      refine x_iret C d_Ru_giveRow_13 ?_
      first | exact ⟨g', kp1, frd', hE', Or.inl ⟨rfl, hbad, i', j', hi', hj', fU'⟩⟩ | exact ⟨g', kp1, frd', hE', Or.inr ⟨rfl, i', j', hi', hj', hbh, hbad, hG, hg', fU'⟩⟩
set_option maxRecDepth 20000 in
set_option maxHeartbeats 1000000 in
theorem m_Ru_giveTotal {V : xV} {h : xH} {U rd S nb pk cd B ce co sr : Nat} {vb ls se fa nc : Int32} {np kc t1 t2 n2 : Nat} {f c s g : Nat → Int32} {po cp : Nat → Option Nat} {pick : Nat → Int32} {cf : Nat → tCd} {SS : Nat → Nat} (fS : h S = some (oSt vb ls (nI t1) se fa nc nb (nI np) pk (nI kc) cd)) (fpk : h pk = some (xR V 2 12 po)) (fcd : h cd = some (xR V 3 8 cp)) (hnp : np ≤ 12) (hkc : kc ≤ 8) (pO : pOps h po np pick) (pC : pCds h cp kc cf) (pT : pTa V h B ce co sr f c s) (hS : pS s SS) (ht1 : t1 < 10) (h2 : (se = -1 ∧ n2 = 1) ∨ (se = nI t2 ∧ t2 < 10 ∧ n2 = SS (t2 + 1) - SS t2)) (frd : h rd = some (xI V 16 g)) (hin : ∀ j, j < kc → cdIn (cf j)) {on en : Int32} {tt : Int64} {gv : Nat} (fU : h U = some (oRu (.ref S) (nI gv) on en 0 0 tt rd)) (hgv : gv < 2 ^ 31) (hsum : ls = 5 ∨ (0 < np ∧ vp_in (pick 0) 16)) : xM V y_Ru_giveTotal b_Ru_giveTotal 3 (some .int) 5 [.ref U, .ref B] h 0 0 (fun v h' => (0 < gv ∧ v = some (.int 0) ∧ h' = h) ∨ (gv = 0 ∧ v = some (.int 1) ∧ ∃ g' fp' sp', xKeep [U, rd] h h' ∧ h' rd = some (xI V 16 g') ∧ rdE se g' g ∧ h' U = some (oRu (.ref S) (nI gv) on en fp' sp' (sumUp (fun a b => if (fun a b => cdsVal kc cf (rdF f g ((SS t1 + plc fa (SS (t1 + 1) - SS t1) a) * 6) (sec se fa (SS t2) n2 b))) a b = true then (fun a b => if ls = 5 then (1 : Int64) else (opVal 2 (pick 0) (rdF f g ((SS t1 + plc fa (SS (t1 + 1) - SS t1) a) * 6) (sec se fa (SS t2) n2 b))).toInt64) a b else 0) n2 (SS (t1 + 1) - SS t1) 0) rd))) := by
  refine xM_of false (by decide) (fun h => nomatch h) (Nat.le_of_ble_eq_true rfl) (fun K C => ?_)
  show K 0 0 h 0 [(0, .ref U), (1, .ref B)] []
  have kp : xKeep [U, rd] h h := xKeep.rf
  obtain ⟨fB, fce, fco, fsr⟩ := pT
  have fU0 := fU
  have frd0 := frd
  have n_S : S ∉ [U, rd] := nm_c (x_ne fS fU (by simp)) (nm_c (x_ne fS frd (by simp)) nm_n)
  have n_pk : pk ∉ [U, rd] := nm_c (x_ne fpk fU (by simp)) (nm_c (x_ne fpk frd (by simp)) nm_n)
  have n_cd : cd ∉ [U, rd] := nm_c (x_ne fcd fU (by simp)) (nm_c (x_ne fcd frd (by simp)) nm_n)
  have n_B : B ∉ [U, rd] := nm_c (x_ne fB fU (by simp)) (nm_c (x_ne fB frd (by simp)) nm_n)
  have n_ce : ce ∉ [U, rd] := nm_c (x_ne fce fU (by simp)) (nm_c (x_ne fce frd (by simp)) nm_n)
  have n_co : co ∉ [U, rd] := nm_c (x_ne fco fU (by simp)) (nm_c (x_ne fco frd (by simp)) nm_n)
  have n_sr : sr ∉ [U, rd] := nm_c (x_ne fsr fU (by simp)) (nm_c (x_ne fsr frd (by simp)) nm_n)
  have hs1 := hS.1 t1 (by omega)
  have hl1 := hS.le (t1 + 1) (by omega)
  have hm1 := hS.2.1 t1 ht1
  have fSo := fS
  have fpko := fpk
  have fcdo := fcd
  have fBo := fB
  have fceo := fce
  have fcoo := fco
  have fsro := fsr
  have pOo := pO
  have pCo := pC
  have hn2 : n2 ≤ 400 := by rcases h2 with z | z; omega; have := hS.le (t2 + 1) (by omega); omega
  have hgo : True := trivial
  have loop : ∀ m : Nat, ∀ (k i1 j1 : Nat) (h1 : xH) (g1 : Nat → Int32), 160000 - k < m → k ≤ 160000 → i1 ≤ (SS (t1 + 1) - SS t1) → j1 ≤ n2 → k ≤ i1 * n2 + j1 → (i1 < (SS (t1 + 1) - SS t1) ∨ (i1 = 0 ∧ j1 = 0)) → gv = 0 → h1 U = some (oRu (.ref S) (nI gv) on en (nI i1) (nI j1) (sumUp (fun a b => if (fun a b => cdsVal kc cf (rdF f g ((SS t1 + plc fa (SS (t1 + 1) - SS t1) a) * 6) (sec se fa (SS t2) n2 b))) a b = true then (fun a b => if ls = 5 then (1 : Int64) else (opVal 2 (pick 0) (rdF f g ((SS t1 + plc fa (SS (t1 + 1) - SS t1) a) * 6) (sec se fa (SS t2) n2 b))).toInt64) a b else 0) n2 i1 j1) rd) → h1 rd = some (xI V 16 g1) → rdE se g1 g → xKeep [U, rd] h h1 → K 0 0 h1 16 [(2, .int (nI k)), (0, .ref U), (1, .ref B)] [] := by
    intro m
    induction m with
    | zero => intro k i1 j1 h1 g1 hm hk hi1 hj1 hpos hz hg0 fU frd hE kp; omega
    | succ m ih =>
      intro k i1 j1 h1 g1 hm hk hi1 hj1 hpos hz hg0 fU frd hE kp
      have fS := kp.get fS n_S
      have fpk := kp.get fpk n_pk
      have fcd := kp.get fcd n_cd
      have fB := kp.get fB n_B
      have fce := kp.get fce n_ce
      have fco := kp.get fco n_co
      have fsr := kp.get fsr n_sr
      have pO := pO.keepC kp (no_c fU0 rfl (no_c frd0 rfl no_n))
      have pC := pC.keepC kp (no_c fU0 rfl (no_c frd0 rfl no_n))
      refine x_iload_n C d_Ru_giveTotal_16 rfl rfl ?_
      refine x_ldc C q_Ru_99 d_Ru_giveTotal_17 ?_
      refine x_icmp_ge (tgt := 77) C d_Ru_giveTotal_19 rfl (fun q19 => ?_) (fun q19 => ?_)
      · skip
        have hk6 := nge_of (b := 160000) q19 (by decide)
        refine x_iconst (v := 1) C d_Ru_giveTotal_77 (by decide) ?_
        refine x_iret C d_Ru_giveTotal_78 ?_
        have hsA : sumUp (fun a b => if (fun a b => cdsVal kc cf (rdF f g ((SS t1 + plc fa (SS (t1 + 1) - SS t1) a) * 6) (sec se fa (SS t2) n2 b))) a b = true then (fun a b => if ls = 5 then (1 : Int64) else (opVal 2 (pick 0) (rdF f g ((SS t1 + plc fa (SS (t1 + 1) - SS t1) a) * 6) (sec se fa (SS t2) n2 b))).toInt64) a b else 0) n2 (SS (t1 + 1) - SS t1) 0 = sumUp (fun a b => if (fun a b => cdsVal kc cf (rdF f g ((SS t1 + plc fa (SS (t1 + 1) - SS t1) a) * 6) (sec se fa (SS t2) n2 b))) a b = true then (fun a b => if ls = 5 then (1 : Int64) else (opVal 2 (pick 0) (rdF f g ((SS t1 + plc fa (SS (t1 + 1) - SS t1) a) * 6) (sec se fa (SS t2) n2 b))).toInt64) a b else 0) n2 i1 j1 := by
          have hz1 : i1 < (SS (t1 + 1) - SS t1) := by rcases hz with y | y; exact y; rw [y.1, y.2] at hpos; omega
          rcases pos_end (n1 := (SS (t1 + 1) - SS t1)) (by omega) hn2 hi1 hj1 (by omega) with y | y
          · omega
          · rw [y.1, sumUp_line, show j1 = n2 by omega]
        exact Or.inr ⟨hg0, rfl, g1, nI i1, nI j1, kp, frd, hE, by rw [fU, hsA]⟩
      · skip
        have hk6 := nlt_of (b := 160000) q19 (by decide) (by omega)
        refine x_aload_n C d_Ru_giveTotal_22 rfl rfl ?_
        refine x_aload_n C d_Ru_giveTotal_23 rfl rfl ?_
        refine x_callV C l_Ru_91 v_Ru_findRow d_Ru_giveTotal_24 (m_Ru_findRow fS fpk fcd hnp hkc pO pC ⟨fB, fce, fco, fsr⟩ hS ht1 h2 frd hin fU hi1 hj1) fU rfl (by rfl) (by rfl) (by decide) (by decide) (Nat.le_of_ble_eq_true rfl) ?_
        rintro v1 h1 ⟨g', kp1, frd', hE', ⟨rfl, hbad, i', j', hi', hj', fU'⟩ | ⟨rfl, i', j', hi', hj', hbh, hbad, hG, hg', fU'⟩⟩
        · skip
          have pO := pO.keepC kp1 (no_c fU rfl (no_c frd rfl no_n))
          have pC := pC.keepC kp1 (no_c fU rfl (no_c frd rfl no_n))
          have fS := kp1.get fS (nm_c (by first | assumption | exact Ne.symm (by assumption) | exact x_ne fS fU (by simp)) (nm_c (by first | assumption | exact Ne.symm (by assumption) | exact x_ne fS frd (by simp)) nm_n))
          have fpk := kp1.get fpk (nm_c (by first | assumption | exact Ne.symm (by assumption) | exact x_ne fpk fU (by simp)) (nm_c (by first | assumption | exact Ne.symm (by assumption) | exact x_ne fpk frd (by simp)) nm_n))
          have fcd := kp1.get fcd (nm_c (by first | assumption | exact Ne.symm (by assumption) | exact x_ne fcd fU (by simp)) (nm_c (by first | assumption | exact Ne.symm (by assumption) | exact x_ne fcd frd (by simp)) nm_n))
          have fB := kp1.get fB (nm_c (by first | assumption | exact Ne.symm (by assumption) | exact x_ne fB fU (by simp)) (nm_c (by first | assumption | exact Ne.symm (by assumption) | exact x_ne fB frd (by simp)) nm_n))
          have fce := kp1.get fce (nm_c (by first | assumption | exact Ne.symm (by assumption) | exact x_ne fce fU (by simp)) (nm_c (by first | assumption | exact Ne.symm (by assumption) | exact x_ne fce frd (by simp)) nm_n))
          have fco := kp1.get fco (nm_c (by first | assumption | exact Ne.symm (by assumption) | exact x_ne fco fU (by simp)) (nm_c (by first | assumption | exact Ne.symm (by assumption) | exact x_ne fco frd (by simp)) nm_n))
          have fsr := kp1.get fsr (nm_c (by first | assumption | exact Ne.symm (by assumption) | exact x_ne fsr fU (by simp)) (nm_c (by first | assumption | exact Ne.symm (by assumption) | exact x_ne fsr frd (by simp)) nm_n))
          have kp := kp.call kp1 (kc_c (Or.inl (by simp)) (kc_c (Or.inl (by simp)) kc_n))
          have fU := fU'
          have frd := frd'
          rw [gd_base (fun a => ((SS t1 + plc fa (SS (t1 + 1) - SS t1) a) * 6)) hE] at hbad
          have hsB := sumUp_bad (val := (fun a b => if ls = 5 then (1 : Int64) else (opVal 2 (pick 0) (rdF f g ((SS t1 + plc fa (SS (t1 + 1) - SS t1) a) * 6) (sec se fa (SS t2) n2 b))).toInt64)) hj1 ((SS (t1 + 1) - SS t1) - i1) (SS (t1 + 1) - SS t1) 0 (by omega) (Nat.le_refl _) (by omega) (fun _ => Or.inl rfl) (fun z => by omega) hbad (fun z1 z2 => by omega)
          refine x_if_eq (tgt := 77) C d_Ru_giveTotal_27 rfl (fun q27 => ?_) (fun q27 => ?_)
          · skip
            refine x_iconst (v := 1) C d_Ru_giveTotal_77 (by decide) ?_
            refine x_iret C d_Ru_giveTotal_78 ?_
            exact Or.inr ⟨hg0, rfl, g', nI i', nI j', kp, frd, hE'.tr hE, by rw [fU, hsB]⟩
          · skip
            exact absurd q27 (by decide)
        · skip
          have pO := pO.keepC kp1 (no_c fU rfl (no_c frd rfl no_n))
          have pC := pC.keepC kp1 (no_c fU rfl (no_c frd rfl no_n))
          have fS := kp1.get fS (nm_c (by first | assumption | exact Ne.symm (by assumption) | exact x_ne fS fU (by simp)) (nm_c (by first | assumption | exact Ne.symm (by assumption) | exact x_ne fS frd (by simp)) nm_n))
          have fpk := kp1.get fpk (nm_c (by first | assumption | exact Ne.symm (by assumption) | exact x_ne fpk fU (by simp)) (nm_c (by first | assumption | exact Ne.symm (by assumption) | exact x_ne fpk frd (by simp)) nm_n))
          have fcd := kp1.get fcd (nm_c (by first | assumption | exact Ne.symm (by assumption) | exact x_ne fcd fU (by simp)) (nm_c (by first | assumption | exact Ne.symm (by assumption) | exact x_ne fcd frd (by simp)) nm_n))
          have fB := kp1.get fB (nm_c (by first | assumption | exact Ne.symm (by assumption) | exact x_ne fB fU (by simp)) (nm_c (by first | assumption | exact Ne.symm (by assumption) | exact x_ne fB frd (by simp)) nm_n))
          have fce := kp1.get fce (nm_c (by first | assumption | exact Ne.symm (by assumption) | exact x_ne fce fU (by simp)) (nm_c (by first | assumption | exact Ne.symm (by assumption) | exact x_ne fce frd (by simp)) nm_n))
          have fco := kp1.get fco (nm_c (by first | assumption | exact Ne.symm (by assumption) | exact x_ne fco fU (by simp)) (nm_c (by first | assumption | exact Ne.symm (by assumption) | exact x_ne fco frd (by simp)) nm_n))
          have fsr := kp1.get fsr (nm_c (by first | assumption | exact Ne.symm (by assumption) | exact x_ne fsr fU (by simp)) (nm_c (by first | assumption | exact Ne.symm (by assumption) | exact x_ne fsr frd (by simp)) nm_n))
          have kp := kp.call kp1 (kc_c (Or.inl (by simp)) (kc_c (Or.inl (by simp)) kc_n))
          have fU := fU'
          have frd := frd'
          rw [gd_base (fun a => ((SS t1 + plc fa (SS (t1 + 1) - SS t1) a) * 6)) hE] at hbad hG
          rw [rdF_base hE] at hg'
          have hsB := sumUp_bad (val := (fun a b => if ls = 5 then (1 : Int64) else (opVal 2 (pick 0) (rdF f g ((SS t1 + plc fa (SS (t1 + 1) - SS t1) a) * 6) (sec se fa (SS t2) n2 b))).toInt64)) hj1 (i' - i1) i' j' (by unfold bhd at hbh; omega) (by omega) (by omega) (fun z => by omega) (fun z => by unfold bhd at hbh; omega) (fun a b h1 h2 h3 h4 => hbad a b h1 h2 h3 h4) (fun z1 z2 => by omega)
          refine x_if_eq (tgt := 77) C d_Ru_giveTotal_27 rfl (fun q27 => ?_) (fun q27 => ?_)
          · skip
            exact absurd q27 (by decide)
          · skip
            refine x_aload_n C d_Ru_giveTotal_30 rfl rfl ?_
            refine x_dup C d_Ru_giveTotal_31 rfl ?_
            refine x_get C k_Ru f_Ru_95 d_Ru_giveTotal_32 fU (by rfl) ?_
            refine x_aload_n C d_Ru_giveTotal_35 rfl rfl ?_
            refine x_get C k_Ru f_Ru_15 d_Ru_giveTotal_36 fU (by rfl) ?_
            refine x_get C k_St f_Ru_100 d_Ru_giveTotal_39 fS (by rfl) ?_
            refine x_iconst (v := 5) C d_Ru_giveTotal_42 (by decide) ?_
            refine x_icmp_ne (tgt := 50) C d_Ru_giveTotal_43 rfl (fun q43 => ?_) (fun q43 => ?_)
            · skip
              obtain ⟨hp0, hpi⟩ := hsum.resolve_left q43
              obtain ⟨o, ho, fo⟩ := pO 0 hp0
              refine x_aload_n C d_Ru_giveTotal_50 rfl rfl ?_
              refine x_get C k_Ru f_Ru_15 d_Ru_giveTotal_51 fU (by rfl) ?_
              refine x_get C k_St f_Ru_103 d_Ru_giveTotal_54 fS (by rfl) ?_
              refine x_iconst (v := 0) C d_Ru_giveTotal_57 (by decide) ?_
              refine x_aald (t := 2) C rfl d_Ru_giveTotal_58 fpk (vp_in_nI (n := 0) (by decide) (by decide)) ?_
              rw [sb_cl0, ho]
              refine x_aload_n C d_Ru_giveTotal_59 rfl rfl ?_
              refine x_get C k_Ru f_Ru_9 d_Ru_giveTotal_60 fU (by rfl) ?_
              refine x_callV C l_Ru_107 v_Op_value d_Ru_giveTotal_63 (m_Op_value fo frd (Or.inr hpi)) (by assumption) rfl (by rfl) (by rfl) (by decide) (by decide) (Nat.le_of_ble_eq_true rfl) ?_
              rintro v9 h9 ⟨rfl, rfl⟩
              refine x_i2l C d_Ru_giveTotal_66 ?_
              refine x_ladd C d_Ru_giveTotal_67 ?_
              refine x_put (fs' := [_, _, _, _, _, _, _, _]) C k_Ru f_Ru_95 d_Ru_giveTotal_68 fU (by rfl) (by rfl) (by rfl) (Nat.le_of_ble_eq_true rfl) (by rfl) (fun h2 u2 => ?_)
              have pO := pO.keepU u2 fU rfl
              have pC := pC.keepU u2 fU rfl
              have frd := xUp_ne u2 frd (by first | assumption | exact Ne.symm (by assumption) | exact x_ne frd fU (by simp))
              have fS := xUp_ne u2 fS (by first | assumption | exact Ne.symm (by assumption) | exact x_ne fS fU (by simp))
              have fpk := xUp_ne u2 fpk (by first | assumption | exact Ne.symm (by assumption) | exact x_ne fpk fU (by simp))
              have fcd := xUp_ne u2 fcd (by first | assumption | exact Ne.symm (by assumption) | exact x_ne fcd fU (by simp))
              have fB := xUp_ne u2 fB (by first | assumption | exact Ne.symm (by assumption) | exact x_ne fB fU (by simp))
              have fce := xUp_ne u2 fce (by first | assumption | exact Ne.symm (by assumption) | exact x_ne fce fU (by simp))
              have fco := xUp_ne u2 fco (by first | assumption | exact Ne.symm (by assumption) | exact x_ne fco fU (by simp))
              have fsr := xUp_ne u2 fsr (by first | assumption | exact Ne.symm (by assumption) | exact x_ne fsr fU (by simp))
              have fU := xUp_at u2
              have kp := kp.up u2 (by simp)
              refine x_iinc (v := nI (k + 1)) (k0 := 0) (lv' := [(2, _), (0, _), (1, _)]) C d_Ru_giveTotal_71 (by rfl) (nI_1 k) (by decide) (by rfl) ?_
              refine x_goto (tgt := 16) C d_Ru_giveTotal_74 rfl ?_
              refine ih (k + 1) i' (j' + 1) _ _ (by omega) (by omega) (by omega) (by omega) (pos_le hj1 hbh hpos) (Or.inl hi') hg0 ?_ frd (hE'.tr hE) kp
              have hw : (fun a b => if (fun a b => cdsVal kc cf (rdF f g ((SS t1 + plc fa (SS (t1 + 1) - SS t1) a) * 6) (sec se fa (SS t2) n2 b))) a b = true then (fun a b => if ls = 5 then (1 : Int64) else (opVal 2 (pick 0) (rdF f g ((SS t1 + plc fa (SS (t1 + 1) - SS t1) a) * 6) (sec se fa (SS t2) n2 b))).toInt64) a b else 0) i' j' = (if ls = 5 then (1 : Int64) else (opVal 2 (pick 0) g').toInt64) := by
                show (if (fun a b => cdsVal kc cf (rdF f g ((SS t1 + plc fa (SS (t1 + 1) - SS t1) a) * 6) (sec se fa (SS t2) n2 b))) i' j' = true then _ else (0 : Int64)) = _
                rw [if_pos hG, hg']
              have hs2 : sumUp (fun a b => if (fun a b => cdsVal kc cf (rdF f g ((SS t1 + plc fa (SS (t1 + 1) - SS t1) a) * 6) (sec se fa (SS t2) n2 b))) a b = true then (fun a b => if ls = 5 then (1 : Int64) else (opVal 2 (pick 0) (rdF f g ((SS t1 + plc fa (SS (t1 + 1) - SS t1) a) * 6) (sec se fa (SS t2) n2 b))).toInt64) a b else 0) n2 i' (j' + 1) = sumUp (fun a b => if (fun a b => cdsVal kc cf (rdF f g ((SS t1 + plc fa (SS (t1 + 1) - SS t1) a) * 6) (sec se fa (SS t2) n2 b))) a b = true then (fun a b => if ls = 5 then (1 : Int64) else (opVal 2 (pick 0) (rdF f g ((SS t1 + plc fa (SS (t1 + 1) - SS t1) a) * 6) (sec se fa (SS t2) n2 b))).toInt64) a b else 0) n2 i1 j1 + (if ls = 5 then (1 : Int64) else (opVal 2 (pick 0) g').toInt64) := by
                refine sumUp_next.trans ?_
                rw [hsB]
                exact congrArg (sumUp (fun a b => if (fun a b => cdsVal kc cf (rdF f g ((SS t1 + plc fa (SS (t1 + 1) - SS t1) a) * 6) (sec se fa (SS t2) n2 b))) a b = true then (fun a b => if ls = 5 then (1 : Int64) else (opVal 2 (pick 0) (rdF f g ((SS t1 + plc fa (SS (t1 + 1) - SS t1) a) * 6) (sec se fa (SS t2) n2 b))).toInt64) a b else 0) n2 i1 j1 + ·) hw
              rw [fU, hs2]
              first | rw [if_pos q43] | rw [if_neg q43]
            · skip
              refine x_lconst (v := 1) C d_Ru_giveTotal_46 (by decide) ?_
              refine x_goto (tgt := 67) C d_Ru_giveTotal_47 rfl ?_
              refine x_ladd C d_Ru_giveTotal_67 ?_
              refine x_put (fs' := [_, _, _, _, _, _, _, _]) C k_Ru f_Ru_95 d_Ru_giveTotal_68 fU (by rfl) (by rfl) (by rfl) (Nat.le_of_ble_eq_true rfl) (by rfl) (fun h3 u3 => ?_)
              have pO := pO.keepU u3 fU rfl
              have pC := pC.keepU u3 fU rfl
              have frd := xUp_ne u3 frd (by first | assumption | exact Ne.symm (by assumption) | exact x_ne frd fU (by simp))
              have fS := xUp_ne u3 fS (by first | assumption | exact Ne.symm (by assumption) | exact x_ne fS fU (by simp))
              have fpk := xUp_ne u3 fpk (by first | assumption | exact Ne.symm (by assumption) | exact x_ne fpk fU (by simp))
              have fcd := xUp_ne u3 fcd (by first | assumption | exact Ne.symm (by assumption) | exact x_ne fcd fU (by simp))
              have fB := xUp_ne u3 fB (by first | assumption | exact Ne.symm (by assumption) | exact x_ne fB fU (by simp))
              have fce := xUp_ne u3 fce (by first | assumption | exact Ne.symm (by assumption) | exact x_ne fce fU (by simp))
              have fco := xUp_ne u3 fco (by first | assumption | exact Ne.symm (by assumption) | exact x_ne fco fU (by simp))
              have fsr := xUp_ne u3 fsr (by first | assumption | exact Ne.symm (by assumption) | exact x_ne fsr fU (by simp))
              have fU := xUp_at u3
              have kp := kp.up u3 (by simp)
              refine x_iinc (v := nI (k + 1)) (k0 := 0) (lv' := [(2, _), (0, _), (1, _)]) C d_Ru_giveTotal_71 (by rfl) (nI_1 k) (by decide) (by rfl) ?_
              refine x_goto (tgt := 16) C d_Ru_giveTotal_74 rfl ?_
              refine ih (k + 1) i' (j' + 1) _ _ (by omega) (by omega) (by omega) (by omega) (pos_le hj1 hbh hpos) (Or.inl hi') hg0 ?_ frd (hE'.tr hE) kp
              have hw : (fun a b => if (fun a b => cdsVal kc cf (rdF f g ((SS t1 + plc fa (SS (t1 + 1) - SS t1) a) * 6) (sec se fa (SS t2) n2 b))) a b = true then (fun a b => if ls = 5 then (1 : Int64) else (opVal 2 (pick 0) (rdF f g ((SS t1 + plc fa (SS (t1 + 1) - SS t1) a) * 6) (sec se fa (SS t2) n2 b))).toInt64) a b else 0) i' j' = (if ls = 5 then (1 : Int64) else (opVal 2 (pick 0) g').toInt64) := by
                show (if (fun a b => cdsVal kc cf (rdF f g ((SS t1 + plc fa (SS (t1 + 1) - SS t1) a) * 6) (sec se fa (SS t2) n2 b))) i' j' = true then _ else (0 : Int64)) = _
                rw [if_pos hG, hg']
              have hs2 : sumUp (fun a b => if (fun a b => cdsVal kc cf (rdF f g ((SS t1 + plc fa (SS (t1 + 1) - SS t1) a) * 6) (sec se fa (SS t2) n2 b))) a b = true then (fun a b => if ls = 5 then (1 : Int64) else (opVal 2 (pick 0) (rdF f g ((SS t1 + plc fa (SS (t1 + 1) - SS t1) a) * 6) (sec se fa (SS t2) n2 b))).toInt64) a b else 0) n2 i' (j' + 1) = sumUp (fun a b => if (fun a b => cdsVal kc cf (rdF f g ((SS t1 + plc fa (SS (t1 + 1) - SS t1) a) * 6) (sec se fa (SS t2) n2 b))) a b = true then (fun a b => if ls = 5 then (1 : Int64) else (opVal 2 (pick 0) (rdF f g ((SS t1 + plc fa (SS (t1 + 1) - SS t1) a) * 6) (sec se fa (SS t2) n2 b))).toInt64) a b else 0) n2 i1 j1 + (if ls = 5 then (1 : Int64) else (opVal 2 (pick 0) g').toInt64) := by
                refine sumUp_next.trans ?_
                rw [hsB]
                exact congrArg (sumUp (fun a b => if (fun a b => cdsVal kc cf (rdF f g ((SS t1 + plc fa (SS (t1 + 1) - SS t1) a) * 6) (sec se fa (SS t2) n2 b))) a b = true then (fun a b => if ls = 5 then (1 : Int64) else (opVal 2 (pick 0) (rdF f g ((SS t1 + plc fa (SS (t1 + 1) - SS t1) a) * 6) (sec se fa (SS t2) n2 b))).toInt64) a b else 0) n2 i1 j1 + ·) hw
              rw [fU, hs2]
              first | rw [if_pos q43] | rw [if_neg q43]
  refine x_aload_n C d_Ru_giveTotal_0 rfl rfl ?_
  refine x_get C k_Ru f_Ru_19 d_Ru_giveTotal_1 fU (by rfl) ?_
  refine x_if_le (tgt := 9) C d_Ru_giveTotal_4 rfl (fun q4 => ?_) (fun q4 => ?_)
  · skip
    have hg0 : gv = 0 := by rcases Nat.eq_zero_or_pos gv with z | z; exact z; exact absurd q4 (nI_nle z hgv)
    refine x_aload_n C d_Ru_giveTotal_9 rfl rfl ?_
    refine x_lconst (v := 0) C d_Ru_giveTotal_10 (by decide) ?_
    refine x_put (fs' := [_, _, _, _, _, _, _, _]) C k_Ru f_Ru_95 d_Ru_giveTotal_11 fU (by rfl) (by rfl) (by rfl) (Nat.le_of_ble_eq_true rfl) (by rfl) (fun h4 u4 => ?_)
    have pO := pO.keepU u4 fU rfl
    have pC := pC.keepU u4 fU rfl
    have frd := xUp_ne u4 frd (by first | assumption | exact Ne.symm (by assumption) | exact x_ne frd fU (by simp))
    have fS := xUp_ne u4 fS (by first | assumption | exact Ne.symm (by assumption) | exact x_ne fS fU (by simp))
    have fpk := xUp_ne u4 fpk (by first | assumption | exact Ne.symm (by assumption) | exact x_ne fpk fU (by simp))
    have fcd := xUp_ne u4 fcd (by first | assumption | exact Ne.symm (by assumption) | exact x_ne fcd fU (by simp))
    have fB := xUp_ne u4 fB (by first | assumption | exact Ne.symm (by assumption) | exact x_ne fB fU (by simp))
    have fce := xUp_ne u4 fce (by first | assumption | exact Ne.symm (by assumption) | exact x_ne fce fU (by simp))
    have fco := xUp_ne u4 fco (by first | assumption | exact Ne.symm (by assumption) | exact x_ne fco fU (by simp))
    have fsr := xUp_ne u4 fsr (by first | assumption | exact Ne.symm (by assumption) | exact x_ne fsr fU (by simp))
    have fU := xUp_at u4
    have kp := kp.up u4 (by simp)
    refine x_iconst (v := 0) C d_Ru_giveTotal_14 (by decide) ?_
    refine x_istore_n (lv' := [(2, _), (0, _), (1, _)]) C d_Ru_giveTotal_15 rfl (by decide) (by rfl) ?_
    exact loop 160001 0 0 0 _ g (by omega) (by omega) (by omega) (by omega) (by omega) (Or.inr ⟨rfl, rfl⟩) hg0 fU frd rdE.rf kp
  · skip
    have hg0 : 0 < gv := by rcases Nat.eq_zero_or_pos gv with z | z; exact absurd (by rw [z]; decide) q4; exact z
    refine x_iconst (v := 0) C d_Ru_giveTotal_7 (by decide) ?_
    refine x_iret C d_Ru_giveTotal_8 ?_
    exact Or.inl ⟨hg0, rfl, rfl⟩
set_option maxRecDepth 20000 in
set_option maxHeartbeats 1000000 in
theorem m_Ru_deleteRows {V : xV} {h : xH} {U rd S nb pk cd B ce co sr : Nat} {vb ls se fa nc : Int32} {np kc t1 : Nat} {f c s g : Nat → Int32} {po cp : Nat → Option Nat} {pick : Nat → Int32} {cf : Nat → tCd} {SS : Nat → Nat} (fS : h S = some (oSt vb ls (nI t1) se fa nc nb (nI np) pk (nI kc) cd)) (fpk : h pk = some (xR V 2 12 po)) (fcd : h cd = some (xR V 3 8 cp)) (hnp : np ≤ 12) (hkc : kc ≤ 8) (pO : pOps h po np pick) (pC : pCds h cp kc cf) (pT : pTa V h B ce co sr f c s) (hS : pS s SS) (ht1 : t1 < 10) (frd : h rd = some (xI V 16 g)) (hin : ∀ j, j < kc → cdIn (cf j)) {gv on en fp sp : Int32} {tt : Int64} (fU : h U = some (oRu (.ref S) gv on en fp sp tt rd)) : xM V y_Ru_deleteRows b_Ru_deleteRows 3 none 4 [.ref U, .ref B] h 0 0 (fun v h' => v = none ∧ ∃ f' s' SS' g', pTa V h' B ce co sr f' c s' ∧ pS s' SS' ∧ SS' 0 = SS 0 ∧ tbl f' SS' t1 = (tbl f SS t1).filter (fun r => !cdsVal kc cf (mix r g)) ∧ (∀ t', t' < 10 → t' ≠ t1 → tbl f' SS' t' = tbl f SS t') ∧ h' rd = some (xI V 16 g') ∧ rdE (-1) g' g ∧ xKeep [ce, sr, rd] h h') := by
  refine xM_of false (by decide) (fun h => nomatch h) (Nat.le_of_ble_eq_true rfl) (fun K C => ?_)
  show K 0 0 h 0 [(0, .ref U), (1, .ref B)] []
  have kp : xKeep [ce, sr, rd] h h := xKeep.rf
  obtain ⟨fB, fce, fco, fsr⟩ := pT
  have fce0 := fce
  have fsr0 := fsr
  have frd0 := frd
  have n_U : U ∉ [ce, sr, rd] := nm_c (x_ne fU fce (by simp)) (nm_c (x_ne fU fsr (by simp)) (nm_c (x_ne fU frd (by simp)) nm_n))
  have n_S : S ∉ [ce, sr, rd] := nm_c (x_ne fS fce (by simp)) (nm_c (x_ne fS fsr (by simp)) (nm_c (x_ne fS frd (by simp)) nm_n))
  have n_pk : pk ∉ [ce, sr, rd] := nm_c (x_ne fpk fce (by simp)) (nm_c (x_ne fpk fsr (by simp)) (nm_c (x_ne fpk frd (by simp)) nm_n))
  have n_cd : cd ∉ [ce, sr, rd] := nm_c (x_ne fcd fce (by simp)) (nm_c (x_ne fcd fsr (by simp)) (nm_c (x_ne fcd frd (by simp)) nm_n))
  have n_B : B ∉ [ce, sr, rd] := nm_c (x_ne fB fce (by simp)) (nm_c (x_ne fB fsr (by simp)) (nm_c (x_ne fB frd (by simp)) nm_n))
  have n_co : co ∉ [ce, sr, rd] := nm_c (x_ne fco fce (by simp)) (nm_c (x_ne fco fsr (by simp)) (nm_c (x_ne fco frd (by simp)) nm_n))
  have hL : ∃ L, L = tbl f SS t1 := ⟨_, rfl⟩
  obtain ⟨L, hL⟩ := hL
  have loop : ∀ m : Nat, ∀ (k : Nat) (h1 : xH) (f1 s1 : Nat → Int32) (SS1 : Nat → Nat) (g1 : Nat → Int32), k < m → k ≤ L.length → pTa V h1 B ce co sr f1 c s1 → pS s1 SS1 → SS1 0 = SS 0 → tbl f1 SS1 t1 = L.take k ++ (L.drop k).filter (fun r => !cdsVal kc cf (mix r g)) → (∀ t', t' < 10 → t' ≠ t1 → tbl f1 SS1 t' = tbl f SS t') → h1 rd = some (xI V 16 g1) → rdE (-1) g1 g → xKeep [ce, sr, rd] h h1 → K 0 0 h1 14 [(2, .int (nI k - 1)), (0, .ref U), (1, .ref B)] [] := by
    intro m
    induction m with
    | zero => intro k h1 f1 s1 SS1 g1 hm hkL pT1 hS1 hz0 htb hto frd hE kp; omega
    | succ m ih =>
      intro k h1 f1 s1 SS1 g1 hm hkL pT1 hS1 hz0 htb hto frd hE kp
      have hL4 : L.length ≤ 400 := by rw [hL, tbl_len]; have := hS.le (t1 + 1) (by omega); omega
      obtain ⟨-, fce, -, fsr⟩ := pT1
      have fU := kp.get fU n_U
      have fS := kp.get fS n_S
      have fpk := kp.get fpk n_pk
      have fcd := kp.get fcd n_cd
      have fB := kp.get fB n_B
      have fco := kp.get fco n_co
      have pO := pO.keepC kp (no_c fce0 rfl (no_c fsr0 rfl (no_c frd0 rfl no_n)))
      have pC := pC.keepC kp (no_c fce0 rfl (no_c fsr0 rfl (no_c frd0 rfl no_n)))
      refine x_iload_n C d_Ru_deleteRows_14 rfl rfl ?_
      refine x_if_lt (tgt := 67) C d_Ru_deleteRows_15 rfl (fun q15 => ?_) (fun q15 => ?_)
      · skip
        have hk0 : k = 0 := by
          rcases Nat.eq_zero_or_pos k with z | z
          · exact z
          · obtain ⟨k', rfl⟩ : ∃ k', k = k' + 1 := ⟨k - 1, by omega⟩
            rw [nI_pred] at q15
            exact absurd q15 (nI_pos (by omega))
        subst hk0
        refine x_vret C d_Ru_deleteRows_67 ?_
        exact ⟨rfl, f1, s1, SS1, g1, ⟨fB, fce, fco, fsr⟩, hS1, hz0, by rw [htb, hL]; simp, hto, frd, hE, kp⟩
      · skip
        obtain ⟨k', rfl⟩ : ∃ k', k = k' + 1 := by
          rcases Nat.eq_zero_or_pos k with z | z
          · rw [z] at q15; exact absurd (by decide) q15
          · exact ⟨k - 1, by omega⟩
        rw [nI_pred]
        obtain ⟨hkn, hrow⟩ := del_row htb (by omega)
        have hs1 := hS1.1 t1 (by omega)
        have hl1 := hS1.le (t1 + 1) (by omega)
        have hm1 := hS1.2.1 t1 ht1
        refine x_aload_n C d_Ru_deleteRows_18 rfl rfl ?_
        refine x_aload_n C d_Ru_deleteRows_19 rfl rfl ?_
        refine x_get C k_Ru f_Ru_15 d_Ru_deleteRows_20 fU (by rfl) ?_
        refine x_get C k_St f_Ru_41 d_Ru_deleteRows_23 fS (by rfl) ?_
        refine x_iload_n C d_Ru_deleteRows_26 rfl rfl ?_
        refine x_aload_n C d_Ru_deleteRows_27 rfl rfl ?_
        refine x_get C k_Ru f_Ru_9 d_Ru_deleteRows_28 fU (by rfl) ?_
        refine x_iconst (v := 0) C d_Ru_deleteRows_31 (by decide) ?_
        refine x_callV C l_Ru_80 v_Ta_read d_Ru_deleteRows_32 (m_Ta_read ⟨fB, fce, fco, fsr⟩ (t := t1) (p := nI k') (a := (SS1 t1 + k') * 6) (by omega) (by omega) (by rw [hs1, cell_eq]) frd (b := 0) (by decide)) fB rfl (by rfl) (by rfl) (by decide) (by decide) (Nat.le_of_ble_eq_true rfl) ?_
        rintro v1 h1 ⟨rfl, u1⟩
        have pO := pO.keepU u1 frd rfl
        have pC := pC.keepU u1 frd rfl
        have fU := xUp_ne u1 fU (by first | assumption | exact Ne.symm (by assumption) | exact x_ne fU frd (by simp))
        have fS := xUp_ne u1 fS (by first | assumption | exact Ne.symm (by assumption) | exact x_ne fS frd (by simp))
        have fpk := xUp_ne u1 fpk (by first | assumption | exact Ne.symm (by assumption) | exact x_ne fpk frd (by simp))
        have fcd := xUp_ne u1 fcd (by first | assumption | exact Ne.symm (by assumption) | exact x_ne fcd frd (by simp))
        have fB := xUp_ne u1 fB (by first | assumption | exact Ne.symm (by assumption) | exact x_ne fB frd (by simp))
        have fce := xUp_ne u1 fce (by first | assumption | exact Ne.symm (by assumption) | exact x_ne fce frd (by simp))
        have fco := xUp_ne u1 fco (by first | assumption | exact Ne.symm (by assumption) | exact x_ne fco frd (by simp))
        have fsr := xUp_ne u1 fsr (by first | assumption | exact Ne.symm (by assumption) | exact x_ne fsr frd (by simp))
        have frd := xUp_at u1
        have kp := kp.up u1 (by simp)
        have hmx := mix_eq (f := f1) (o := (SS1 t1 + k') * 6) hE
        refine x_aload_n C d_Ru_deleteRows_35 rfl rfl ?_
        refine x_get C k_Ru f_Ru_15 d_Ru_deleteRows_36 fU (by rfl) ?_
        refine x_aload_n C d_Ru_deleteRows_39 rfl rfl ?_
        refine x_get C k_Ru f_Ru_9 d_Ru_deleteRows_40 fU (by rfl) ?_
        refine x_callV C l_Ru_83 v_St_holds d_Ru_deleteRows_43 (m_St_holds fS fpk fcd hnp hkc pO pC frd hin) fS rfl (by rfl) (by rfl) (by decide) (by decide) (Nat.le_of_ble_eq_true rfl) ?_
        rintro v9 h9 ⟨rfl, rfl⟩
        rw [hmx]
        refine x_if_eq (tgt := 61) C d_Ru_deleteRows_46 rfl (fun q46 => ?_) (fun q46 => ?_)
        · skip
          replace q46 := bI_f q46
          have hqr : (fun r => !cdsVal kc cf (mix r g)) (row6 f1 ((SS1 t1 + k') * 6)) = true := by show (!_) = true; rw [q46]; rfl
          refine x_iinc (v := nI k' - 1) (k0 := 0) (lv' := [(2, _), (0, _), (1, _)]) C d_Ru_deleteRows_61 (by rfl) (by rw [show Int32.ofInt (-1) = -1 by decide]; exact (Int32.sub_eq_add_neg _ _).symm) (by decide) (by rfl) ?_
          refine x_goto (tgt := 14) C d_Ru_deleteRows_64 rfl ?_
          first | exact ih k' _ _ _ (decB SS1 t1) _ (by omega) (by omega) ⟨fB, fce, fco, fsr⟩ (hS1.dec ht1 hs2 (by omega)) (by unfold decB; rw [if_neg (by omega)]; exact hz0) (by rw [tbl_rem hS1 ht1 hkn, htb]; exact del_rem hrow hqr) (fun t' h1 h2 => (tbl_remO hS1 ht1 h1 h2 hkn).trans (hto t' h1 h2)) frd hE.one kp | exact ih k' _ _ _ SS1 _ (by omega) (by omega) ⟨fB, fce, fco, fsr⟩ hS1 hz0 (htb.trans (del_keep hrow hqr)) hto frd hE.one kp
        · skip
          replace q46 := bI_t q46
          have hqr : (fun r => !cdsVal kc cf (mix r g)) (row6 f1 ((SS1 t1 + k') * 6)) = false := by show (!_) = false; rw [q46]; rfl
          refine x_aload_n C d_Ru_deleteRows_49 rfl rfl ?_
          refine x_aload_n C d_Ru_deleteRows_50 rfl rfl ?_
          refine x_get C k_Ru f_Ru_15 d_Ru_deleteRows_51 fU (by rfl) ?_
          refine x_get C k_St f_Ru_41 d_Ru_deleteRows_54 fS (by rfl) ?_
          refine x_iload_n C d_Ru_deleteRows_57 rfl rfl ?_
          refine x_callV C l_Ru_87 v_Ta_remove d_Ru_deleteRows_58 (m_Ta_remove ⟨fB, fce, fco, fsr⟩ hS1 ht1 hkn) fB rfl (by rfl) (by rfl) (by decide) (by decide) (Nat.le_of_ble_eq_true rfl) ?_
          rintro v2 h2 ⟨rfl, s2, pT2, hs2, kp2⟩
          have pO := pO.keepC kp2 (no_c fce rfl (no_c fsr rfl no_n))
          have pC := pC.keepC kp2 (no_c fce rfl (no_c fsr rfl no_n))
          have fU := kp2.get fU (nm_c (by first | assumption | exact Ne.symm (by assumption) | exact x_ne fU fce (by simp)) (nm_c (by first | assumption | exact Ne.symm (by assumption) | exact x_ne fU fsr (by simp)) nm_n))
          have frd := kp2.get frd (nm_c (by first | assumption | exact Ne.symm (by assumption) | exact x_ne frd fce (by simp)) (nm_c (by first | assumption | exact Ne.symm (by assumption) | exact x_ne frd fsr (by simp)) nm_n))
          have fS := kp2.get fS (nm_c (by first | assumption | exact Ne.symm (by assumption) | exact x_ne fS fce (by simp)) (nm_c (by first | assumption | exact Ne.symm (by assumption) | exact x_ne fS fsr (by simp)) nm_n))
          have fpk := kp2.get fpk (nm_c (by first | assumption | exact Ne.symm (by assumption) | exact x_ne fpk fce (by simp)) (nm_c (by first | assumption | exact Ne.symm (by assumption) | exact x_ne fpk fsr (by simp)) nm_n))
          have fcd := kp2.get fcd (nm_c (by first | assumption | exact Ne.symm (by assumption) | exact x_ne fcd fce (by simp)) (nm_c (by first | assumption | exact Ne.symm (by assumption) | exact x_ne fcd fsr (by simp)) nm_n))
          have fB := kp2.get fB (nm_c (by first | assumption | exact Ne.symm (by assumption) | exact x_ne fB fce (by simp)) (nm_c (by first | assumption | exact Ne.symm (by assumption) | exact x_ne fB fsr (by simp)) nm_n))
          have fco := kp2.get fco (nm_c (by first | assumption | exact Ne.symm (by assumption) | exact x_ne fco fce (by simp)) (nm_c (by first | assumption | exact Ne.symm (by assumption) | exact x_ne fco fsr (by simp)) nm_n))
          have kp := kp.call kp2 (kc_c (Or.inl (by simp)) (kc_c (Or.inl (by simp)) kc_n))
          have fce := pT2.2.1
          have fsr := pT2.2.2.2
          refine x_iinc (v := nI k' - 1) (k0 := 0) (lv' := [(2, _), (0, _), (1, _)]) C d_Ru_deleteRows_61 (by rfl) (by rw [show Int32.ofInt (-1) = -1 by decide]; exact (Int32.sub_eq_add_neg _ _).symm) (by decide) (by rfl) ?_
          refine x_goto (tgt := 14) C d_Ru_deleteRows_64 rfl ?_
          first | exact ih k' _ _ _ (decB SS1 t1) _ (by omega) (by omega) ⟨fB, fce, fco, fsr⟩ (hS1.dec ht1 hs2 (by omega)) (by unfold decB; rw [if_neg (by omega)]; exact hz0) (by rw [tbl_rem hS1 ht1 hkn, htb]; exact del_rem hrow hqr) (fun t' h1 h2 => (tbl_remO hS1 ht1 h1 h2 hkn).trans (hto t' h1 h2)) frd hE.one kp | exact ih k' _ _ _ SS1 _ (by omega) (by omega) ⟨fB, fce, fco, fsr⟩ hS1 hz0 (htb.trans (del_keep hrow hqr)) hto frd hE.one kp
  refine x_aload_n C d_Ru_deleteRows_0 rfl rfl ?_
  refine x_aload_n C d_Ru_deleteRows_1 rfl rfl ?_
  refine x_get C k_Ru f_Ru_15 d_Ru_deleteRows_2 fU (by rfl) ?_
  refine x_get C k_St f_Ru_41 d_Ru_deleteRows_5 fS (by rfl) ?_
  refine x_callV C l_Ru_76 v_Ta_rowsOf d_Ru_deleteRows_8 (m_Ta_rowsOf ⟨fB, fce, fco, fsr⟩ (nI t1)) fB rfl (by rfl) (by rfl) (by decide) (by decide) (Nat.le_of_ble_eq_true rfl) ?_
  rintro v9 h9 ⟨rfl, rfl⟩
  rw [hS.row ht1]
  refine x_iconst (v := 1) C d_Ru_deleteRows_11 (by decide) ?_
  refine x_isub C d_Ru_deleteRows_12 ?_
  refine x_istore_n (lv' := [(2, _), (0, _), (1, _)]) C d_Ru_deleteRows_13 rfl (by decide) (by rfl) ?_
  exact loop (L.length + 1) (SS (t1 + 1) - SS t1) _ f s SS g (by rw [hL, tbl_len]; omega) (by rw [hL, tbl_len]; exact Nat.le_refl _) ⟨fB, fce, fco, fsr⟩ hS rfl (by rw [← hL, List.take_of_length_le (by rw [hL, tbl_len]; exact Nat.le_refl _), List.drop_of_length_le (by rw [hL, tbl_len]; exact Nat.le_refl _)]; simp) (fun _ _ _ => rfl) frd rdE.rf kp
set_option maxRecDepth 20000 in
set_option maxHeartbeats 1000000 in
theorem m_Ru_valueAt {V : xV} {h : xH} {U rd S nb pk cd np k : Nat} {vb ls fi se fa nc kc : Int32} {g : Nat → Int32} {po : Nat → Option Nat} {pick : Nat → Int32} {gv on en fp sp : Int32} {tt : Int64} (fU : h U = some (oRu (.ref S) gv on en fp sp tt rd)) (fS : h S = some (oSt vb ls fi se fa nc nb (nI np) pk kc cd)) (fpk : h pk = some (xR V 2 12 po)) (frd : h rd = some (xI V 16 g)) (pO : pOps h po np pick) (hnp : np ≤ 12) (hk : (ls = 5 ∨ ls = 6) ∨ (k < np ∧ vp_in (pick k) 16)) (hk2 : k < 2 ^ 31) : xM V y_Ru_valueAt b_Ru_valueAt 2 (some .long) 1 [.ref U, .int (nI k)] h 0 0 (fun v h' => h' = h ∧ v = some (.long (if ls = 5 ∨ ls = 6 then tt else (opVal 2 (pick k) g).toInt64))) := by
  refine xM_of false (by decide) (fun h => nomatch h) (Nat.le_of_ble_eq_true rfl) (fun K C => ?_)
  show K 0 0 h 0 [(0, .ref U), (1, .int (nI k))] []
  refine x_aload_n C d_Ru_valueAt_0 rfl rfl ?_
  refine x_get C k_Ru f_Ru_15 d_Ru_valueAt_1 fU (by rfl) ?_
  refine x_callV C l_Ru_61 v_St_hasTotal d_Ru_valueAt_4 (m_St_hasTotal fS) fS rfl (by rfl) (by rfl) (by decide) (by decide) (Nat.le_of_ble_eq_true rfl) ?_
  rintro v9 h9 ⟨rfl, rfl⟩
  refine x_if_eq (tgt := 17) C d_Ru_valueAt_7 rfl (fun q7 => ?_) (fun q7 => ?_)
  · skip
    replace q7 := bI_f q7
    have hls : ¬ (ls = 5 ∨ ls = 6) := by simpa using q7
    obtain ⟨hkn, hpi⟩ := hk.resolve_left hls
    obtain ⟨o, ho, fo⟩ := pO k hkn
    refine x_aload_n C d_Ru_valueAt_17 rfl rfl ?_
    refine x_get C k_Ru f_Ru_15 d_Ru_valueAt_18 fU (by rfl) ?_
    refine x_get C k_St f_Ru_103 d_Ru_valueAt_21 fS (by rfl) ?_
    refine x_iload_n C d_Ru_valueAt_24 rfl rfl ?_
    refine x_aald (t := 2) C rfl d_Ru_valueAt_25 fpk (vp_in_nI (by omega) (by decide)) ?_
    rw [nI_clamp hk2, ho]
    refine x_aload_n C d_Ru_valueAt_26 rfl rfl ?_
    refine x_get C k_Ru f_Ru_9 d_Ru_valueAt_27 fU (by rfl) ?_
    refine x_callV C l_Ru_107 v_Op_value d_Ru_valueAt_30 (m_Op_value fo frd (Or.inr hpi)) (by assumption) rfl (by rfl) (by rfl) (by decide) (by decide) (Nat.le_of_ble_eq_true rfl) ?_
    rintro v9 h9 ⟨rfl, rfl⟩
    refine x_i2l C d_Ru_valueAt_33 ?_
    refine x_lret C d_Ru_valueAt_34 ?_
    refine ⟨rfl, ?_⟩
    first | rw [if_pos hls] | rw [if_neg hls]
  · skip
    replace q7 := bI_t q7
    have hls : ls = 5 ∨ ls = 6 := by simpa using q7
    refine x_aload_n C d_Ru_valueAt_10 rfl rfl ?_
    refine x_get C k_Ru f_Ru_95 d_Ru_valueAt_11 fU (by rfl) ?_
    refine x_goto (tgt := 34) C d_Ru_valueAt_14 rfl ?_
    refine x_lret C d_Ru_valueAt_34 ?_
    refine ⟨rfl, ?_⟩
    first | rw [if_pos hls] | rw [if_neg hls]
set_option maxRecDepth 20000 in
set_option maxHeartbeats 1000000 in
theorem m_Ru_advanceE {V : xV} {h : xH} {U rd B : Nat} {gv on fp sp : Int32} {tt : Int64} {st : Value} (fU : h U = some (oRu st gv on 1 fp sp tt rd)) : xM V y_Ru_advance b_Ru_advance 3 (some .int) 6 [.ref U, .ref B] h 0 0 (fun v h' => h' = h ∧ v = some (.int 0)) := by
  refine xM_of false (by decide) (fun h => nomatch h) (Nat.le_of_ble_eq_true rfl) (fun K C => ?_)
  show K 0 0 h 0 [(0, .ref U), (1, .ref B)] []
  refine x_aload_n C d_Ru_advance_0 rfl rfl ?_
  refine x_get C k_Ru f_Ru_27 d_Ru_advance_1 fU (by rfl) ?_
  refine x_if_eq (tgt := 9) C d_Ru_advance_4 rfl (fun q4 => ?_) (fun q4 => ?_)
  · skip
    exact absurd q4 (by decide)
  · skip
    refine x_iconst (v := 0) C d_Ru_advance_7 (by decide) ?_
    refine x_iret C d_Ru_advance_8 ?_
    exact ⟨rfl, rfl⟩
set_option maxRecDepth 20000 in
set_option maxHeartbeats 1000000 in
theorem m_Ru_advanceC {V : xV} {h : xH} {U rd S nb pk cd B ce co sr t1 : Nat} {ls se fa nc np kc : Int32} {f c s g : Nat → Int32} (fS : h S = some (oSt 0 ls (nI t1) se fa nc nb np pk kc cd)) (fnb : h nb = some (xI V 6 g)) (pT : pTa V h B ce co sr f c s) (ht1 : t1 < 10) {gv on fp sp : Int32} {tt : Int64} (fU : h U = some (oRu (.ref S) gv on 0 fp sp tt rd)) : xM V y_Ru_advance b_Ru_advance 3 (some .int) 6 [.ref U, .ref B] h 0 0 (fun v h' => ∃ c' an, v = some (.int an) ∧ pTa V h' B ce co sr f c' s ∧ h' U = some (oRu (.ref S) gv 0 1 fp sp tt rd) ∧ xKeep [U, co] h h' ∧ ((¬ colOf c (nI t1) ≤ 0 ∧ an = -3 ∧ c' = c) ∨ (colOf c (nI t1) ≤ 0 ∧ an = 0 ∧ c' = upd c t1 (g 0)))) := by
  refine xM_of false (by decide) (fun h => nomatch h) (Nat.le_of_ble_eq_true rfl) (fun K C => ?_)
  show K 0 0 h 0 [(0, .ref U), (1, .ref B)] []
  have kp : xKeep [U, co] h h := xKeep.rf
  obtain ⟨fB, fce, fco, fsr⟩ := pT
  refine x_aload_n C d_Ru_advance_0 rfl rfl ?_
  refine x_get C k_Ru f_Ru_27 d_Ru_advance_1 fU (by rfl) ?_
  refine x_if_eq (tgt := 9) C d_Ru_advance_4 rfl (fun q4 => ?_) (fun q4 => ?_)
  · skip
    refine x_iconst (v := 0) C d_Ru_advance_9 (by decide) ?_
    refine x_istore_n (lv' := [(2, _), (0, _), (1, _)]) C d_Ru_advance_10 rfl (by decide) (by rfl) ?_
    refine x_aload_n C d_Ru_advance_11 rfl rfl ?_
    refine x_get C k_Ru f_Ru_15 d_Ru_advance_12 fU (by rfl) ?_
    refine x_get C k_St f_Ru_36 d_Ru_advance_15 fS (by rfl) ?_
    refine x_tabIn (tgt := 44) C d_Ru_advance_18 (by decide) (by decide) (by rfl) rfl ?_
    refine x_aload_n C d_Ru_advance_44 rfl rfl ?_
    refine x_aload_n C d_Ru_advance_45 rfl rfl ?_
    refine x_get C k_Ru f_Ru_15 d_Ru_advance_46 fU (by rfl) ?_
    refine x_get C k_St f_Ru_41 d_Ru_advance_49 fS (by rfl) ?_
    refine x_aload_n C d_Ru_advance_52 rfl rfl ?_
    refine x_get C k_Ru f_Ru_15 d_Ru_advance_53 fU (by rfl) ?_
    refine x_get C k_St f_Ru_44 d_Ru_advance_56 fS (by rfl) ?_
    refine x_iconst (v := 0) C d_Ru_advance_59 (by decide) ?_
    refine x_iald C d_Ru_advance_60 fnb (vp_in_nI (n := 0) (by decide) (by decide)) ?_
    rw [sb_cl0]
    refine x_callV C l_Ru_47 v_Ta_create d_Ru_advance_61 (m_Ta_create ⟨fB, fce, fco, fsr⟩ ht1 (g 0)) fB rfl (by rfl) (by rfl) (by decide) (by decide) (Nat.le_of_ble_eq_true rfl) ?_
    rintro v1 h1 (⟨rfl, hc, rfl⟩ | ⟨rfl, hc, u1⟩)
    · skip
      refine x_istore_n (lv' := [(2, _), (0, _), (1, _)]) C d_Ru_advance_64 rfl (by decide) (by rfl) ?_
      refine x_goto (tgt := 122) C d_Ru_advance_65 rfl ?_
      refine x_aload_n C d_Ru_advance_122 rfl rfl ?_
      refine x_iload_n C d_Ru_advance_123 rfl rfl ?_
      refine x_callV C l_Ru_72 v_Ru_note d_Ru_advance_124 (m_Ru_note fU _) fU rfl (by rfl) (by rfl) (by decide) (by decide) (Nat.le_of_ble_eq_true rfl) ?_
      rintro v2 h2 ⟨rfl, fU', kp2⟩
      have fS := kp2.get fS (nm_c (by first | assumption | exact Ne.symm (by assumption) | exact x_ne fS fU (by simp)) nm_n)
      have fnb := kp2.get fnb (nm_c (by first | assumption | exact Ne.symm (by assumption) | exact x_ne fnb fU (by simp)) nm_n)
      have fB := kp2.get fB (nm_c (by first | assumption | exact Ne.symm (by assumption) | exact x_ne fB fU (by simp)) nm_n)
      have fce := kp2.get fce (nm_c (by first | assumption | exact Ne.symm (by assumption) | exact x_ne fce fU (by simp)) nm_n)
      have fco := kp2.get fco (nm_c (by first | assumption | exact Ne.symm (by assumption) | exact x_ne fco fU (by simp)) nm_n)
      have fsr := kp2.get fsr (nm_c (by first | assumption | exact Ne.symm (by assumption) | exact x_ne fsr fU (by simp)) nm_n)
      have kp := kp.call kp2 (kc_c (Or.inl (by simp)) kc_n)
      have fU := fU'
      refine x_iload_n C d_Ru_advance_127 rfl rfl ?_
      refine x_iret C d_Ru_advance_128 ?_
      first | exact ⟨c, -3, rfl, ⟨fB, fce, fco, fsr⟩, by rw [fU]; rfl, kp, Or.inl ⟨hc, rfl, rfl⟩⟩ | exact ⟨_, 0, rfl, ⟨fB, fce, fco, fsr⟩, by rw [fU]; rfl, kp, Or.inr ⟨hc, rfl, rfl⟩⟩
    · skip
      have fU := xUp_ne u1 fU (by first | assumption | exact Ne.symm (by assumption) | exact x_ne fU fco (by simp))
      have fS := xUp_ne u1 fS (by first | assumption | exact Ne.symm (by assumption) | exact x_ne fS fco (by simp))
      have fnb := xUp_ne u1 fnb (by first | assumption | exact Ne.symm (by assumption) | exact x_ne fnb fco (by simp))
      have fB := xUp_ne u1 fB (by first | assumption | exact Ne.symm (by assumption) | exact x_ne fB fco (by simp))
      have fce := xUp_ne u1 fce (by first | assumption | exact Ne.symm (by assumption) | exact x_ne fce fco (by simp))
      have fsr := xUp_ne u1 fsr (by first | assumption | exact Ne.symm (by assumption) | exact x_ne fsr fco (by simp))
      have fco := xUp_at u1
      have kp := kp.up u1 (by simp)
      refine x_istore_n (lv' := [(2, _), (0, _), (1, _)]) C d_Ru_advance_64 rfl (by decide) (by rfl) ?_
      refine x_goto (tgt := 122) C d_Ru_advance_65 rfl ?_
      refine x_aload_n C d_Ru_advance_122 rfl rfl ?_
      refine x_iload_n C d_Ru_advance_123 rfl rfl ?_
      refine x_callV C l_Ru_72 v_Ru_note d_Ru_advance_124 (m_Ru_note fU _) fU rfl (by rfl) (by rfl) (by decide) (by decide) (Nat.le_of_ble_eq_true rfl) ?_
      rintro v3 h3 ⟨rfl, fU', kp3⟩
      have fS := kp3.get fS (nm_c (by first | assumption | exact Ne.symm (by assumption) | exact x_ne fS fU (by simp)) nm_n)
      have fnb := kp3.get fnb (nm_c (by first | assumption | exact Ne.symm (by assumption) | exact x_ne fnb fU (by simp)) nm_n)
      have fB := kp3.get fB (nm_c (by first | assumption | exact Ne.symm (by assumption) | exact x_ne fB fU (by simp)) nm_n)
      have fce := kp3.get fce (nm_c (by first | assumption | exact Ne.symm (by assumption) | exact x_ne fce fU (by simp)) nm_n)
      have fco := kp3.get fco (nm_c (by first | assumption | exact Ne.symm (by assumption) | exact x_ne fco fU (by simp)) nm_n)
      have fsr := kp3.get fsr (nm_c (by first | assumption | exact Ne.symm (by assumption) | exact x_ne fsr fU (by simp)) nm_n)
      have kp := kp.call kp3 (kc_c (Or.inl (by simp)) kc_n)
      have fU := fU'
      refine x_iload_n C d_Ru_advance_127 rfl rfl ?_
      refine x_iret C d_Ru_advance_128 ?_
      first | exact ⟨c, -3, rfl, ⟨fB, fce, fco, fsr⟩, by rw [fU]; rfl, kp, Or.inl ⟨hc, rfl, rfl⟩⟩ | exact ⟨_, 0, rfl, ⟨fB, fce, fco, fsr⟩, by rw [fU]; rfl, kp, Or.inr ⟨hc, rfl, rfl⟩⟩
  · skip
    exact absurd rfl q4
set_option maxRecDepth 20000 in
set_option maxHeartbeats 1000000 in
theorem m_Ru_advanceI {V : xV} {h : xH} {U rd S nb pk cd B ce co sr t1 : Nat} {ls se fa nc np kc : Int32} {f c s g : Nat → Int32} {SS : Nat → Nat} (fS : h S = some (oSt 1 ls (nI t1) se fa nc nb np pk kc cd)) (fnb : h nb = some (xI V 6 g)) (pT : pTa V h B ce co sr f c s) (hS : pS s SS) (ht1 : t1 < 10) {gv on fp sp : Int32} {tt : Int64} (fU : h U = some (oRu (.ref S) gv on 0 fp sp tt rd)) : xM V y_Ru_advance b_Ru_advance 3 (some .int) 6 [.ref U, .ref B] h 0 0 (fun v h' => ∃ p an f' s' SS', v = some (.int an) ∧ pNB (fun j => f ((SS t1 + j) * 6)) (SS (t1 + 1) - SS t1) (g 0) p ∧ pTa V h' B ce co sr f' c s' ∧ pS s' SS' ∧ h' U = some (oRu (.ref S) gv 0 1 fp sp tt rd) ∧ xKeep [U, ce, sr] h h' ∧ (((p < SS (t1 + 1) - SS t1 ∧ f ((SS t1 + p) * 6) = g 0) ∧ an = -1 ∧ f' = f ∧ SS' = SS) ∨ (¬ (p < SS (t1 + 1) - SS t1 ∧ f ((SS t1 + p) * 6) = g 0) ∧ 400 ≤ SS 10 ∧ an = -2 ∧ f' = f ∧ SS' = SS) ∨ (¬ (p < SS (t1 + 1) - SS t1 ∧ f ((SS t1 + p) * 6) = g 0) ∧ SS 10 < 400 ∧ an = 0 ∧ SS' = incB SS t1 ∧ tbl f' SS' t1 = (tbl f SS t1).insertIdx p (row6 g 0) ∧ ∀ t', t' < 10 → t' ≠ t1 → tbl f' SS' t' = tbl f SS t'))) := by
  refine xM_of false (by decide) (fun h => nomatch h) (Nat.le_of_ble_eq_true rfl) (fun K C => ?_)
  show K 0 0 h 0 [(0, .ref U), (1, .ref B)] []
  have kp : xKeep [U, ce, sr] h h := xKeep.rf
  obtain ⟨fB, fce, fco, fsr⟩ := pT
  refine x_aload_n C d_Ru_advance_0 rfl rfl ?_
  refine x_get C k_Ru f_Ru_27 d_Ru_advance_1 fU (by rfl) ?_
  refine x_if_eq (tgt := 9) C d_Ru_advance_4 rfl (fun q4 => ?_) (fun q4 => ?_)
  · skip
    refine x_iconst (v := 0) C d_Ru_advance_9 (by decide) ?_
    refine x_istore_n (lv' := [(2, _), (0, _), (1, _)]) C d_Ru_advance_10 rfl (by decide) (by rfl) ?_
    refine x_aload_n C d_Ru_advance_11 rfl rfl ?_
    refine x_get C k_Ru f_Ru_15 d_Ru_advance_12 fU (by rfl) ?_
    refine x_get C k_St f_Ru_36 d_Ru_advance_15 fS (by rfl) ?_
    refine x_tabIn (tgt := 68) C d_Ru_advance_18 (by decide) (by decide) (by rfl) rfl ?_
    refine x_aload_n C d_Ru_advance_68 rfl rfl ?_
    refine x_aload_n C d_Ru_advance_69 rfl rfl ?_
    refine x_get C k_Ru f_Ru_15 d_Ru_advance_70 fU (by rfl) ?_
    refine x_get C k_St f_Ru_41 d_Ru_advance_73 fS (by rfl) ?_
    refine x_aload_n C d_Ru_advance_76 rfl rfl ?_
    refine x_get C k_Ru f_Ru_15 d_Ru_advance_77 fU (by rfl) ?_
    refine x_get C k_St f_Ru_44 d_Ru_advance_80 fS (by rfl) ?_
    refine x_callV C l_Ru_53 v_Ta_insert d_Ru_advance_83 (m_Ta_insert ⟨fB, fce, fco, fsr⟩ hS ht1 fnb) fB rfl (by rfl) (by rfl) (by decide) (by decide) (Nat.le_of_ble_eq_true rfl) ?_
    rintro v1 h1 ⟨p, hp, ⟨rfl, hc, rfl⟩ | ⟨rfl, hc, hf4, rfl⟩ | ⟨rfl, hc, hf4, s', pT', hs', kp1⟩⟩
    · skip
      refine x_istore_n (lv' := [(2, _), (0, _), (1, _)]) C d_Ru_advance_86 rfl (by decide) (by rfl) ?_
      refine x_goto (tgt := 122) C d_Ru_advance_87 rfl ?_
      refine x_aload_n C d_Ru_advance_122 rfl rfl ?_
      refine x_iload_n C d_Ru_advance_123 rfl rfl ?_
      refine x_callV C l_Ru_72 v_Ru_note d_Ru_advance_124 (m_Ru_note fU _) fU rfl (by rfl) (by rfl) (by decide) (by decide) (Nat.le_of_ble_eq_true rfl) ?_
      rintro v2 h2 ⟨rfl, fU', kp2⟩
      have fS := kp2.get fS (nm_c (by first | assumption | exact Ne.symm (by assumption) | exact x_ne fS fU (by simp)) nm_n)
      have fnb := kp2.get fnb (nm_c (by first | assumption | exact Ne.symm (by assumption) | exact x_ne fnb fU (by simp)) nm_n)
      have fB := kp2.get fB (nm_c (by first | assumption | exact Ne.symm (by assumption) | exact x_ne fB fU (by simp)) nm_n)
      have fce := kp2.get fce (nm_c (by first | assumption | exact Ne.symm (by assumption) | exact x_ne fce fU (by simp)) nm_n)
      have fco := kp2.get fco (nm_c (by first | assumption | exact Ne.symm (by assumption) | exact x_ne fco fU (by simp)) nm_n)
      have fsr := kp2.get fsr (nm_c (by first | assumption | exact Ne.symm (by assumption) | exact x_ne fsr fU (by simp)) nm_n)
      have kp := kp.call kp2 (kc_c (Or.inl (by simp)) kc_n)
      have fU := fU'
      refine x_iload_n C d_Ru_advance_127 rfl rfl ?_
      refine x_iret C d_Ru_advance_128 ?_
      first | exact ⟨p, -1, f, s, SS, rfl, hp, ⟨fB, fce, fco, fsr⟩, hS, by rw [fU]; rfl, kp, Or.inl ⟨hc, rfl, rfl, rfl⟩⟩ | exact ⟨p, -2, f, s, SS, rfl, hp, ⟨fB, fce, fco, fsr⟩, hS, by rw [fU]; rfl, kp, Or.inr (Or.inl ⟨hc, hf4, rfl, rfl, rfl⟩)⟩ | exact ⟨p, 0, _, s', incB SS t1, rfl, hp, ⟨fB, fce, fco, fsr⟩, hS.inc ht1 hs' hf4, by rw [fU]; rfl, kp, Or.inr (Or.inr ⟨hc, hf4, rfl, rfl, tbl_ins hS ht1 hp.1, fun t' h1 h2 => tbl_insO hS ht1 h1 h2 hp.1⟩)⟩
    · skip
      refine x_istore_n (lv' := [(2, _), (0, _), (1, _)]) C d_Ru_advance_86 rfl (by decide) (by rfl) ?_
      refine x_goto (tgt := 122) C d_Ru_advance_87 rfl ?_
      refine x_aload_n C d_Ru_advance_122 rfl rfl ?_
      refine x_iload_n C d_Ru_advance_123 rfl rfl ?_
      refine x_callV C l_Ru_72 v_Ru_note d_Ru_advance_124 (m_Ru_note fU _) fU rfl (by rfl) (by rfl) (by decide) (by decide) (Nat.le_of_ble_eq_true rfl) ?_
      rintro v3 h3 ⟨rfl, fU', kp3⟩
      have fS := kp3.get fS (nm_c (by first | assumption | exact Ne.symm (by assumption) | exact x_ne fS fU (by simp)) nm_n)
      have fnb := kp3.get fnb (nm_c (by first | assumption | exact Ne.symm (by assumption) | exact x_ne fnb fU (by simp)) nm_n)
      have fB := kp3.get fB (nm_c (by first | assumption | exact Ne.symm (by assumption) | exact x_ne fB fU (by simp)) nm_n)
      have fce := kp3.get fce (nm_c (by first | assumption | exact Ne.symm (by assumption) | exact x_ne fce fU (by simp)) nm_n)
      have fco := kp3.get fco (nm_c (by first | assumption | exact Ne.symm (by assumption) | exact x_ne fco fU (by simp)) nm_n)
      have fsr := kp3.get fsr (nm_c (by first | assumption | exact Ne.symm (by assumption) | exact x_ne fsr fU (by simp)) nm_n)
      have kp := kp.call kp3 (kc_c (Or.inl (by simp)) kc_n)
      have fU := fU'
      refine x_iload_n C d_Ru_advance_127 rfl rfl ?_
      refine x_iret C d_Ru_advance_128 ?_
      first | exact ⟨p, -1, f, s, SS, rfl, hp, ⟨fB, fce, fco, fsr⟩, hS, by rw [fU]; rfl, kp, Or.inl ⟨hc, rfl, rfl, rfl⟩⟩ | exact ⟨p, -2, f, s, SS, rfl, hp, ⟨fB, fce, fco, fsr⟩, hS, by rw [fU]; rfl, kp, Or.inr (Or.inl ⟨hc, hf4, rfl, rfl, rfl⟩)⟩ | exact ⟨p, 0, _, s', incB SS t1, rfl, hp, ⟨fB, fce, fco, fsr⟩, hS.inc ht1 hs' hf4, by rw [fU]; rfl, kp, Or.inr (Or.inr ⟨hc, hf4, rfl, rfl, tbl_ins hS ht1 hp.1, fun t' h1 h2 => tbl_insO hS ht1 h1 h2 hp.1⟩)⟩
    · skip
      have fU := kp1.get fU (nm_c (by first | assumption | exact Ne.symm (by assumption) | exact x_ne fU fce (by simp)) (nm_c (by first | assumption | exact Ne.symm (by assumption) | exact x_ne fU fsr (by simp)) nm_n))
      have fS := kp1.get fS (nm_c (by first | assumption | exact Ne.symm (by assumption) | exact x_ne fS fce (by simp)) (nm_c (by first | assumption | exact Ne.symm (by assumption) | exact x_ne fS fsr (by simp)) nm_n))
      have fnb := kp1.get fnb (nm_c (by first | assumption | exact Ne.symm (by assumption) | exact x_ne fnb fce (by simp)) (nm_c (by first | assumption | exact Ne.symm (by assumption) | exact x_ne fnb fsr (by simp)) nm_n))
      have fB := kp1.get fB (nm_c (by first | assumption | exact Ne.symm (by assumption) | exact x_ne fB fce (by simp)) (nm_c (by first | assumption | exact Ne.symm (by assumption) | exact x_ne fB fsr (by simp)) nm_n))
      have fco := kp1.get fco (nm_c (by first | assumption | exact Ne.symm (by assumption) | exact x_ne fco fce (by simp)) (nm_c (by first | assumption | exact Ne.symm (by assumption) | exact x_ne fco fsr (by simp)) nm_n))
      have kp := kp.call kp1 (kc_c (Or.inl (by simp)) (kc_c (Or.inl (by simp)) kc_n))
      have fce := pT'.2.1
      have fsr := pT'.2.2.2
      refine x_istore_n (lv' := [(2, _), (0, _), (1, _)]) C d_Ru_advance_86 rfl (by decide) (by rfl) ?_
      refine x_goto (tgt := 122) C d_Ru_advance_87 rfl ?_
      refine x_aload_n C d_Ru_advance_122 rfl rfl ?_
      refine x_iload_n C d_Ru_advance_123 rfl rfl ?_
      refine x_callV C l_Ru_72 v_Ru_note d_Ru_advance_124 (m_Ru_note fU _) fU rfl (by rfl) (by rfl) (by decide) (by decide) (Nat.le_of_ble_eq_true rfl) ?_
      rintro v4 h4 ⟨rfl, fU', kp4⟩
      have fS := kp4.get fS (nm_c (by first | assumption | exact Ne.symm (by assumption) | exact x_ne fS fU (by simp)) nm_n)
      have fnb := kp4.get fnb (nm_c (by first | assumption | exact Ne.symm (by assumption) | exact x_ne fnb fU (by simp)) nm_n)
      have fB := kp4.get fB (nm_c (by first | assumption | exact Ne.symm (by assumption) | exact x_ne fB fU (by simp)) nm_n)
      have fce := kp4.get fce (nm_c (by first | assumption | exact Ne.symm (by assumption) | exact x_ne fce fU (by simp)) nm_n)
      have fco := kp4.get fco (nm_c (by first | assumption | exact Ne.symm (by assumption) | exact x_ne fco fU (by simp)) nm_n)
      have fsr := kp4.get fsr (nm_c (by first | assumption | exact Ne.symm (by assumption) | exact x_ne fsr fU (by simp)) nm_n)
      have kp := kp.call kp4 (kc_c (Or.inl (by simp)) kc_n)
      have fU := fU'
      refine x_iload_n C d_Ru_advance_127 rfl rfl ?_
      refine x_iret C d_Ru_advance_128 ?_
      first | exact ⟨p, -1, f, s, SS, rfl, hp, ⟨fB, fce, fco, fsr⟩, hS, by rw [fU]; rfl, kp, Or.inl ⟨hc, rfl, rfl, rfl⟩⟩ | exact ⟨p, -2, f, s, SS, rfl, hp, ⟨fB, fce, fco, fsr⟩, hS, by rw [fU]; rfl, kp, Or.inr (Or.inl ⟨hc, hf4, rfl, rfl, rfl⟩)⟩ | exact ⟨p, 0, _, s', incB SS t1, rfl, hp, ⟨fB, fce, fco, fsr⟩, hS.inc ht1 hs' hf4, by rw [fU]; rfl, kp, Or.inr (Or.inr ⟨hc, hf4, rfl, rfl, tbl_ins hS ht1 hp.1, fun t' h1 h2 => tbl_insO hS ht1 h1 h2 hp.1⟩)⟩
  · skip
    exact absurd rfl q4
set_option maxRecDepth 20000 in
set_option maxHeartbeats 1000000 in
theorem m_Ru_advanceD {V : xV} {h : xH} {U rd S nb pk cd B ce co sr : Nat} {ls se fa nc : Int32} {np kc t1 : Nat} {f c s g : Nat → Int32} {po cp : Nat → Option Nat} {pick : Nat → Int32} {cf : Nat → tCd} {SS : Nat → Nat} (fS : h S = some (oSt 2 ls (nI t1) se fa nc nb (nI np) pk (nI kc) cd)) (fpk : h pk = some (xR V 2 12 po)) (fcd : h cd = some (xR V 3 8 cp)) (hnp : np ≤ 12) (hkc : kc ≤ 8) (pO : pOps h po np pick) (pC : pCds h cp kc cf) (pT : pTa V h B ce co sr f c s) (hS : pS s SS) (ht1 : t1 < 10) (frd : h rd = some (xI V 16 g)) (hin : ∀ j, j < kc → cdIn (cf j)) {gv on fp sp : Int32} {tt : Int64} (fU : h U = some (oRu (.ref S) gv on 0 fp sp tt rd)) : xM V y_Ru_advance b_Ru_advance 3 (some .int) 6 [.ref U, .ref B] h 0 0 (fun v h' => v = some (.int 0) ∧ ∃ f' s' SS' g', pTa V h' B ce co sr f' c s' ∧ pS s' SS' ∧ SS' 0 = SS 0 ∧ tbl f' SS' t1 = (tbl f SS t1).filter (fun r => !cdsVal kc cf (mix r g)) ∧ (∀ t', t' < 10 → t' ≠ t1 → tbl f' SS' t' = tbl f SS t') ∧ h' rd = some (xI V 16 g') ∧ rdE (-1) g' g ∧ h' U = some (oRu (.ref S) gv 0 1 fp sp tt rd) ∧ xKeep [U, ce, sr, rd] h h') := by
  refine xM_of false (by decide) (fun h => nomatch h) (Nat.le_of_ble_eq_true rfl) (fun K C => ?_)
  show K 0 0 h 0 [(0, .ref U), (1, .ref B)] []
  have kp : xKeep [U, ce, sr, rd] h h := xKeep.rf
  obtain ⟨fB, fce, fco, fsr⟩ := pT
  refine x_aload_n C d_Ru_advance_0 rfl rfl ?_
  refine x_get C k_Ru f_Ru_27 d_Ru_advance_1 fU (by rfl) ?_
  refine x_if_eq (tgt := 9) C d_Ru_advance_4 rfl (fun q4 => ?_) (fun q4 => ?_)
  · skip
    refine x_iconst (v := 0) C d_Ru_advance_9 (by decide) ?_
    refine x_istore_n (lv' := [(2, _), (0, _), (1, _)]) C d_Ru_advance_10 rfl (by decide) (by rfl) ?_
    refine x_aload_n C d_Ru_advance_11 rfl rfl ?_
    refine x_get C k_Ru f_Ru_15 d_Ru_advance_12 fU (by rfl) ?_
    refine x_get C k_St f_Ru_36 d_Ru_advance_15 fS (by rfl) ?_
    refine x_tabIn (tgt := 90) C d_Ru_advance_18 (by decide) (by decide) (by rfl) rfl ?_
    refine x_aload_n C d_Ru_advance_90 rfl rfl ?_
    refine x_aload_n C d_Ru_advance_91 rfl rfl ?_
    refine x_callV C l_Ru_57 v_Ru_deleteRows d_Ru_advance_92 (m_Ru_deleteRows fS fpk fcd hnp hkc pO pC ⟨fB, fce, fco, fsr⟩ hS ht1 frd hin fU) fU rfl (by rfl) (by rfl) (by decide) (by decide) (Nat.le_of_ble_eq_true rfl) ?_
    rintro v1 h1 ⟨rfl, f', s', SS', g', pT', hS', hz', ht', hto, frd', hE', kp1⟩
    have fU := kp1.get fU (nm_c (by first | assumption | exact Ne.symm (by assumption) | exact x_ne fU fce (by simp)) (nm_c (by first | assumption | exact Ne.symm (by assumption) | exact x_ne fU fsr (by simp)) (nm_c (by first | assumption | exact Ne.symm (by assumption) | exact x_ne fU frd (by simp)) nm_n)))
    have fS := kp1.get fS (nm_c (by first | assumption | exact Ne.symm (by assumption) | exact x_ne fS fce (by simp)) (nm_c (by first | assumption | exact Ne.symm (by assumption) | exact x_ne fS fsr (by simp)) (nm_c (by first | assumption | exact Ne.symm (by assumption) | exact x_ne fS frd (by simp)) nm_n)))
    have fpk := kp1.get fpk (nm_c (by first | assumption | exact Ne.symm (by assumption) | exact x_ne fpk fce (by simp)) (nm_c (by first | assumption | exact Ne.symm (by assumption) | exact x_ne fpk fsr (by simp)) (nm_c (by first | assumption | exact Ne.symm (by assumption) | exact x_ne fpk frd (by simp)) nm_n)))
    have fcd := kp1.get fcd (nm_c (by first | assumption | exact Ne.symm (by assumption) | exact x_ne fcd fce (by simp)) (nm_c (by first | assumption | exact Ne.symm (by assumption) | exact x_ne fcd fsr (by simp)) (nm_c (by first | assumption | exact Ne.symm (by assumption) | exact x_ne fcd frd (by simp)) nm_n)))
    have fB := kp1.get fB (nm_c (by first | assumption | exact Ne.symm (by assumption) | exact x_ne fB fce (by simp)) (nm_c (by first | assumption | exact Ne.symm (by assumption) | exact x_ne fB fsr (by simp)) (nm_c (by first | assumption | exact Ne.symm (by assumption) | exact x_ne fB frd (by simp)) nm_n)))
    have fco := kp1.get fco (nm_c (by first | assumption | exact Ne.symm (by assumption) | exact x_ne fco fce (by simp)) (nm_c (by first | assumption | exact Ne.symm (by assumption) | exact x_ne fco fsr (by simp)) (nm_c (by first | assumption | exact Ne.symm (by assumption) | exact x_ne fco frd (by simp)) nm_n)))
    have kp := kp.call kp1 (kc_c (Or.inl (by simp)) (kc_c (Or.inl (by simp)) (kc_c (Or.inl (by simp)) kc_n)))
    have fce := pT'.2.1
    have fsr := pT'.2.2.2
    have frd := frd'
    refine x_goto (tgt := 122) C d_Ru_advance_95 rfl ?_
    refine x_aload_n C d_Ru_advance_122 rfl rfl ?_
    refine x_iload_n C d_Ru_advance_123 rfl rfl ?_
    refine x_callV C l_Ru_72 v_Ru_note d_Ru_advance_124 (m_Ru_note fU 0) fU rfl (by rfl) (by rfl) (by decide) (by decide) (Nat.le_of_ble_eq_true rfl) ?_
    rintro v2 h2 ⟨rfl, fU', kp2⟩
    have frd := kp2.get frd (nm_c (by first | assumption | exact Ne.symm (by assumption) | exact x_ne frd fU (by simp)) nm_n)
    have fS := kp2.get fS (nm_c (by first | assumption | exact Ne.symm (by assumption) | exact x_ne fS fU (by simp)) nm_n)
    have fpk := kp2.get fpk (nm_c (by first | assumption | exact Ne.symm (by assumption) | exact x_ne fpk fU (by simp)) nm_n)
    have fcd := kp2.get fcd (nm_c (by first | assumption | exact Ne.symm (by assumption) | exact x_ne fcd fU (by simp)) nm_n)
    have fB := kp2.get fB (nm_c (by first | assumption | exact Ne.symm (by assumption) | exact x_ne fB fU (by simp)) nm_n)
    have fce := kp2.get fce (nm_c (by first | assumption | exact Ne.symm (by assumption) | exact x_ne fce fU (by simp)) nm_n)
    have fco := kp2.get fco (nm_c (by first | assumption | exact Ne.symm (by assumption) | exact x_ne fco fU (by simp)) nm_n)
    have fsr := kp2.get fsr (nm_c (by first | assumption | exact Ne.symm (by assumption) | exact x_ne fsr fU (by simp)) nm_n)
    have kp := kp.call kp2 (kc_c (Or.inl (by simp)) kc_n)
    have fU := fU'
    refine x_iload_n C d_Ru_advance_127 rfl rfl ?_
    refine x_iret C d_Ru_advance_128 ?_
    exact ⟨rfl, f', s', SS', g', ⟨fB, fce, fco, fsr⟩, hS', hz', ht', hto, frd, hE', by rw [fU]; rfl, kp⟩
  · skip
    exact absurd rfl q4
set_option maxRecDepth 20000 in
set_option maxHeartbeats 1000000 in
theorem m_Ru_advanceT {V : xV} {h : xH} {U rd S nb pk cd B ce co sr : Nat} {ls se fa nc : Int32} {np kc t1 t2 n2 : Nat} {f c s g : Nat → Int32} {po cp : Nat → Option Nat} {pick : Nat → Int32} {cf : Nat → tCd} {SS : Nat → Nat} (fS : h S = some (oSt 3 ls (nI t1) se fa nc nb (nI np) pk (nI kc) cd)) (fpk : h pk = some (xR V 2 12 po)) (fcd : h cd = some (xR V 3 8 cp)) (hnp : np ≤ 12) (hkc : kc ≤ 8) (pO : pOps h po np pick) (pC : pCds h cp kc cf) (pT : pTa V h B ce co sr f c s) (hS : pS s SS) (ht1 : t1 < 10) (h2 : (se = -1 ∧ n2 = 1) ∨ (se = nI t2 ∧ t2 < 10 ∧ n2 = SS (t2 + 1) - SS t2)) (frd : h rd = some (xI V 16 g)) (hin : ∀ j, j < kc → cdIn (cf j)) {on : Int32} {tt : Int64} {gv : Nat} (fU : h U = some (oRu (.ref S) (nI gv) on 0 0 0 tt rd)) (hgv : gv < 2 ^ 31 - 1) (hT : ls = 5 ∨ ls = 6) (hsum : ls = 5 ∨ (0 < np ∧ vp_in (pick 0) 16)) : xM V y_Ru_advance b_Ru_advance 3 (some .int) 6 [.ref U, .ref B] h 0 0 (fun v h' => (0 < gv ∧ v = some (.int 0) ∧ h' U = some (oRu (.ref S) (nI gv) 0 1 0 0 tt rd) ∧ xKeep [U, rd] h h') ∨ (gv = 0 ∧ v = some (.int 1) ∧ ∃ g' fp' sp', xKeep [U, rd] h h' ∧ h' rd = some (xI V 16 g') ∧ rdE se g' g ∧ h' U = some (oRu (.ref S) 1 1 0 fp' sp' (sumUp (fun a b => if (fun a b => cdsVal kc cf (rdF f g ((SS t1 + plc fa (SS (t1 + 1) - SS t1) a) * 6) (sec se fa (SS t2) n2 b))) a b = true then (fun a b => if ls = 5 then (1 : Int64) else (opVal 2 (pick 0) (rdF f g ((SS t1 + plc fa (SS (t1 + 1) - SS t1) a) * 6) (sec se fa (SS t2) n2 b))).toInt64) a b else 0) n2 (SS (t1 + 1) - SS t1) 0) rd))) := by
  refine xM_of false (by decide) (fun h => nomatch h) (Nat.le_of_ble_eq_true rfl) (fun K C => ?_)
  show K 0 0 h 0 [(0, .ref U), (1, .ref B)] []
  have kp : xKeep [U, rd] h h := xKeep.rf
  obtain ⟨fB, fce, fco, fsr⟩ := pT
  refine x_aload_n C d_Ru_advance_0 rfl rfl ?_
  refine x_get C k_Ru f_Ru_27 d_Ru_advance_1 fU (by rfl) ?_
  refine x_if_eq (tgt := 9) C d_Ru_advance_4 rfl (fun q4 => ?_) (fun q4 => ?_)
  · skip
    refine x_iconst (v := 0) C d_Ru_advance_9 (by decide) ?_
    refine x_istore_n (lv' := [(2, _), (0, _), (1, _)]) C d_Ru_advance_10 rfl (by decide) (by rfl) ?_
    refine x_aload_n C d_Ru_advance_11 rfl rfl ?_
    refine x_get C k_Ru f_Ru_15 d_Ru_advance_12 fU (by rfl) ?_
    refine x_get C k_St f_Ru_36 d_Ru_advance_15 fS (by rfl) ?_
    refine x_tabOut (tgt := 98) C d_Ru_advance_18 (by decide) rfl ?_
    refine x_aload_n C d_Ru_advance_98 rfl rfl ?_
    refine x_get C k_Ru f_Ru_15 d_Ru_advance_99 fU (by rfl) ?_
    refine x_callV C l_Ru_61 v_St_hasTotal d_Ru_advance_102 (m_St_hasTotal fS) fS rfl (by rfl) (by rfl) (by decide) (by decide) (Nat.le_of_ble_eq_true rfl) ?_
    rintro v9 h9 ⟨rfl, rfl⟩
    refine x_if_eq (tgt := 116) C d_Ru_advance_105 rfl (fun q105 => ?_) (fun q105 => ?_)
    · skip
      replace q105 := bI_f q105
      rcases hT with z | z <;> (rw [z] at q105; exact absurd q105 (by decide))
    · skip
      replace q105 := bI_t q105
      refine x_aload_n C d_Ru_advance_108 rfl rfl ?_
      refine x_aload_n C d_Ru_advance_109 rfl rfl ?_
      refine x_callV C l_Ru_65 v_Ru_giveTotal d_Ru_advance_110 (m_Ru_giveTotal fS fpk fcd hnp hkc pO pC ⟨fB, fce, fco, fsr⟩ hS ht1 h2 frd hin fU (by omega) hsum) fU rfl (by rfl) (by rfl) (by decide) (by decide) (Nat.le_of_ble_eq_true rfl) ?_
      rintro v1 h1 (⟨hg0, rfl, rfl⟩ | ⟨hg0, rfl, g', fp', sp', kp1, frd', hE', fU'⟩)
      · skip
        refine x_goto (tgt := 121) C d_Ru_advance_113 rfl ?_
        refine x_istore_n (lv' := [(2, _), (0, _), (1, _)]) C d_Ru_advance_121 rfl (by decide) (by rfl) ?_
        refine x_aload_n C d_Ru_advance_122 rfl rfl ?_
        refine x_iload_n C d_Ru_advance_123 rfl rfl ?_
        refine x_callV C l_Ru_72 v_Ru_note d_Ru_advance_124 (m_Ru_note fU _) fU rfl (by rfl) (by rfl) (by decide) (by decide) (Nat.le_of_ble_eq_true rfl) ?_
        rintro v2 h2 ⟨rfl, fU', kp2⟩
        have frd := kp2.get frd (nm_c (by first | assumption | exact Ne.symm (by assumption) | exact x_ne frd fU (by simp)) nm_n)
        have fS := kp2.get fS (nm_c (by first | assumption | exact Ne.symm (by assumption) | exact x_ne fS fU (by simp)) nm_n)
        have fpk := kp2.get fpk (nm_c (by first | assumption | exact Ne.symm (by assumption) | exact x_ne fpk fU (by simp)) nm_n)
        have fcd := kp2.get fcd (nm_c (by first | assumption | exact Ne.symm (by assumption) | exact x_ne fcd fU (by simp)) nm_n)
        have fB := kp2.get fB (nm_c (by first | assumption | exact Ne.symm (by assumption) | exact x_ne fB fU (by simp)) nm_n)
        have fce := kp2.get fce (nm_c (by first | assumption | exact Ne.symm (by assumption) | exact x_ne fce fU (by simp)) nm_n)
        have fco := kp2.get fco (nm_c (by first | assumption | exact Ne.symm (by assumption) | exact x_ne fco fU (by simp)) nm_n)
        have fsr := kp2.get fsr (nm_c (by first | assumption | exact Ne.symm (by assumption) | exact x_ne fsr fU (by simp)) nm_n)
        have kp := kp.call kp2 (kc_c (Or.inl (by simp)) kc_n)
        have fU := fU'
        refine x_iload_n C d_Ru_advance_127 rfl rfl ?_
        refine x_iret C d_Ru_advance_128 ?_
        first | (refine Or.inl ⟨hg0, rfl, ?_, kp⟩; rw [fU]; rfl) | (refine Or.inr ⟨hg0, rfl, g', fp', sp', kp, frd, hE', ?_⟩; subst hg0; rw [fU]; rfl)
      · skip
        have fS := kp1.get fS (nm_c (by first | assumption | exact Ne.symm (by assumption) | exact x_ne fS fU (by simp)) (nm_c (by first | assumption | exact Ne.symm (by assumption) | exact x_ne fS frd (by simp)) nm_n))
        have fpk := kp1.get fpk (nm_c (by first | assumption | exact Ne.symm (by assumption) | exact x_ne fpk fU (by simp)) (nm_c (by first | assumption | exact Ne.symm (by assumption) | exact x_ne fpk frd (by simp)) nm_n))
        have fcd := kp1.get fcd (nm_c (by first | assumption | exact Ne.symm (by assumption) | exact x_ne fcd fU (by simp)) (nm_c (by first | assumption | exact Ne.symm (by assumption) | exact x_ne fcd frd (by simp)) nm_n))
        have fB := kp1.get fB (nm_c (by first | assumption | exact Ne.symm (by assumption) | exact x_ne fB fU (by simp)) (nm_c (by first | assumption | exact Ne.symm (by assumption) | exact x_ne fB frd (by simp)) nm_n))
        have fce := kp1.get fce (nm_c (by first | assumption | exact Ne.symm (by assumption) | exact x_ne fce fU (by simp)) (nm_c (by first | assumption | exact Ne.symm (by assumption) | exact x_ne fce frd (by simp)) nm_n))
        have fco := kp1.get fco (nm_c (by first | assumption | exact Ne.symm (by assumption) | exact x_ne fco fU (by simp)) (nm_c (by first | assumption | exact Ne.symm (by assumption) | exact x_ne fco frd (by simp)) nm_n))
        have fsr := kp1.get fsr (nm_c (by first | assumption | exact Ne.symm (by assumption) | exact x_ne fsr fU (by simp)) (nm_c (by first | assumption | exact Ne.symm (by assumption) | exact x_ne fsr frd (by simp)) nm_n))
        have kp := kp.call kp1 (kc_c (Or.inl (by simp)) (kc_c (Or.inl (by simp)) kc_n))
        have fU := fU'
        have frd := frd'
        refine x_goto (tgt := 121) C d_Ru_advance_113 rfl ?_
        refine x_istore_n (lv' := [(2, _), (0, _), (1, _)]) C d_Ru_advance_121 rfl (by decide) (by rfl) ?_
        refine x_aload_n C d_Ru_advance_122 rfl rfl ?_
        refine x_iload_n C d_Ru_advance_123 rfl rfl ?_
        refine x_callV C l_Ru_72 v_Ru_note d_Ru_advance_124 (m_Ru_note fU _) fU rfl (by rfl) (by rfl) (by decide) (by decide) (Nat.le_of_ble_eq_true rfl) ?_
        rintro v3 h3 ⟨rfl, fU', kp3⟩
        have frd := kp3.get frd (nm_c (by first | assumption | exact Ne.symm (by assumption) | exact x_ne frd fU (by simp)) nm_n)
        have fS := kp3.get fS (nm_c (by first | assumption | exact Ne.symm (by assumption) | exact x_ne fS fU (by simp)) nm_n)
        have fpk := kp3.get fpk (nm_c (by first | assumption | exact Ne.symm (by assumption) | exact x_ne fpk fU (by simp)) nm_n)
        have fcd := kp3.get fcd (nm_c (by first | assumption | exact Ne.symm (by assumption) | exact x_ne fcd fU (by simp)) nm_n)
        have fB := kp3.get fB (nm_c (by first | assumption | exact Ne.symm (by assumption) | exact x_ne fB fU (by simp)) nm_n)
        have fce := kp3.get fce (nm_c (by first | assumption | exact Ne.symm (by assumption) | exact x_ne fce fU (by simp)) nm_n)
        have fco := kp3.get fco (nm_c (by first | assumption | exact Ne.symm (by assumption) | exact x_ne fco fU (by simp)) nm_n)
        have fsr := kp3.get fsr (nm_c (by first | assumption | exact Ne.symm (by assumption) | exact x_ne fsr fU (by simp)) nm_n)
        have kp := kp.call kp3 (kc_c (Or.inl (by simp)) kc_n)
        have fU := fU'
        refine x_iload_n C d_Ru_advance_127 rfl rfl ?_
        refine x_iret C d_Ru_advance_128 ?_
        first | (refine Or.inl ⟨hg0, rfl, ?_, kp⟩; rw [fU]; rfl) | (refine Or.inr ⟨hg0, rfl, g', fp', sp', kp, frd, hE', ?_⟩; subst hg0; rw [fU]; rfl)
  · skip
    exact absurd rfl q4
set_option maxRecDepth 20000 in
set_option maxHeartbeats 1000000 in
theorem m_Ru_advanceR {V : xV} {h : xH} {U rd S nb pk cd B ce co sr : Nat} {ls se fa nc : Int32} {np kc t1 t2 n2 : Nat} {f c s g : Nat → Int32} {po cp : Nat → Option Nat} {pick : Nat → Int32} {cf : Nat → tCd} {SS : Nat → Nat} (fS : h S = some (oSt 3 ls (nI t1) se fa nc nb (nI np) pk (nI kc) cd)) (fpk : h pk = some (xR V 2 12 po)) (fcd : h cd = some (xR V 3 8 cp)) (hnp : np ≤ 12) (hkc : kc ≤ 8) (pO : pOps h po np pick) (pC : pCds h cp kc cf) (pT : pTa V h B ce co sr f c s) (hS : pS s SS) (ht1 : t1 < 10) (h2 : (se = -1 ∧ n2 = 1) ∨ (se = nI t2 ∧ t2 < 10 ∧ n2 = SS (t2 + 1) - SS t2)) (frd : h rd = some (xI V 16 g)) (hin : ∀ j, j < kc → cdIn (cf j)) {on : Int32} {tt : Int64} {gv : Int32} {i j : Nat} (fU : h U = some (oRu (.ref S) gv on 0 (nI i) (nI j) tt rd)) (hi : i ≤ (SS (t1 + 1) - SS t1)) (hj : j ≤ n2) (hT : ¬ (ls = 5 ∨ ls = 6)) : xM V y_Ru_advance b_Ru_advance 3 (some .int) 6 [.ref U, .ref B] h 0 0 (fun v h' => ∃ g', xKeep [U, rd] h h' ∧ h' rd = some (xI V 16 g') ∧ rdE se g' g ∧ ((v = some (.int 0) ∧ bad (fun a b => cdsVal kc cf (rdF f g ((SS t1 + plc fa (SS (t1 + 1) - SS t1) a) * 6) (sec se fa (SS t2) n2 b))) (SS (t1 + 1) - SS t1) n2 i j (SS (t1 + 1) - SS t1) 0 ∧ ∃ i' j', h' U = some (oRu (.ref S) gv 0 1 (nI i') (nI j') tt rd)) ∨ (v = some (.int 1) ∧ ∃ i' j', i' < (SS (t1 + 1) - SS t1) ∧ j' < n2 ∧ bhd i j i' j' ∧ bad (fun a b => cdsVal kc cf (rdF f g ((SS t1 + plc fa (SS (t1 + 1) - SS t1) a) * 6) (sec se fa (SS t2) n2 b))) (SS (t1 + 1) - SS t1) n2 i j i' j' ∧ (fun a b => cdsVal kc cf (rdF f g ((SS t1 + plc fa (SS (t1 + 1) - SS t1) a) * 6) (sec se fa (SS t2) n2 b))) i' j' = true ∧ g' = rdF f g ((SS t1 + plc fa (SS (t1 + 1) - SS t1) i') * 6) (sec se fa (SS t2) n2 j') ∧ h' U = some (oRu (.ref S) (gv + 1) 1 0 (nI i') (nI (j' + 1)) tt rd)))) := by
  refine xM_of false (by decide) (fun h => nomatch h) (Nat.le_of_ble_eq_true rfl) (fun K C => ?_)
  show K 0 0 h 0 [(0, .ref U), (1, .ref B)] []
  have kp : xKeep [U, rd] h h := xKeep.rf
  obtain ⟨fB, fce, fco, fsr⟩ := pT
  refine x_aload_n C d_Ru_advance_0 rfl rfl ?_
  refine x_get C k_Ru f_Ru_27 d_Ru_advance_1 fU (by rfl) ?_
  refine x_if_eq (tgt := 9) C d_Ru_advance_4 rfl (fun q4 => ?_) (fun q4 => ?_)
  · skip
    refine x_iconst (v := 0) C d_Ru_advance_9 (by decide) ?_
    refine x_istore_n (lv' := [(2, _), (0, _), (1, _)]) C d_Ru_advance_10 rfl (by decide) (by rfl) ?_
    refine x_aload_n C d_Ru_advance_11 rfl rfl ?_
    refine x_get C k_Ru f_Ru_15 d_Ru_advance_12 fU (by rfl) ?_
    refine x_get C k_St f_Ru_36 d_Ru_advance_15 fS (by rfl) ?_
    refine x_tabOut (tgt := 98) C d_Ru_advance_18 (by decide) rfl ?_
    refine x_aload_n C d_Ru_advance_98 rfl rfl ?_
    refine x_get C k_Ru f_Ru_15 d_Ru_advance_99 fU (by rfl) ?_
    refine x_callV C l_Ru_61 v_St_hasTotal d_Ru_advance_102 (m_St_hasTotal fS) fS rfl (by rfl) (by rfl) (by decide) (by decide) (Nat.le_of_ble_eq_true rfl) ?_
    rintro v9 h9 ⟨rfl, rfl⟩
    refine x_if_eq (tgt := 116) C d_Ru_advance_105 rfl (fun q105 => ?_) (fun q105 => ?_)
    · skip
      replace q105 := bI_f q105
      refine x_aload_n C d_Ru_advance_116 rfl rfl ?_
      refine x_aload_n C d_Ru_advance_117 rfl rfl ?_
      refine x_callV C l_Ru_69 v_Ru_giveRow d_Ru_advance_118 (m_Ru_giveRow fS fpk fcd hnp hkc pO pC ⟨fB, fce, fco, fsr⟩ hS ht1 h2 frd hin fU hi hj) fU rfl (by rfl) (by rfl) (by decide) (by decide) (Nat.le_of_ble_eq_true rfl) ?_
      rintro v1 h1 ⟨g', kp1, frd', hE', ⟨rfl, hbad, i', j', hi', hj', fU'⟩ | ⟨rfl, i', j', hi', hj', hbh, hbad, hG, hg', fU'⟩⟩
      · skip
        have fS := kp1.get fS (nm_c (by first | assumption | exact Ne.symm (by assumption) | exact x_ne fS fU (by simp)) (nm_c (by first | assumption | exact Ne.symm (by assumption) | exact x_ne fS frd (by simp)) nm_n))
        have fpk := kp1.get fpk (nm_c (by first | assumption | exact Ne.symm (by assumption) | exact x_ne fpk fU (by simp)) (nm_c (by first | assumption | exact Ne.symm (by assumption) | exact x_ne fpk frd (by simp)) nm_n))
        have fcd := kp1.get fcd (nm_c (by first | assumption | exact Ne.symm (by assumption) | exact x_ne fcd fU (by simp)) (nm_c (by first | assumption | exact Ne.symm (by assumption) | exact x_ne fcd frd (by simp)) nm_n))
        have fB := kp1.get fB (nm_c (by first | assumption | exact Ne.symm (by assumption) | exact x_ne fB fU (by simp)) (nm_c (by first | assumption | exact Ne.symm (by assumption) | exact x_ne fB frd (by simp)) nm_n))
        have fce := kp1.get fce (nm_c (by first | assumption | exact Ne.symm (by assumption) | exact x_ne fce fU (by simp)) (nm_c (by first | assumption | exact Ne.symm (by assumption) | exact x_ne fce frd (by simp)) nm_n))
        have fco := kp1.get fco (nm_c (by first | assumption | exact Ne.symm (by assumption) | exact x_ne fco fU (by simp)) (nm_c (by first | assumption | exact Ne.symm (by assumption) | exact x_ne fco frd (by simp)) nm_n))
        have fsr := kp1.get fsr (nm_c (by first | assumption | exact Ne.symm (by assumption) | exact x_ne fsr fU (by simp)) (nm_c (by first | assumption | exact Ne.symm (by assumption) | exact x_ne fsr frd (by simp)) nm_n))
        have kp := kp.call kp1 (kc_c (Or.inl (by simp)) (kc_c (Or.inl (by simp)) kc_n))
        have fU := fU'
        have frd := frd'
        refine x_istore_n (lv' := [(2, _), (0, _), (1, _)]) C d_Ru_advance_121 rfl (by decide) (by rfl) ?_
        refine x_aload_n C d_Ru_advance_122 rfl rfl ?_
        refine x_iload_n C d_Ru_advance_123 rfl rfl ?_
        refine x_callV C l_Ru_72 v_Ru_note d_Ru_advance_124 (m_Ru_note fU _) fU rfl (by rfl) (by rfl) (by decide) (by decide) (Nat.le_of_ble_eq_true rfl) ?_
        rintro v2 h2 ⟨rfl, fU', kp2⟩
        have frd := kp2.get frd (nm_c (by first | assumption | exact Ne.symm (by assumption) | exact x_ne frd fU (by simp)) nm_n)
        have fS := kp2.get fS (nm_c (by first | assumption | exact Ne.symm (by assumption) | exact x_ne fS fU (by simp)) nm_n)
        have fpk := kp2.get fpk (nm_c (by first | assumption | exact Ne.symm (by assumption) | exact x_ne fpk fU (by simp)) nm_n)
        have fcd := kp2.get fcd (nm_c (by first | assumption | exact Ne.symm (by assumption) | exact x_ne fcd fU (by simp)) nm_n)
        have fB := kp2.get fB (nm_c (by first | assumption | exact Ne.symm (by assumption) | exact x_ne fB fU (by simp)) nm_n)
        have fce := kp2.get fce (nm_c (by first | assumption | exact Ne.symm (by assumption) | exact x_ne fce fU (by simp)) nm_n)
        have fco := kp2.get fco (nm_c (by first | assumption | exact Ne.symm (by assumption) | exact x_ne fco fU (by simp)) nm_n)
        have fsr := kp2.get fsr (nm_c (by first | assumption | exact Ne.symm (by assumption) | exact x_ne fsr fU (by simp)) nm_n)
        have kp := kp.call kp2 (kc_c (Or.inl (by simp)) kc_n)
        have fU := fU'
        refine x_iload_n C d_Ru_advance_127 rfl rfl ?_
        refine x_iret C d_Ru_advance_128 ?_
        first | exact ⟨g', kp, frd, hE', Or.inl ⟨rfl, hbad, i', j', by rw [fU]; rfl⟩⟩ | exact ⟨g', kp, frd, hE', Or.inr ⟨rfl, i', j', hi', hj', hbh, hbad, hG, hg', by rw [fU]; rfl⟩⟩
      · skip
        have fS := kp1.get fS (nm_c (by first | assumption | exact Ne.symm (by assumption) | exact x_ne fS fU (by simp)) (nm_c (by first | assumption | exact Ne.symm (by assumption) | exact x_ne fS frd (by simp)) nm_n))
        have fpk := kp1.get fpk (nm_c (by first | assumption | exact Ne.symm (by assumption) | exact x_ne fpk fU (by simp)) (nm_c (by first | assumption | exact Ne.symm (by assumption) | exact x_ne fpk frd (by simp)) nm_n))
        have fcd := kp1.get fcd (nm_c (by first | assumption | exact Ne.symm (by assumption) | exact x_ne fcd fU (by simp)) (nm_c (by first | assumption | exact Ne.symm (by assumption) | exact x_ne fcd frd (by simp)) nm_n))
        have fB := kp1.get fB (nm_c (by first | assumption | exact Ne.symm (by assumption) | exact x_ne fB fU (by simp)) (nm_c (by first | assumption | exact Ne.symm (by assumption) | exact x_ne fB frd (by simp)) nm_n))
        have fce := kp1.get fce (nm_c (by first | assumption | exact Ne.symm (by assumption) | exact x_ne fce fU (by simp)) (nm_c (by first | assumption | exact Ne.symm (by assumption) | exact x_ne fce frd (by simp)) nm_n))
        have fco := kp1.get fco (nm_c (by first | assumption | exact Ne.symm (by assumption) | exact x_ne fco fU (by simp)) (nm_c (by first | assumption | exact Ne.symm (by assumption) | exact x_ne fco frd (by simp)) nm_n))
        have fsr := kp1.get fsr (nm_c (by first | assumption | exact Ne.symm (by assumption) | exact x_ne fsr fU (by simp)) (nm_c (by first | assumption | exact Ne.symm (by assumption) | exact x_ne fsr frd (by simp)) nm_n))
        have kp := kp.call kp1 (kc_c (Or.inl (by simp)) (kc_c (Or.inl (by simp)) kc_n))
        have fU := fU'
        have frd := frd'
        refine x_istore_n (lv' := [(2, _), (0, _), (1, _)]) C d_Ru_advance_121 rfl (by decide) (by rfl) ?_
        refine x_aload_n C d_Ru_advance_122 rfl rfl ?_
        refine x_iload_n C d_Ru_advance_123 rfl rfl ?_
        refine x_callV C l_Ru_72 v_Ru_note d_Ru_advance_124 (m_Ru_note fU _) fU rfl (by rfl) (by rfl) (by decide) (by decide) (Nat.le_of_ble_eq_true rfl) ?_
        rintro v3 h3 ⟨rfl, fU', kp3⟩
        have frd := kp3.get frd (nm_c (by first | assumption | exact Ne.symm (by assumption) | exact x_ne frd fU (by simp)) nm_n)
        have fS := kp3.get fS (nm_c (by first | assumption | exact Ne.symm (by assumption) | exact x_ne fS fU (by simp)) nm_n)
        have fpk := kp3.get fpk (nm_c (by first | assumption | exact Ne.symm (by assumption) | exact x_ne fpk fU (by simp)) nm_n)
        have fcd := kp3.get fcd (nm_c (by first | assumption | exact Ne.symm (by assumption) | exact x_ne fcd fU (by simp)) nm_n)
        have fB := kp3.get fB (nm_c (by first | assumption | exact Ne.symm (by assumption) | exact x_ne fB fU (by simp)) nm_n)
        have fce := kp3.get fce (nm_c (by first | assumption | exact Ne.symm (by assumption) | exact x_ne fce fU (by simp)) nm_n)
        have fco := kp3.get fco (nm_c (by first | assumption | exact Ne.symm (by assumption) | exact x_ne fco fU (by simp)) nm_n)
        have fsr := kp3.get fsr (nm_c (by first | assumption | exact Ne.symm (by assumption) | exact x_ne fsr fU (by simp)) nm_n)
        have kp := kp.call kp3 (kc_c (Or.inl (by simp)) kc_n)
        have fU := fU'
        refine x_iload_n C d_Ru_advance_127 rfl rfl ?_
        refine x_iret C d_Ru_advance_128 ?_
        first | exact ⟨g', kp, frd, hE', Or.inl ⟨rfl, hbad, i', j', by rw [fU]; rfl⟩⟩ | exact ⟨g', kp, frd, hE', Or.inr ⟨rfl, i', j', hi', hj', hbh, hbad, hG, hg', by rw [fU]; rfl⟩⟩
    · skip
      replace q105 := bI_t q105
      exact absurd (by simpa using q105) hT
  · skip
    exact absurd rfl q4
end
section
/-! CursorBase: constructor, all, clear, prepare -/
abbrev oCB (T B U : Nat) : va_E := .inr (7, [.ref T, .ref B, .ref U])
set_option maxRecDepth 20000 in
set_option maxHeartbeats 1000000 in
theorem m_CB_all {V : xV} {h : xH} {x T B U ce co sr : Nat} {f c s : Nat → Int32} (fx : h x = some (oCB T B U)) (pT : pTa V h B ce co sr f c s) : xM V y_CB_all b_CB_all 1 (some .int) 1 [.ref x] h 0 0 (fun v h' => h' = h ∧ v = some (.int (s 10))) := by
  refine xM_of false (by decide) (fun h => nomatch h) (Nat.le_of_ble_eq_true rfl) (fun K C => ?_)
  show K 0 0 h 0 [(0, .ref x)] []
  have pT0 := pT
  obtain ⟨fB, -, -, -⟩ := pT
  refine x_aload_n C d_CB_all_0 rfl rfl ?_
  refine x_get C k_CB f_CB_19 d_CB_all_1 fx (by rfl) ?_
  refine x_callV C l_CB_125 v_Ta_rowsInAll d_CB_all_4 (m_Ta_rowsInAll pT0) fB rfl (by rfl) (by rfl) (by decide) (by decide) (Nat.le_of_ble_eq_true rfl) ?_
  rintro v9 h9 ⟨rfl, rfl⟩
  refine x_iret C d_CB_all_7 ?_
  exact ⟨rfl, rfl⟩
set_option maxRecDepth 20000 in
set_option maxHeartbeats 1000000 in
theorem m_CB_clear {V : xV} {h : xH} {x T kr nr B ce co sr U rd n : Nat} {ks ns f c s g : Nat → Int32} {st : Value} {gv on en fp sp : Int32} {tt : Int64} (fx : h x = some (oCB T B U)) (pK : pTo V h T kr nr ks ns n) (pT : pTa V h B ce co sr f c s) (fU : h U = some (oRu st gv on en fp sp tt rd)) (frd : h rd = some (xI V 16 g)) : xM V y_CB_clear b_CB_clear 1 none 1 [.ref x] h 0 0 (fun v h' => v = none ∧ ∃ c' s', pTo V h' T kr nr ks ns 0 ∧ pTa V h' B ce co sr f c' s' ∧ (∀ i, i < 10 → c' i = 0) ∧ (∀ i, 1 ≤ i → i < 11 → s' i = 0) ∧ s' 0 = s 0 ∧ h' U = some (oRu .null 0 0 0 0 0 tt rd) ∧ xKeep [T, co, sr, U] h h') := by
  refine xM_of false (by decide) (fun h => nomatch h) (Nat.le_of_ble_eq_true rfl) (fun K C => ?_)
  show K 0 0 h 0 [(0, .ref x)] []
  have kp : xKeep [T, co, sr, U] h h := xKeep.rf
  obtain ⟨fT, fkr, fnr, hkn, hn60⟩ := pK
  obtain ⟨fB, fce, fco, fsr⟩ := pT
  refine x_aload_n C d_CB_clear_0 rfl rfl ?_
  refine x_get C k_CB f_CB_10 d_CB_clear_1 fx (by rfl) ?_
  refine x_callV C l_CB_67 v_To_drop d_CB_clear_4 (m_To_drop ⟨fT, fkr, fnr, hkn, hn60⟩) fT rfl (by rfl) (by rfl) (by decide) (by decide) (Nat.le_of_ble_eq_true rfl) ?_
  rintro v1 h1 ⟨rfl, u1⟩
  have fx := xUp_ne u1 fx (by first | assumption | exact Ne.symm (by assumption) | exact x_ne fx fT (by simp))
  have fkr := xUp_ne u1 fkr (by first | assumption | exact Ne.symm (by assumption) | exact x_ne fkr fT (by simp))
  have fnr := xUp_ne u1 fnr (by first | assumption | exact Ne.symm (by assumption) | exact x_ne fnr fT (by simp))
  have fB := xUp_ne u1 fB (by first | assumption | exact Ne.symm (by assumption) | exact x_ne fB fT (by simp))
  have fce := xUp_ne u1 fce (by first | assumption | exact Ne.symm (by assumption) | exact x_ne fce fT (by simp))
  have fco := xUp_ne u1 fco (by first | assumption | exact Ne.symm (by assumption) | exact x_ne fco fT (by simp))
  have fsr := xUp_ne u1 fsr (by first | assumption | exact Ne.symm (by assumption) | exact x_ne fsr fT (by simp))
  have fU := xUp_ne u1 fU (by first | assumption | exact Ne.symm (by assumption) | exact x_ne fU fT (by simp))
  have frd := xUp_ne u1 frd (by first | assumption | exact Ne.symm (by assumption) | exact x_ne frd fT (by simp))
  have fT := xUp_at u1
  have kp := kp.up u1 (by simp)
  refine x_aload_n C d_CB_clear_7 rfl rfl ?_
  refine x_get C k_CB f_CB_19 d_CB_clear_8 fx (by rfl) ?_
  refine x_callV C l_CB_140 v_Ta_drop d_CB_clear_11 (m_Ta_drop ⟨fB, fce, fco, fsr⟩) fB rfl (by rfl) (by rfl) (by decide) (by decide) (Nat.le_of_ble_eq_true rfl) ?_
  rintro v2 h2 ⟨rfl, c', s', pT', hc', hs', hs0, kp2⟩
  have fx := kp2.get fx (nm_c (by first | assumption | exact Ne.symm (by assumption) | exact x_ne fx fco (by simp)) (nm_c (by first | assumption | exact Ne.symm (by assumption) | exact x_ne fx fsr (by simp)) nm_n))
  have fT := kp2.get fT (nm_c (by first | assumption | exact Ne.symm (by assumption) | exact x_ne fT fco (by simp)) (nm_c (by first | assumption | exact Ne.symm (by assumption) | exact x_ne fT fsr (by simp)) nm_n))
  have fkr := kp2.get fkr (nm_c (by first | assumption | exact Ne.symm (by assumption) | exact x_ne fkr fco (by simp)) (nm_c (by first | assumption | exact Ne.symm (by assumption) | exact x_ne fkr fsr (by simp)) nm_n))
  have fnr := kp2.get fnr (nm_c (by first | assumption | exact Ne.symm (by assumption) | exact x_ne fnr fco (by simp)) (nm_c (by first | assumption | exact Ne.symm (by assumption) | exact x_ne fnr fsr (by simp)) nm_n))
  have fB := kp2.get fB (nm_c (by first | assumption | exact Ne.symm (by assumption) | exact x_ne fB fco (by simp)) (nm_c (by first | assumption | exact Ne.symm (by assumption) | exact x_ne fB fsr (by simp)) nm_n))
  have fce := kp2.get fce (nm_c (by first | assumption | exact Ne.symm (by assumption) | exact x_ne fce fco (by simp)) (nm_c (by first | assumption | exact Ne.symm (by assumption) | exact x_ne fce fsr (by simp)) nm_n))
  have fU := kp2.get fU (nm_c (by first | assumption | exact Ne.symm (by assumption) | exact x_ne fU fco (by simp)) (nm_c (by first | assumption | exact Ne.symm (by assumption) | exact x_ne fU fsr (by simp)) nm_n))
  have frd := kp2.get frd (nm_c (by first | assumption | exact Ne.symm (by assumption) | exact x_ne frd fco (by simp)) (nm_c (by first | assumption | exact Ne.symm (by assumption) | exact x_ne frd fsr (by simp)) nm_n))
  have kp := kp.call kp2 (kc_c (Or.inl (by simp)) (kc_c (Or.inl (by simp)) kc_n))
  have fco := pT'.2.2.1
  have fsr := pT'.2.2.2
  refine x_aload_n C d_CB_clear_14 rfl rfl ?_
  refine x_get C k_CB f_CB_26 d_CB_clear_15 fx (by rfl) ?_
  refine x_null C d_CB_clear_18 ?_
  refine x_callV C l_CB_80 v_Ru_begin d_CB_clear_19 (m_Ru_beginN fU) fU rfl (by rfl) (by rfl) (by decide) (by decide) (Nat.le_of_ble_eq_true rfl) ?_
  rintro v3 h3 ⟨rfl, fU', kp3⟩
  have fx := kp3.get fx (nm_c (by first | assumption | exact Ne.symm (by assumption) | exact x_ne fx fU (by simp)) nm_n)
  have fT := kp3.get fT (nm_c (by first | assumption | exact Ne.symm (by assumption) | exact x_ne fT fU (by simp)) nm_n)
  have fkr := kp3.get fkr (nm_c (by first | assumption | exact Ne.symm (by assumption) | exact x_ne fkr fU (by simp)) nm_n)
  have fnr := kp3.get fnr (nm_c (by first | assumption | exact Ne.symm (by assumption) | exact x_ne fnr fU (by simp)) nm_n)
  have fB := kp3.get fB (nm_c (by first | assumption | exact Ne.symm (by assumption) | exact x_ne fB fU (by simp)) nm_n)
  have fce := kp3.get fce (nm_c (by first | assumption | exact Ne.symm (by assumption) | exact x_ne fce fU (by simp)) nm_n)
  have fco := kp3.get fco (nm_c (by first | assumption | exact Ne.symm (by assumption) | exact x_ne fco fU (by simp)) nm_n)
  have fsr := kp3.get fsr (nm_c (by first | assumption | exact Ne.symm (by assumption) | exact x_ne fsr fU (by simp)) nm_n)
  have frd := kp3.get frd (nm_c (by first | assumption | exact Ne.symm (by assumption) | exact x_ne frd fU (by simp)) nm_n)
  have kp := kp.call kp3 (kc_c (Or.inl (by simp)) kc_n)
  have fU := fU'
  refine x_vret C d_CB_clear_22 ?_
  exact ⟨rfl, c', s', ⟨fT, fkr, fnr, hkn, Nat.zero_le _⟩, ⟨fB, fce, fco, fsr⟩, hc', hs', hs0, fU, kp⟩
set_option maxRecDepth 20000 in
set_option maxHeartbeats 1000000 in
theorem m_CB_init {V : xV} {h : xH} {x : Nat} (fx : h x = some (.inr (7, [.null, .null, .null]))) : xM V y_CB_init b_CB_init 1 none 2 [.ref x] h 9 2571 (fun v h' => v = none ∧ ∃ T kr nr B ce co sr U rd, h' x = some (oCB T B U) ∧ pTo V h' T kr nr (fun _ => 0) (fun _ => 0) 0 ∧ pTa V h' B ce co sr (fun _ => 0) (fun _ => 0) (fun _ => 0) ∧ h' U = some (oRu .null 0 0 0 0 0 0 rd) ∧ h' rd = some (xI V 16 (fun _ => 0)) ∧ xKeep [x] h h') := by
  refine xM_of true (by decide) (fun _ => rfl) (Nat.le_of_ble_eq_true rfl) (fun K C => ?_)
  show K 9 2571 h 0 [(0, .ref x)] []
  have kp : xKeep [x] h h := xKeep.rf
  refine x_aload_n C d_CB_init_0 rfl rfl ?_
  refine x_objInit C ⟨l_CB_1, oi_i, oi_c⟩ (by decide) (Nat.le_of_ble_eq_true rfl) d_CB_init_1 ?_
  refine x_aload_n C d_CB_init_4 rfl rfl ?_
  refine x_new (fs := [.null, .null, .int 0]) C k_To ⟨c_CB_7, n_To.1, n_To.2⟩ d_CB_init_5 (by decide +revert) (fun T h1 n1 u1 => ?_)
  have x1_x := x_nn fx n1
  have fx := xUp_new u1 n1 fx
  have z_T := kp.isn n1 (by simp only [List.mem_cons, List.not_mem_nil, or_false, not_or]; exact Ne.symm x1_x)
  have kp := kp.upN u1 z_T
  have f_T := xUp_at u1
  refine x_dup C d_CB_init_8 rfl ?_
  refine x_callI C l_CB_9 v_To_init d_CB_init_9 (m_To_init f_T) rfl (by rfl) (by rfl) (by decide) (by decide) (Nat.le_of_ble_eq_true rfl) ?_
  rintro v2 h2 ⟨rfl, kr, nr, pK, y_kr, y_nr, kp2⟩
  have z_kr := kp.isn y_kr (nm_c (Ne.symm (x_nn fx y_kr)) nm_n)
  have z_nr := kp.isn y_nr (nm_c (Ne.symm (x_nn fx y_nr)) nm_n)
  have fx := kp2.get fx (nm_c (by first | assumption | exact Ne.symm (by assumption) | exact x_ne fx f_T (by simp)) nm_n)
  have kp := kp.call kp2 (kc_c (Or.inr z_T) kc_n)
  have f_T := pK.1
  have f_kr := pK.2.1
  have f_nr := pK.2.2.1
  have hkn := pK.2.2.2.1
  refine x_putF (fs' := [_, _, _]) C k_CB g_CB_10 d_CB_init_12 fx (by rfl) (by rfl) (by rfl) (Nat.le_of_ble_eq_true rfl) (by rfl) (fun h3 u3 => ?_)
  have f_T := xUp_ne u3 f_T (by first | assumption | exact Ne.symm (by assumption) | exact x_ne f_T fx (by simp))
  have f_kr := xUp_ne u3 f_kr (by first | assumption | exact Ne.symm (by assumption) | exact x_ne f_kr fx (by simp))
  have f_nr := xUp_ne u3 f_nr (by first | assumption | exact Ne.symm (by assumption) | exact x_ne f_nr fx (by simp))
  have fx := xUp_at u3
  have kp := kp.up u3 (by simp)
  refine x_aload_n C d_CB_init_15 rfl rfl ?_
  refine x_new (fs := [.null, .null, .null]) C k_Ta ⟨c_CB_16, n_Ta.1, n_Ta.2⟩ d_CB_init_16 (by decide +revert) (fun B h4 n4 u4 => ?_)
  have x4_x := x_nn fx n4
  have x4_T := x_nn f_T n4
  have x4_kr := x_nn f_kr n4
  have x4_nr := x_nn f_nr n4
  have fx := xUp_new u4 n4 fx
  have f_T := xUp_new u4 n4 f_T
  have f_kr := xUp_new u4 n4 f_kr
  have f_nr := xUp_new u4 n4 f_nr
  have z_B := kp.isn n4 (by simp only [List.mem_cons, List.not_mem_nil, or_false, not_or]; exact Ne.symm x4_x)
  have kp := kp.upN u4 z_B
  have f_B := xUp_at u4
  refine x_dup C d_CB_init_19 rfl ?_
  refine x_callI C l_CB_18 v_Ta_init d_CB_init_20 (m_Ta_init f_B) rfl (by rfl) (by rfl) (by decide) (by decide) (Nat.le_of_ble_eq_true rfl) ?_
  rintro v5 h5 ⟨rfl, ce, co, sr, pT, y_ce, y_co, y_sr, kp5⟩
  have z_ce := kp.isn y_ce (nm_c (Ne.symm (x_nn fx y_ce)) nm_n)
  have z_co := kp.isn y_co (nm_c (Ne.symm (x_nn fx y_co)) nm_n)
  have z_sr := kp.isn y_sr (nm_c (Ne.symm (x_nn fx y_sr)) nm_n)
  have fx := kp5.get fx (nm_c (by first | assumption | exact Ne.symm (by assumption) | exact x_ne fx f_B (by simp)) nm_n)
  have f_T := kp5.get f_T (nm_c (by first | assumption | exact Ne.symm (by assumption) | exact x_ne f_T f_B (by simp)) nm_n)
  have f_kr := kp5.get f_kr (nm_c (by first | assumption | exact Ne.symm (by assumption) | exact x_ne f_kr f_B (by simp)) nm_n)
  have f_nr := kp5.get f_nr (nm_c (by first | assumption | exact Ne.symm (by assumption) | exact x_ne f_nr f_B (by simp)) nm_n)
  have kp := kp.call kp5 (kc_c (Or.inr z_B) kc_n)
  have f_B := pT.1
  have f_ce := pT.2.1
  have f_co := pT.2.2.1
  have f_sr := pT.2.2.2
  refine x_putF (fs' := [_, _, _]) C k_CB g_CB_19 d_CB_init_23 fx (by rfl) (by rfl) (by rfl) (Nat.le_of_ble_eq_true rfl) (by rfl) (fun h6 u6 => ?_)
  have f_T := xUp_ne u6 f_T (by first | assumption | exact Ne.symm (by assumption) | exact x_ne f_T fx (by simp))
  have f_kr := xUp_ne u6 f_kr (by first | assumption | exact Ne.symm (by assumption) | exact x_ne f_kr fx (by simp))
  have f_nr := xUp_ne u6 f_nr (by first | assumption | exact Ne.symm (by assumption) | exact x_ne f_nr fx (by simp))
  have f_B := xUp_ne u6 f_B (by first | assumption | exact Ne.symm (by assumption) | exact x_ne f_B fx (by simp))
  have f_ce := xUp_ne u6 f_ce (by first | assumption | exact Ne.symm (by assumption) | exact x_ne f_ce fx (by simp))
  have f_co := xUp_ne u6 f_co (by first | assumption | exact Ne.symm (by assumption) | exact x_ne f_co fx (by simp))
  have f_sr := xUp_ne u6 f_sr (by first | assumption | exact Ne.symm (by assumption) | exact x_ne f_sr fx (by simp))
  have fx := xUp_at u6
  have kp := kp.up u6 (by simp)
  refine x_aload_n C d_CB_init_26 rfl rfl ?_
  refine x_new (fs := [.null, .int 0, .int 0, .int 0, .int 0, .int 0, .long 0, .null]) C k_Ru ⟨c_CB_23, n_Ru.1, n_Ru.2⟩ d_CB_init_27 (by decide +revert) (fun U h7 n7 u7 => ?_)
  have x7_x := x_nn fx n7
  have x7_T := x_nn f_T n7
  have x7_kr := x_nn f_kr n7
  have x7_nr := x_nn f_nr n7
  have x7_B := x_nn f_B n7
  have x7_ce := x_nn f_ce n7
  have x7_co := x_nn f_co n7
  have x7_sr := x_nn f_sr n7
  have fx := xUp_new u7 n7 fx
  have f_T := xUp_new u7 n7 f_T
  have f_kr := xUp_new u7 n7 f_kr
  have f_nr := xUp_new u7 n7 f_nr
  have f_B := xUp_new u7 n7 f_B
  have f_ce := xUp_new u7 n7 f_ce
  have f_co := xUp_new u7 n7 f_co
  have f_sr := xUp_new u7 n7 f_sr
  have z_U := kp.isn n7 (by simp only [List.mem_cons, List.not_mem_nil, or_false, not_or]; exact Ne.symm x7_x)
  have kp := kp.upN u7 z_U
  have f_U := xUp_at u7
  refine x_dup C d_CB_init_30 rfl ?_
  refine x_callI C l_CB_25 v_Ru_init d_CB_init_31 (m_Ru_init f_U) rfl (by rfl) (by rfl) (by decide) (by decide) (Nat.le_of_ble_eq_true rfl) ?_
  rintro v8 h8 ⟨rfl, rd, fU', f_rd, y_rd, kp8⟩
  have z_rd := kp.isn y_rd (nm_c (Ne.symm (x_nn fx y_rd)) nm_n)
  have fx := kp8.get fx (nm_c (by first | assumption | exact Ne.symm (by assumption) | exact x_ne fx f_U (by simp)) nm_n)
  have f_T := kp8.get f_T (nm_c (by first | assumption | exact Ne.symm (by assumption) | exact x_ne f_T f_U (by simp)) nm_n)
  have f_kr := kp8.get f_kr (nm_c (by first | assumption | exact Ne.symm (by assumption) | exact x_ne f_kr f_U (by simp)) nm_n)
  have f_nr := kp8.get f_nr (nm_c (by first | assumption | exact Ne.symm (by assumption) | exact x_ne f_nr f_U (by simp)) nm_n)
  have f_B := kp8.get f_B (nm_c (by first | assumption | exact Ne.symm (by assumption) | exact x_ne f_B f_U (by simp)) nm_n)
  have f_ce := kp8.get f_ce (nm_c (by first | assumption | exact Ne.symm (by assumption) | exact x_ne f_ce f_U (by simp)) nm_n)
  have f_co := kp8.get f_co (nm_c (by first | assumption | exact Ne.symm (by assumption) | exact x_ne f_co f_U (by simp)) nm_n)
  have f_sr := kp8.get f_sr (nm_c (by first | assumption | exact Ne.symm (by assumption) | exact x_ne f_sr f_U (by simp)) nm_n)
  have kp := kp.call kp8 (kc_c (Or.inr z_U) kc_n)
  have f_U := fU'
  refine x_putF (fs' := [_, _, _]) C k_CB g_CB_26 d_CB_init_34 fx (by rfl) (by rfl) (by rfl) (Nat.le_of_ble_eq_true rfl) (by rfl) (fun h9 u9 => ?_)
  have f_T := xUp_ne u9 f_T (by first | assumption | exact Ne.symm (by assumption) | exact x_ne f_T fx (by simp))
  have f_kr := xUp_ne u9 f_kr (by first | assumption | exact Ne.symm (by assumption) | exact x_ne f_kr fx (by simp))
  have f_nr := xUp_ne u9 f_nr (by first | assumption | exact Ne.symm (by assumption) | exact x_ne f_nr fx (by simp))
  have f_B := xUp_ne u9 f_B (by first | assumption | exact Ne.symm (by assumption) | exact x_ne f_B fx (by simp))
  have f_ce := xUp_ne u9 f_ce (by first | assumption | exact Ne.symm (by assumption) | exact x_ne f_ce fx (by simp))
  have f_co := xUp_ne u9 f_co (by first | assumption | exact Ne.symm (by assumption) | exact x_ne f_co fx (by simp))
  have f_sr := xUp_ne u9 f_sr (by first | assumption | exact Ne.symm (by assumption) | exact x_ne f_sr fx (by simp))
  have f_U := xUp_ne u9 f_U (by first | assumption | exact Ne.symm (by assumption) | exact x_ne f_U fx (by simp))
  have f_rd := xUp_ne u9 f_rd (by first | assumption | exact Ne.symm (by assumption) | exact x_ne f_rd fx (by simp))
  have fx := xUp_at u9
  have kp := kp.up u9 (by simp)
  refine x_vret C d_CB_init_37 ?_
  exact ⟨rfl, T, kr, nr, B, ce, co, sr, U, rd, fx, ⟨f_T, f_kr, f_nr, hkn, Nat.zero_le _⟩, ⟨f_B, f_ce, f_co, f_sr⟩, f_U, f_rd, kp⟩
end
