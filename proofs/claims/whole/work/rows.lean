section
-- ===== PART A: goes FIRST, ahead of the names: the tables' words, and 'selects' of the private methods out of them =====
/-- a private method of a class that the tables say can be made, by its rows of tables_1 -/
def lw_okq (q : MethodName × Nat) : Prop := (q.1.cls ≠ "java/lang/invoke/MethodHandle" ∧ q.1.cls ≠ "java/lang/invoke/VarHandle") ∧ Cond.instantiable q.1.cls q.2 ∈ tables_1 ∧ Cond.privateMethod q.1 ∈ tables_1 ∧ Cond.instanceMethod q.1 ∈ tables_1
theorem lw_p0 : lw_okq (⟨"CursorBase$Parser", "takeWordBetween", "(II)I"⟩, 3) := ⟨⟨by decide +kernel, by decide +kernel⟩, List.mem_of_getElem? (i := 111) (by decide +kernel), List.mem_of_getElem? (i := 188) (by decide +kernel), List.mem_of_getElem? (i := 189) (by decide +kernel)⟩
theorem lw_p1 : lw_okq (⟨"CursorBase$Parser", "takeFirstTable", "()Z"⟩, 3) := ⟨⟨by decide +kernel, by decide +kernel⟩, List.mem_of_getElem? (i := 111) (by decide +kernel), List.mem_of_getElem? (i := 196) (by decide +kernel), List.mem_of_getElem? (i := 197) (by decide +kernel)⟩
theorem lw_p2 : lw_okq (⟨"CursorBase$Parser", "takeTable", "()I"⟩, 3) := ⟨⟨by decide +kernel, by decide +kernel⟩, List.mem_of_getElem? (i := 111) (by decide +kernel), List.mem_of_getElem? (i := 200) (by decide +kernel), List.mem_of_getElem? (i := 201) (by decide +kernel)⟩
theorem lw_p3 : lw_okq (⟨"CursorBase$Parser", "takeNumber", "()Z"⟩, 3) := ⟨⟨by decide +kernel, by decide +kernel⟩, List.mem_of_getElem? (i := 111) (by decide +kernel), List.mem_of_getElem? (i := 204) (by decide +kernel), List.mem_of_getElem? (i := 205) (by decide +kernel)⟩
theorem lw_p4 : lw_okq (⟨"CursorBase$Parser", "takeNumbers", "()Z"⟩, 3) := ⟨⟨by decide +kernel, by decide +kernel⟩, List.mem_of_getElem? (i := 111) (by decide +kernel), List.mem_of_getElem? (i := 212) (by decide +kernel), List.mem_of_getElem? (i := 213) (by decide +kernel)⟩
theorem lw_p5 : lw_okq (⟨"CursorBase$Parser", "takeConditions", "()Z"⟩, 3) := ⟨⟨by decide +kernel, by decide +kernel⟩, List.mem_of_getElem? (i := 111) (by decide +kernel), List.mem_of_getElem? (i := 216) (by decide +kernel), List.mem_of_getElem? (i := 217) (by decide +kernel)⟩
theorem lw_p6 : lw_okq (⟨"CursorBase$Parser", "takeWord", "(I)Z"⟩, 3) := ⟨⟨by decide +kernel, by decide +kernel⟩, List.mem_of_getElem? (i := 111) (by decide +kernel), List.mem_of_getElem? (i := 220) (by decide +kernel), List.mem_of_getElem? (i := 221) (by decide +kernel)⟩
theorem lw_p7 : lw_okq (⟨"CursorBase$Parser", "takeCondition", "()LCursorBase$Condition;"⟩, 3) := ⟨⟨by decide +kernel, by decide +kernel⟩, List.mem_of_getElem? (i := 111) (by decide +kernel), List.mem_of_getElem? (i := 224) (by decide +kernel), List.mem_of_getElem? (i := 225) (by decide +kernel)⟩
theorem lw_p8 : lw_okq (⟨"CursorBase$Parser", "takeOperand", "()LCursorBase$Operand;"⟩, 3) := ⟨⟨by decide +kernel, by decide +kernel⟩, List.mem_of_getElem? (i := 111) (by decide +kernel), List.mem_of_getElem? (i := 228) (by decide +kernel), List.mem_of_getElem? (i := 229) (by decide +kernel)⟩
theorem lw_p9 : lw_okq (⟨"CursorBase$Parser", "takeList", "()Z"⟩, 3) := ⟨⟨by decide +kernel, by decide +kernel⟩, List.mem_of_getElem? (i := 111) (by decide +kernel), List.mem_of_getElem? (i := 265) (by decide +kernel), List.mem_of_getElem? (i := 266) (by decide +kernel)⟩
theorem lw_p10 : lw_okq (⟨"CursorBase$Parser", "takeColumns", "(I)Z"⟩, 3) := ⟨⟨by decide +kernel, by decide +kernel⟩, List.mem_of_getElem? (i := 111) (by decide +kernel), List.mem_of_getElem? (i := 269) (by decide +kernel), List.mem_of_getElem? (i := 270) (by decide +kernel)⟩
theorem lw_p11 : lw_okq (⟨"CursorBase$Parser", "takeFrom", "()Z"⟩, 3) := ⟨⟨by decide +kernel, by decide +kernel⟩, List.mem_of_getElem? (i := 111) (by decide +kernel), List.mem_of_getElem? (i := 278) (by decide +kernel), List.mem_of_getElem? (i := 279) (by decide +kernel)⟩
theorem lw_p12 : lw_okq (⟨"CursorBase$Parser", "takeOrder", "()Z"⟩, 3) := ⟨⟨by decide +kernel, by decide +kernel⟩, List.mem_of_getElem? (i := 111) (by decide +kernel), List.mem_of_getElem? (i := 282) (by decide +kernel), List.mem_of_getElem? (i := 283) (by decide +kernel)⟩
theorem lw_p13 : lw_okq (⟨"CursorBase$Statement", "faultOfCreate", "(LCursorBase$Tables;)I"⟩, 11) := ⟨⟨by decide +kernel, by decide +kernel⟩, List.mem_of_getElem? (i := 117) (by decide +kernel), List.mem_of_getElem? (i := 294) (by decide +kernel), List.mem_of_getElem? (i := 295) (by decide +kernel)⟩
theorem lw_p14 : lw_okq (⟨"CursorBase$Statement", "columnsAreThere", "(II)Z"⟩, 11) := ⟨⟨by decide +kernel, by decide +kernel⟩, List.mem_of_getElem? (i := 117) (by decide +kernel), List.mem_of_getElem? (i := 307) (by decide +kernel), List.mem_of_getElem? (i := 308) (by decide +kernel)⟩
theorem lw_p15 : lw_okq (⟨"CursorBase$Statement", "addPicks", "(II)V"⟩, 11) := ⟨⟨by decide +kernel, by decide +kernel⟩, List.mem_of_getElem? (i := 117) (by decide +kernel), List.mem_of_getElem? (i := 324) (by decide +kernel), List.mem_of_getElem? (i := 325) (by decide +kernel)⟩
def lw_privs_1 : List (MethodName × Nat) := [(⟨"CursorBase$Parser", "takeWordBetween", "(II)I"⟩, 3), (⟨"CursorBase$Parser", "takeFirstTable", "()Z"⟩, 3), (⟨"CursorBase$Parser", "takeTable", "()I"⟩, 3), (⟨"CursorBase$Parser", "takeNumber", "()Z"⟩, 3), (⟨"CursorBase$Parser", "takeNumbers", "()Z"⟩, 3), (⟨"CursorBase$Parser", "takeConditions", "()Z"⟩, 3), (⟨"CursorBase$Parser", "takeWord", "(I)Z"⟩, 3), (⟨"CursorBase$Parser", "takeCondition", "()LCursorBase$Condition;"⟩, 3), (⟨"CursorBase$Parser", "takeOperand", "()LCursorBase$Operand;"⟩, 3), (⟨"CursorBase$Parser", "takeList", "()Z"⟩, 3), (⟨"CursorBase$Parser", "takeColumns", "(I)Z"⟩, 3), (⟨"CursorBase$Parser", "takeFrom", "()Z"⟩, 3), (⟨"CursorBase$Parser", "takeOrder", "()Z"⟩, 3), (⟨"CursorBase$Statement", "faultOfCreate", "(LCursorBase$Tables;)I"⟩, 11), (⟨"CursorBase$Statement", "columnsAreThere", "(II)Z"⟩, 11), (⟨"CursorBase$Statement", "addPicks", "(II)V"⟩, 11)]
theorem lw_r1 : ∀ q ∈ lw_privs_1, lw_okq q := List.forall_mem_cons.mpr ⟨lw_p0, List.forall_mem_cons.mpr ⟨lw_p1, List.forall_mem_cons.mpr ⟨lw_p2, List.forall_mem_cons.mpr ⟨lw_p3, List.forall_mem_cons.mpr ⟨lw_p4, List.forall_mem_cons.mpr ⟨lw_p5, List.forall_mem_cons.mpr ⟨lw_p6, List.forall_mem_cons.mpr ⟨lw_p7, List.forall_mem_cons.mpr ⟨lw_p8, List.forall_mem_cons.mpr ⟨lw_p9, List.forall_mem_cons.mpr ⟨lw_p10, List.forall_mem_cons.mpr ⟨lw_p11, List.forall_mem_cons.mpr ⟨lw_p12, List.forall_mem_cons.mpr ⟨lw_p13, List.forall_mem_cons.mpr ⟨lw_p14, List.forall_mem_cons.mpr ⟨lw_p15, fun _ h => absurd h List.not_mem_nil⟩⟩⟩⟩⟩⟩⟩⟩⟩⟩⟩⟩⟩⟩⟩⟩
theorem lw_p16 : lw_okq (⟨"java/lang/Throwable", "fillInStackTrace", "(I)Ljava/lang/Throwable;"⟩, 6) := ⟨⟨by decide +kernel, by decide +kernel⟩, List.mem_of_getElem? (i := 402) (by decide +kernel), List.mem_of_getElem? (i := 400) (by decide +kernel), List.mem_of_getElem? (i := 401) (by decide +kernel)⟩
theorem lw_p17 : lw_okq (⟨"CursorBase$Tables", "placeNotBelow", "(II)I"⟩, 3) := ⟨⟨by decide +kernel, by decide +kernel⟩, List.mem_of_getElem? (i := 47) (by decide +kernel), List.mem_of_getElem? (i := 478) (by decide +kernel), List.mem_of_getElem? (i := 479) (by decide +kernel)⟩
theorem lw_p18 : lw_okq (⟨"CursorBase$Tables", "cellOf", "(II)I"⟩, 3) := ⟨⟨by decide +kernel, by decide +kernel⟩, List.mem_of_getElem? (i := 47) (by decide +kernel), List.mem_of_getElem? (i := 490) (by decide +kernel), List.mem_of_getElem? (i := 491) (by decide +kernel)⟩
theorem lw_p19 : lw_okq (⟨"CursorBase$Tables", "hasKeyAt", "(III)Z"⟩, 3) := ⟨⟨by decide +kernel, by decide +kernel⟩, List.mem_of_getElem? (i := 47) (by decide +kernel), List.mem_of_getElem? (i := 494) (by decide +kernel), List.mem_of_getElem? (i := 495) (by decide +kernel)⟩
theorem lw_p20 : lw_okq (⟨"CursorBase$Tables", "moveStartsBehind", "(II)V"⟩, 3) := ⟨⟨by decide +kernel, by decide +kernel⟩, List.mem_of_getElem? (i := 47) (by decide +kernel), List.mem_of_getElem? (i := 502) (by decide +kernel), List.mem_of_getElem? (i := 503) (by decide +kernel)⟩
theorem lw_p21 : lw_okq (⟨"CursorBase$Run", "deleteRows", "(LCursorBase$Tables;)V"⟩, 8) := ⟨⟨by decide +kernel, by decide +kernel⟩, List.mem_of_getElem? (i := 63) (by decide +kernel), List.mem_of_getElem? (i := 506) (by decide +kernel), List.mem_of_getElem? (i := 507) (by decide +kernel)⟩
theorem lw_p22 : lw_okq (⟨"CursorBase$Run", "giveTotal", "(LCursorBase$Tables;)I"⟩, 8) := ⟨⟨by decide +kernel, by decide +kernel⟩, List.mem_of_getElem? (i := 63) (by decide +kernel), List.mem_of_getElem? (i := 535) (by decide +kernel), List.mem_of_getElem? (i := 536) (by decide +kernel)⟩
theorem lw_p23 : lw_okq (⟨"CursorBase$Run", "findRow", "(LCursorBase$Tables;)Z"⟩, 8) := ⟨⟨by decide +kernel, by decide +kernel⟩, List.mem_of_getElem? (i := 63) (by decide +kernel), List.mem_of_getElem? (i := 540) (by decide +kernel), List.mem_of_getElem? (i := 541) (by decide +kernel)⟩
theorem lw_p24 : lw_okq (⟨"CursorBase$Run", "place", "(II)I"⟩, 8) := ⟨⟨by decide +kernel, by decide +kernel⟩, List.mem_of_getElem? (i := 63) (by decide +kernel), List.mem_of_getElem? (i := 544) (by decide +kernel), List.mem_of_getElem? (i := 545) (by decide +kernel)⟩
theorem lw_p25 : lw_okq (⟨"CursorBase$Run", "giveRow", "(LCursorBase$Tables;)I"⟩, 8) := ⟨⟨by decide +kernel, by decide +kernel⟩, List.mem_of_getElem? (i := 63) (by decide +kernel), List.mem_of_getElem? (i := 549) (by decide +kernel), List.mem_of_getElem? (i := 550) (by decide +kernel)⟩
theorem lw_p26 : lw_okq (⟨"CursorBase$Run", "note", "(I)V"⟩, 8) := ⟨⟨by decide +kernel, by decide +kernel⟩, List.mem_of_getElem? (i := 63) (by decide +kernel), List.mem_of_getElem? (i := 553) (by decide +kernel), List.mem_of_getElem? (i := 554) (by decide +kernel)⟩
theorem lw_p27 : lw_okq (⟨"CursorBaseModel", "wrong", "()I"⟩, 29) := ⟨⟨by decide +kernel, by decide +kernel⟩, List.mem_of_getElem? (i := 629) (by decide +kernel), List.mem_of_getElem? (i := 743) (by decide +kernel), List.mem_of_getElem? (i := 744) (by decide +kernel)⟩
theorem lw_p28 : lw_okq (⟨"CursorBaseModel", "reads", "()Z"⟩, 29) := ⟨⟨by decide +kernel, by decide +kernel⟩, List.mem_of_getElem? (i := 629) (by decide +kernel), List.mem_of_getElem? (i := 747) (by decide +kernel), List.mem_of_getElem? (i := 748) (by decide +kernel)⟩
theorem lw_p29 : lw_okq (⟨"CursorBaseModel", "readsSelect", "()Z"⟩, 29) := ⟨⟨by decide +kernel, by decide +kernel⟩, List.mem_of_getElem? (i := 629) (by decide +kernel), List.mem_of_getElem? (i := 751) (by decide +kernel), List.mem_of_getElem? (i := 752) (by decide +kernel)⟩
theorem lw_p30 : lw_okq (⟨"CursorBaseModel", "readsList", "()Z"⟩, 29) := ⟨⟨by decide +kernel, by decide +kernel⟩, List.mem_of_getElem? (i := 629) (by decide +kernel), List.mem_of_getElem? (i := 755) (by decide +kernel), List.mem_of_getElem? (i := 756) (by decide +kernel)⟩
theorem lw_p31 : lw_okq (⟨"CursorBaseModel", "skips", "(I)Z"⟩, 29) := ⟨⟨by decide +kernel, by decide +kernel⟩, List.mem_of_getElem? (i := 629) (by decide +kernel), List.mem_of_getElem? (i := 759) (by decide +kernel), List.mem_of_getElem? (i := 760) (by decide +kernel)⟩
def lw_privs_2 : List (MethodName × Nat) := [(⟨"java/lang/Throwable", "fillInStackTrace", "(I)Ljava/lang/Throwable;"⟩, 6), (⟨"CursorBase$Tables", "placeNotBelow", "(II)I"⟩, 3), (⟨"CursorBase$Tables", "cellOf", "(II)I"⟩, 3), (⟨"CursorBase$Tables", "hasKeyAt", "(III)Z"⟩, 3), (⟨"CursorBase$Tables", "moveStartsBehind", "(II)V"⟩, 3), (⟨"CursorBase$Run", "deleteRows", "(LCursorBase$Tables;)V"⟩, 8), (⟨"CursorBase$Run", "giveTotal", "(LCursorBase$Tables;)I"⟩, 8), (⟨"CursorBase$Run", "findRow", "(LCursorBase$Tables;)Z"⟩, 8), (⟨"CursorBase$Run", "place", "(II)I"⟩, 8), (⟨"CursorBase$Run", "giveRow", "(LCursorBase$Tables;)I"⟩, 8), (⟨"CursorBase$Run", "note", "(I)V"⟩, 8), (⟨"CursorBaseModel", "wrong", "()I"⟩, 29), (⟨"CursorBaseModel", "reads", "()Z"⟩, 29), (⟨"CursorBaseModel", "readsSelect", "()Z"⟩, 29), (⟨"CursorBaseModel", "readsList", "()Z"⟩, 29), (⟨"CursorBaseModel", "skips", "(I)Z"⟩, 29)]
theorem lw_r2 : ∀ q ∈ lw_privs_2, lw_okq q := List.forall_mem_cons.mpr ⟨lw_p16, List.forall_mem_cons.mpr ⟨lw_p17, List.forall_mem_cons.mpr ⟨lw_p18, List.forall_mem_cons.mpr ⟨lw_p19, List.forall_mem_cons.mpr ⟨lw_p20, List.forall_mem_cons.mpr ⟨lw_p21, List.forall_mem_cons.mpr ⟨lw_p22, List.forall_mem_cons.mpr ⟨lw_p23, List.forall_mem_cons.mpr ⟨lw_p24, List.forall_mem_cons.mpr ⟨lw_p25, List.forall_mem_cons.mpr ⟨lw_p26, List.forall_mem_cons.mpr ⟨lw_p27, List.forall_mem_cons.mpr ⟨lw_p28, List.forall_mem_cons.mpr ⟨lw_p29, List.forall_mem_cons.mpr ⟨lw_p30, List.forall_mem_cons.mpr ⟨lw_p31, fun _ h => absurd h List.not_mem_nil⟩⟩⟩⟩⟩⟩⟩⟩⟩⟩⟩⟩⟩⟩⟩⟩
theorem lw_p32 : lw_okq (⟨"CursorBaseModel", "isWord", "(I)Z"⟩, 29) := ⟨⟨by decide +kernel, by decide +kernel⟩, List.mem_of_getElem? (i := 629) (by decide +kernel), List.mem_of_getElem? (i := 763) (by decide +kernel), List.mem_of_getElem? (i := 764) (by decide +kernel)⟩
theorem lw_p33 : lw_okq (⟨"CursorBaseModel", "isKind", "(I)Z"⟩, 29) := ⟨⟨by decide +kernel, by decide +kernel⟩, List.mem_of_getElem? (i := 629) (by decide +kernel), List.mem_of_getElem? (i := 767) (by decide +kernel), List.mem_of_getElem? (i := 768) (by decide +kernel)⟩
theorem lw_p34 : lw_okq (⟨"CursorBaseModel", "readsTable", "()I"⟩, 29) := ⟨⟨by decide +kernel, by decide +kernel⟩, List.mem_of_getElem? (i := 629) (by decide +kernel), List.mem_of_getElem? (i := 771) (by decide +kernel), List.mem_of_getElem? (i := 772) (by decide +kernel)⟩
theorem lw_p35 : lw_okq (⟨"CursorBaseModel", "readsConditions", "()Z"⟩, 29) := ⟨⟨by decide +kernel, by decide +kernel⟩, List.mem_of_getElem? (i := 629) (by decide +kernel), List.mem_of_getElem? (i := 775) (by decide +kernel), List.mem_of_getElem? (i := 776) (by decide +kernel)⟩
theorem lw_p36 : lw_okq (⟨"CursorBaseModel", "readsOperand", "()Z"⟩, 29) := ⟨⟨by decide +kernel, by decide +kernel⟩, List.mem_of_getElem? (i := 629) (by decide +kernel), List.mem_of_getElem? (i := 779) (by decide +kernel), List.mem_of_getElem? (i := 780) (by decide +kernel)⟩
theorem lw_p37 : lw_okq (⟨"CursorBaseModel", "isThere", "(I)Z"⟩, 29) := ⟨⟨by decide +kernel, by decide +kernel⟩, List.mem_of_getElem? (i := 629) (by decide +kernel), List.mem_of_getElem? (i := 783) (by decide +kernel), List.mem_of_getElem? (i := 784) (by decide +kernel)⟩
theorem lw_p38 : lw_okq (⟨"CursorBaseModel", "haveColumns", "()Z"⟩, 29) := ⟨⟨by decide +kernel, by decide +kernel⟩, List.mem_of_getElem? (i := 629) (by decide +kernel), List.mem_of_getElem? (i := 788) (by decide +kernel), List.mem_of_getElem? (i := 789) (by decide +kernel)⟩
theorem lw_p39 : lw_okq (⟨"CursorBaseModel", "begins", "()V"⟩, 29) := ⟨⟨by decide +kernel, by decide +kernel⟩, List.mem_of_getElem? (i := 629) (by decide +kernel), List.mem_of_getElem? (i := 792) (by decide +kernel), List.mem_of_getElem? (i := 793) (by decide +kernel)⟩
theorem lw_p40 : lw_okq (⟨"CursorBaseModel", "selects", "()I"⟩, 29) := ⟨⟨by decide +kernel, by decide +kernel⟩, List.mem_of_getElem? (i := 629) (by decide +kernel), List.mem_of_getElem? (i := 800) (by decide +kernel), List.mem_of_getElem? (i := 801) (by decide +kernel)⟩
theorem lw_p41 : lw_okq (⟨"CursorBaseModel", "isFold", "()Z"⟩, 29) := ⟨⟨by decide +kernel, by decide +kernel⟩, List.mem_of_getElem? (i := 629) (by decide +kernel), List.mem_of_getElem? (i := 804) (by decide +kernel), List.mem_of_getElem? (i := 805) (by decide +kernel)⟩
theorem lw_p42 : lw_okq (⟨"CursorBaseModel", "folds", "()V"⟩, 29) := ⟨⟨by decide +kernel, by decide +kernel⟩, List.mem_of_getElem? (i := 629) (by decide +kernel), List.mem_of_getElem? (i := 808) (by decide +kernel), List.mem_of_getElem? (i := 809) (by decide +kernel)⟩
theorem lw_p43 : lw_okq (⟨"CursorBaseModel", "holds", "(II)Z"⟩, 29) := ⟨⟨by decide +kernel, by decide +kernel⟩, List.mem_of_getElem? (i := 629) (by decide +kernel), List.mem_of_getElem? (i := 812) (by decide +kernel), List.mem_of_getElem? (i := 813) (by decide +kernel)⟩
theorem lw_p44 : lw_okq (⟨"CursorBaseModel", "value", "(III)I"⟩, 29) := ⟨⟨by decide +kernel, by decide +kernel⟩, List.mem_of_getElem? (i := 629) (by decide +kernel), List.mem_of_getElem? (i := 816) (by decide +kernel), List.mem_of_getElem? (i := 817) (by decide +kernel)⟩
theorem lw_p45 : lw_okq (⟨"CursorBaseModel", "cell", "(II)I"⟩, 29) := ⟨⟨by decide +kernel, by decide +kernel⟩, List.mem_of_getElem? (i := 629) (by decide +kernel), List.mem_of_getElem? (i := 820) (by decide +kernel), List.mem_of_getElem? (i := 821) (by decide +kernel)⟩
theorem lw_p46 : lw_okq (⟨"CursorBaseModel", "moves", "()Z"⟩, 29) := ⟨⟨by decide +kernel, by decide +kernel⟩, List.mem_of_getElem? (i := 629) (by decide +kernel), List.mem_of_getElem? (i := 824) (by decide +kernel), List.mem_of_getElem? (i := 825) (by decide +kernel)⟩
theorem lw_p47 : lw_okq (⟨"CursorBaseModel", "behind", "(II)I"⟩, 29) := ⟨⟨by decide +kernel, by decide +kernel⟩, List.mem_of_getElem? (i := 629) (by decide +kernel), List.mem_of_getElem? (i := 828) (by decide +kernel), List.mem_of_getElem? (i := 829) (by decide +kernel)⟩
def lw_privs_3 : List (MethodName × Nat) := [(⟨"CursorBaseModel", "isWord", "(I)Z"⟩, 29), (⟨"CursorBaseModel", "isKind", "(I)Z"⟩, 29), (⟨"CursorBaseModel", "readsTable", "()I"⟩, 29), (⟨"CursorBaseModel", "readsConditions", "()Z"⟩, 29), (⟨"CursorBaseModel", "readsOperand", "()Z"⟩, 29), (⟨"CursorBaseModel", "isThere", "(I)Z"⟩, 29), (⟨"CursorBaseModel", "haveColumns", "()Z"⟩, 29), (⟨"CursorBaseModel", "begins", "()V"⟩, 29), (⟨"CursorBaseModel", "selects", "()I"⟩, 29), (⟨"CursorBaseModel", "isFold", "()Z"⟩, 29), (⟨"CursorBaseModel", "folds", "()V"⟩, 29), (⟨"CursorBaseModel", "holds", "(II)Z"⟩, 29), (⟨"CursorBaseModel", "value", "(III)I"⟩, 29), (⟨"CursorBaseModel", "cell", "(II)I"⟩, 29), (⟨"CursorBaseModel", "moves", "()Z"⟩, 29), (⟨"CursorBaseModel", "behind", "(II)I"⟩, 29)]
theorem lw_r3 : ∀ q ∈ lw_privs_3, lw_okq q := List.forall_mem_cons.mpr ⟨lw_p32, List.forall_mem_cons.mpr ⟨lw_p33, List.forall_mem_cons.mpr ⟨lw_p34, List.forall_mem_cons.mpr ⟨lw_p35, List.forall_mem_cons.mpr ⟨lw_p36, List.forall_mem_cons.mpr ⟨lw_p37, List.forall_mem_cons.mpr ⟨lw_p38, List.forall_mem_cons.mpr ⟨lw_p39, List.forall_mem_cons.mpr ⟨lw_p40, List.forall_mem_cons.mpr ⟨lw_p41, List.forall_mem_cons.mpr ⟨lw_p42, List.forall_mem_cons.mpr ⟨lw_p43, List.forall_mem_cons.mpr ⟨lw_p44, List.forall_mem_cons.mpr ⟨lw_p45, List.forall_mem_cons.mpr ⟨lw_p46, List.forall_mem_cons.mpr ⟨lw_p47, fun _ h => absurd h List.not_mem_nil⟩⟩⟩⟩⟩⟩⟩⟩⟩⟩⟩⟩⟩⟩⟩⟩
theorem lw_p48 : lw_okq (⟨"CursorBaseModel", "creates", "()I"⟩, 29) := ⟨⟨by decide +kernel, by decide +kernel⟩, List.mem_of_getElem? (i := 629) (by decide +kernel), List.mem_of_getElem? (i := 832) (by decide +kernel), List.mem_of_getElem? (i := 833) (by decide +kernel)⟩
theorem lw_p49 : lw_okq (⟨"CursorBaseModel", "inserts", "()I"⟩, 29) := ⟨⟨by decide +kernel, by decide +kernel⟩, List.mem_of_getElem? (i := 629) (by decide +kernel), List.mem_of_getElem? (i := 836) (by decide +kernel), List.mem_of_getElem? (i := 837) (by decide +kernel)⟩
theorem lw_p50 : lw_okq (⟨"CursorBaseModel", "findKey", "(II)I"⟩, 29) := ⟨⟨by decide +kernel, by decide +kernel⟩, List.mem_of_getElem? (i := 629) (by decide +kernel), List.mem_of_getElem? (i := 840) (by decide +kernel), List.mem_of_getElem? (i := 841) (by decide +kernel)⟩
theorem lw_p51 : lw_okq (⟨"CursorBaseModel", "deletes", "()I"⟩, 29) := ⟨⟨by decide +kernel, by decide +kernel⟩, List.mem_of_getElem? (i := 629) (by decide +kernel), List.mem_of_getElem? (i := 844) (by decide +kernel), List.mem_of_getElem? (i := 845) (by decide +kernel)⟩
theorem lw_p52 : lw_okq (⟨"CursorBaseModel", "wide", "()I"⟩, 29) := ⟨⟨by decide +kernel, by decide +kernel⟩, List.mem_of_getElem? (i := 629) (by decide +kernel), List.mem_of_getElem? (i := 856) (by decide +kernel), List.mem_of_getElem? (i := 857) (by decide +kernel)⟩
theorem lw_p53 : lw_okq (⟨"CursorBaseModel", "listed", "()I"⟩, 29) := ⟨⟨by decide +kernel, by decide +kernel⟩, List.mem_of_getElem? (i := 629) (by decide +kernel), List.mem_of_getElem? (i := 860) (by decide +kernel), List.mem_of_getElem? (i := 861) (by decide +kernel)⟩
def lw_privs_4 : List (MethodName × Nat) := [(⟨"CursorBaseModel", "creates", "()I"⟩, 29), (⟨"CursorBaseModel", "inserts", "()I"⟩, 29), (⟨"CursorBaseModel", "findKey", "(II)I"⟩, 29), (⟨"CursorBaseModel", "deletes", "()I"⟩, 29), (⟨"CursorBaseModel", "wide", "()I"⟩, 29), (⟨"CursorBaseModel", "listed", "()I"⟩, 29)]
theorem lw_r4 : ∀ q ∈ lw_privs_4, lw_okq q := List.forall_mem_cons.mpr ⟨lw_p48, List.forall_mem_cons.mpr ⟨lw_p49, List.forall_mem_cons.mpr ⟨lw_p50, List.forall_mem_cons.mpr ⟨lw_p51, List.forall_mem_cons.mpr ⟨lw_p52, List.forall_mem_cons.mpr ⟨lw_p53, fun _ h => absurd h List.not_mem_nil⟩⟩⟩⟩⟩⟩
def lw_privs : List (MethodName × Nat) := lw_privs_1 ++ (lw_privs_2 ++ (lw_privs_3 ++ (lw_privs_4)))
def lw_tbl : List Cond := k2_sels lw_privs ++ tables_1
theorem lw_privs_ok : ∀ q ∈ lw_privs, lw_okq q := by
  show ∀ q ∈ lw_privs_1 ++ (lw_privs_2 ++ (lw_privs_3 ++ (lw_privs_4))), lw_okq q
  exact List.forall_mem_append.mpr ⟨lw_r1, List.forall_mem_append.mpr ⟨lw_r2, List.forall_mem_append.mpr ⟨lw_r3, lw_r4⟩⟩⟩
end
section
/-! NAMES, by my program (wip/whole/gen_names.py) out of the Statement's words and javap's listing -/
theorem xin {i : Nat} {w : Cond} (h : tables_1[i]? = some w) (hg : goodWord w = true) : w ∈ lw_tbl.filter goodWord := List.mem_filter.mpr ⟨List.mem_append_right _ (List.mem_of_getElem? h), hg⟩
def R_Op : String := "CursorBase$Operand"
def F_Op : u_T := fun k => match k with
  | 0 => ("CursorBase$Operand", "kind", "I", true)
  | _ => ("CursorBase$Operand", "number", "I", true)
def t_Op : Nat → FieldType := fun k => match k with
  | 0 => .int
  | _ => .int
def R_Cn : String := "CursorBase$Condition"
def F_Cn : u_T := fun k => match k with
  | 0 => ("CursorBase$Condition", "left", "LCursorBase$Operand;", true)
  | 1 => ("CursorBase$Condition", "comparison", "I", true)
  | _ => ("CursorBase$Condition", "right", "LCursorBase$Operand;", true)
def t_Cn : Nat → FieldType := fun k => match k with
  | 0 => .object "CursorBase$Operand"
  | 1 => .int
  | _ => .object "CursorBase$Operand"
def R_Pa : String := "CursorBase$Parser"
def F_Pa : u_T := fun k => match k with
  | 0 => ("CursorBase$Parser", "tokens", "LCursorBase$Tokens;", true)
  | 1 => ("CursorBase$Parser", "statement", "LCursorBase$Statement;", true)
  | _ => ("CursorBase$Parser", "at", "I", false)
def t_Pa : Nat → FieldType := fun k => match k with
  | 0 => .object "CursorBase$Tokens"
  | 1 => .object "CursorBase$Statement"
  | _ => .int
def R_Ru : String := "CursorBase$Run"
def F_Ru : u_T := fun k => match k with
  | 0 => ("CursorBase$Run", "statement", "LCursorBase$Statement;", false)
  | 1 => ("CursorBase$Run", "given", "I", false)
  | 2 => ("CursorBase$Run", "onRow", "Z", false)
  | 3 => ("CursorBase$Run", "ended", "Z", false)
  | 4 => ("CursorBase$Run", "firstPassed", "I", false)
  | 5 => ("CursorBase$Run", "secondPassed", "I", false)
  | 6 => ("CursorBase$Run", "total", "J", false)
  | _ => ("CursorBase$Run", "read", "[I", true)
def t_Ru : Nat → FieldType := fun k => match k with
  | 0 => .object "CursorBase$Statement"
  | 1 => .int
  | 2 => .boolean
  | 3 => .boolean
  | 4 => .int
  | 5 => .int
  | 6 => .long
  | _ => .array .int
def R_St : String := "CursorBase$Statement"
def F_St : u_T := fun k => match k with
  | 0 => ("CursorBase$Statement", "verb", "I", false)
  | 1 => ("CursorBase$Statement", "list", "I", false)
  | 2 => ("CursorBase$Statement", "first", "I", false)
  | 3 => ("CursorBase$Statement", "second", "I", false)
  | 4 => ("CursorBase$Statement", "falling", "Z", false)
  | 5 => ("CursorBase$Statement", "numberCount", "I", false)
  | 6 => ("CursorBase$Statement", "numbers", "[I", true)
  | 7 => ("CursorBase$Statement", "pickCount", "I", false)
  | 8 => ("CursorBase$Statement", "picks", "[LCursorBase$Operand;", true)
  | 9 => ("CursorBase$Statement", "conditionCount", "I", false)
  | _ => ("CursorBase$Statement", "conditions", "[LCursorBase$Condition;", true)
def t_St : Nat → FieldType := fun k => match k with
  | 0 => .int
  | 1 => .int
  | 2 => .int
  | 3 => .int
  | 4 => .boolean
  | 5 => .int
  | 6 => .array .int
  | 7 => .int
  | 8 => .array (.object "CursorBase$Operand")
  | 9 => .int
  | _ => .array (.object "CursorBase$Condition")
def R_Ta : String := "CursorBase$Tables"
def F_Ta : u_T := fun k => match k with
  | 0 => ("CursorBase$Tables", "cells", "[I", true)
  | 1 => ("CursorBase$Tables", "columns", "[I", true)
  | _ => ("CursorBase$Tables", "starts", "[I", true)
def t_Ta : Nat → FieldType := fun k => match k with
  | 0 => .array .int
  | 1 => .array .int
  | _ => .array .int
def R_To : String := "CursorBase$Tokens"
def F_To : u_T := fun k => match k with
  | 0 => ("CursorBase$Tokens", "kinds", "[I", true)
  | 1 => ("CursorBase$Tokens", "numbers", "[I", true)
  | _ => ("CursorBase$Tokens", "size", "I", false)
def t_To : Nat → FieldType := fun k => match k with
  | 0 => .array .int
  | 1 => .array .int
  | _ => .int
def R_CB : String := "CursorBase"
def F_CB : u_T := fun k => match k with
  | 0 => ("CursorBase", "pending", "LCursorBase$Tokens;", true)
  | 1 => ("CursorBase", "tables", "LCursorBase$Tables;", true)
  | _ => ("CursorBase", "run", "LCursorBase$Run;", true)
def t_CB : Nat → FieldType := fun k => match k with
  | 0 => .object "CursorBase$Tokens"
  | 1 => .object "CursorBase$Tables"
  | _ => .object "CursorBase$Run"
def R_Mo : String := "CursorBaseModel"
def F_Mo : u_T := fun k => match k with
  | 0 => ("CursorBaseModel", "thrown", "I", false)
  | 1 => ("CursorBaseModel", "columns", "[I", true)
  | 2 => ("CursorBaseModel", "of", "[I", true)
  | 3 => ("CursorBaseModel", "cells", "[I", true)
  | 4 => ("CursorBaseModel", "rows", "I", false)
  | 5 => ("CursorBaseModel", "kinds", "[I", true)
  | 6 => ("CursorBaseModel", "numbers", "[I", true)
  | 7 => ("CursorBaseModel", "pending", "I", false)
  | 8 => ("CursorBaseModel", "hadKinds", "[I", true)
  | 9 => ("CursorBaseModel", "hadNumbers", "[I", true)
  | 10 => ("CursorBaseModel", "had", "I", false)
  | 11 => ("CursorBaseModel", "there", "Z", false)
  | 12 => ("CursorBaseModel", "first", "I", false)
  | 13 => ("CursorBaseModel", "second", "I", false)
  | 14 => ("CursorBaseModel", "from", "I", false)
  | 15 => ("CursorBaseModel", "to", "I", false)
  | 16 => ("CursorBaseModel", "falls", "Z", false)
  | 17 => ("CursorBaseModel", "state", "I", false)
  | 18 => ("CursorBaseModel", "given", "I", false)
  | 19 => ("CursorBaseModel", "at", "I", false)
  | 20 => ("CursorBaseModel", "beside", "I", false)
  | 21 => ("CursorBaseModel", "row", "Z", false)
  | 22 => ("CursorBaseModel", "told", "J", false)
  | 23 => ("CursorBaseModel", "read", "I", false)
  | 24 => ("CursorBaseModel", "newFirst", "I", false)
  | 25 => ("CursorBaseModel", "newSecond", "I", false)
  | 26 => ("CursorBaseModel", "newFrom", "I", false)
  | 27 => ("CursorBaseModel", "newTo", "I", false)
  | _ => ("CursorBaseModel", "newFalls", "Z", false)
def t_Mo : Nat → FieldType := fun k => match k with
  | 0 => .int
  | 1 => .array .int
  | 2 => .array .int
  | 3 => .array .int
  | 4 => .int
  | 5 => .array .int
  | 6 => .array .int
  | 7 => .int
  | 8 => .array .int
  | 9 => .array .int
  | 10 => .int
  | 11 => .boolean
  | 12 => .int
  | 13 => .int
  | 14 => .int
  | 15 => .int
  | 16 => .boolean
  | 17 => .int
  | 18 => .int
  | 19 => .int
  | 20 => .int
  | 21 => .boolean
  | 22 => .long
  | 23 => .int
  | 24 => .int
  | 25 => .int
  | 26 => .int
  | 27 => .int
  | _ => .boolean
def R_La : String := "CursorBaseLaw"
abbrev vwCl : List vw_C := [(R_Op, F_Op, 2), (R_Cn, F_Cn, 3), (R_Pa, F_Pa, 3), (R_Ru, F_Ru, 8), (R_St, F_St, 11), (R_Ta, F_Ta, 3), (R_To, F_To, 3), (R_CB, F_CB, 3), (R_Mo, F_Mo, 29)]
abbrev b_CB_init : ByteArray := prog_1_method_1_code
def y_CB_init : MethodName := ⟨R_CB, "<init>", "()V"⟩
abbrev b_To_init : ByteArray := prog_8_method_1_code
def y_To_init : MethodName := ⟨R_To, "<init>", "()V"⟩
abbrev b_Ta_init : ByteArray := prog_7_method_1_code
def y_Ta_init : MethodName := ⟨R_Ta, "<init>", "()V"⟩
abbrev b_Ru_init : ByteArray := prog_5_method_1_code
def y_Ru_init : MethodName := ⟨R_Ru, "<init>", "()V"⟩
abbrev b_CB_prepare : ByteArray := prog_1_method_3_code
def y_CB_prepare : MethodName := ⟨R_CB, "prepare", "()I"⟩
abbrev b_Pa_init : ByteArray := prog_4_method_1_code
def y_Pa_init : MethodName := ⟨R_Pa, "<init>", "(LCursorBase$Tokens;)V"⟩
abbrev b_St_init : ByteArray := prog_6_method_1_code
def y_St_init : MethodName := ⟨R_St, "<init>", "()V"⟩
abbrev b_Pa_parse : ByteArray := prog_4_method_2_code
def y_Pa_parse : MethodName := ⟨R_Pa, "parse", "()LCursorBase$Statement;"⟩
abbrev b_Pa_takeWordBetween : ByteArray := prog_4_method_6_code
def y_Pa_takeWordBetween : MethodName := ⟨R_Pa, "takeWordBetween", "(II)I"⟩
abbrev b_To_isKind : ByteArray := prog_8_method_7_code
def y_To_isKind : MethodName := ⟨R_To, "isKind", "(II)Z"⟩
abbrev b_Pa_takeFirstTable : ByteArray := prog_4_method_8_code
def y_Pa_takeFirstTable : MethodName := ⟨R_Pa, "takeFirstTable", "()Z"⟩
abbrev b_Pa_takeTable : ByteArray := prog_4_method_7_code
def y_Pa_takeTable : MethodName := ⟨R_Pa, "takeTable", "()I"⟩
abbrev b_Pa_takeNumber : ByteArray := prog_4_method_9_code
def y_Pa_takeNumber : MethodName := ⟨R_Pa, "takeNumber", "()Z"⟩
abbrev b_St_addNumber : ByteArray := prog_6_method_2_code
def y_St_addNumber : MethodName := ⟨R_St, "addNumber", "(I)V"⟩
abbrev b_Pa_takeNumbers : ByteArray := prog_4_method_10_code
def y_Pa_takeNumbers : MethodName := ⟨R_Pa, "takeNumbers", "()Z"⟩
abbrev b_Pa_takeConditions : ByteArray := prog_4_method_13_code
def y_Pa_takeConditions : MethodName := ⟨R_Pa, "takeConditions", "()Z"⟩
abbrev b_Pa_takeWord : ByteArray := prog_4_method_5_code
def y_Pa_takeWord : MethodName := ⟨R_Pa, "takeWord", "(I)Z"⟩
abbrev b_Pa_takeCondition : ByteArray := prog_4_method_14_code
def y_Pa_takeCondition : MethodName := ⟨R_Pa, "takeCondition", "()LCursorBase$Condition;"⟩
abbrev b_Pa_takeOperand : ByteArray := prog_4_method_15_code
def y_Pa_takeOperand : MethodName := ⟨R_Pa, "takeOperand", "()LCursorBase$Operand;"⟩
abbrev b_Op_init : ByteArray := prog_3_method_1_code
def y_Op_init : MethodName := ⟨R_Op, "<init>", "(II)V"⟩
abbrev b_Cn_init : ByteArray := prog_2_method_1_code
def y_Cn_init : MethodName := ⟨R_Cn, "<init>", "(LCursorBase$Operand;ILCursorBase$Operand;)V"⟩
abbrev b_St_addCondition : ByteArray := prog_6_method_4_code
def y_St_addCondition : MethodName := ⟨R_St, "addCondition", "(LCursorBase$Condition;)V"⟩
abbrev b_Pa_takeList : ByteArray := prog_4_method_11_code
def y_Pa_takeList : MethodName := ⟨R_Pa, "takeList", "()Z"⟩
abbrev b_Pa_takeColumns : ByteArray := prog_4_method_12_code
def y_Pa_takeColumns : MethodName := ⟨R_Pa, "takeColumns", "(I)Z"⟩
abbrev b_St_addPick : ByteArray := prog_6_method_3_code
def y_St_addPick : MethodName := ⟨R_St, "addPick", "(I)V"⟩
abbrev b_Pa_takeFrom : ByteArray := prog_4_method_3_code
def y_Pa_takeFrom : MethodName := ⟨R_Pa, "takeFrom", "()Z"⟩
abbrev b_Pa_takeOrder : ByteArray := prog_4_method_4_code
def y_Pa_takeOrder : MethodName := ⟨R_Pa, "takeOrder", "()Z"⟩
abbrev b_To_drop : ByteArray := prog_8_method_6_code
def y_To_drop : MethodName := ⟨R_To, "drop", "()V"⟩
abbrev b_St_fault : ByteArray := prog_6_method_5_code
def y_St_fault : MethodName := ⟨R_St, "fault", "(LCursorBase$Tables;)I"⟩
abbrev b_St_faultOfCreate : ByteArray := prog_6_method_6_code
def y_St_faultOfCreate : MethodName := ⟨R_St, "faultOfCreate", "(LCursorBase$Tables;)I"⟩
abbrev b_Ta_isThere : ByteArray := prog_7_method_2_code
def y_Ta_isThere : MethodName := ⟨R_Ta, "isThere", "(I)Z"⟩
abbrev b_Ta_columnsOf : ByteArray := prog_7_method_3_code
def y_Ta_columnsOf : MethodName := ⟨R_Ta, "columnsOf", "(I)I"⟩
abbrev b_St_columnsAreThere : ByteArray := prog_6_method_7_code
def y_St_columnsAreThere : MethodName := ⟨R_St, "columnsAreThere", "(II)Z"⟩
abbrev b_Op_isThere : ByteArray := prog_3_method_2_code
def y_Op_isThere : MethodName := ⟨R_Op, "isThere", "(II)Z"⟩
abbrev b_Cn_isThere : ByteArray := prog_2_method_2_code
def y_Cn_isThere : MethodName := ⟨R_Cn, "isThere", "(II)Z"⟩
abbrev b_St_spellOutAll : ByteArray := prog_6_method_8_code
def y_St_spellOutAll : MethodName := ⟨R_St, "spellOutAll", "(LCursorBase$Tables;)V"⟩
abbrev b_St_addPicks : ByteArray := prog_6_method_9_code
def y_St_addPicks : MethodName := ⟨R_St, "addPicks", "(II)V"⟩
abbrev b_Ru_begin : ByteArray := prog_5_method_2_code
def y_Ru_begin : MethodName := ⟨R_Ru, "begin", "(LCursorBase$Statement;)V"⟩
abbrev b_CB_all : ByteArray := prog_1_method_9_code
def y_CB_all : MethodName := ⟨R_CB, "all", "()I"⟩
abbrev b_Ta_rowsInAll : ByteArray := prog_7_method_5_code
def y_Ta_rowsInAll : MethodName := ⟨R_Ta, "rowsInAll", "()I"⟩
abbrev b_CB_clear : ByteArray := prog_1_method_11_code
def y_CB_clear : MethodName := ⟨R_CB, "clear", "()V"⟩
abbrev b_Ta_drop : ByteArray := prog_7_method_16_code
def y_Ta_drop : MethodName := ⟨R_Ta, "drop", "()V"⟩
abbrev b_La_feed : ByteArray := method_3_code
def y_La_feed : MethodName := ⟨R_La, "feed", "(LCursorBase;II[J)I"⟩
abbrev b_CB_feed : ByteArray := prog_1_method_2_code
def y_CB_feed : MethodName := ⟨R_CB, "feed", "(II)I"⟩
abbrev b_To_isToken : ByteArray := prog_8_method_2_code
def y_To_isToken : MethodName := ⟨R_To, "isToken", "(II)Z"⟩
abbrev b_To_isColumnFrom : ByteArray := prog_8_method_3_code
def y_To_isColumnFrom : MethodName := ⟨R_To, "isColumnFrom", "(II)Z"⟩
abbrev b_To_isFull : ByteArray := prog_8_method_4_code
def y_To_isFull : MethodName := ⟨R_To, "isFull", "()Z"⟩
abbrev b_To_put : ByteArray := prog_8_method_5_code
def y_To_put : MethodName := ⟨R_To, "put", "(II)V"⟩
abbrev b_La_step : ByteArray := method_4_code
def y_La_step : MethodName := ⟨R_La, "step", "(LCursorBase;[J)I"⟩
abbrev b_CB_step : ByteArray := prog_1_method_4_code
def y_CB_step : MethodName := ⟨R_CB, "step", "()I"⟩
abbrev b_Ru_advance : ByteArray := prog_5_method_3_code
def y_Ru_advance : MethodName := ⟨R_Ru, "advance", "(LCursorBase$Tables;)I"⟩
abbrev b_Ta_create : ByteArray := prog_7_method_12_code
def y_Ta_create : MethodName := ⟨R_Ta, "create", "(II)I"⟩
abbrev b_Ta_insert : ByteArray := prog_7_method_13_code
def y_Ta_insert : MethodName := ⟨R_Ta, "insert", "(I[I)I"⟩
abbrev b_Ta_placeNotBelow : ByteArray := prog_7_method_9_code
def y_Ta_placeNotBelow : MethodName := ⟨R_Ta, "placeNotBelow", "(II)I"⟩
abbrev b_Ta_rowsOf : ByteArray := prog_7_method_4_code
def y_Ta_rowsOf : MethodName := ⟨R_Ta, "rowsOf", "(I)I"⟩
abbrev b_Ta_keyAt : ByteArray := prog_7_method_7_code
def y_Ta_keyAt : MethodName := ⟨R_Ta, "keyAt", "(II)I"⟩
abbrev b_Ta_cellOf : ByteArray := prog_7_method_6_code
def y_Ta_cellOf : MethodName := ⟨R_Ta, "cellOf", "(II)I"⟩
abbrev b_Ta_hasKeyAt : ByteArray := prog_7_method_10_code
def y_Ta_hasKeyAt : MethodName := ⟨R_Ta, "hasKeyAt", "(III)Z"⟩
abbrev b_Ta_moveStartsBehind : ByteArray := prog_7_method_15_code
def y_Ta_moveStartsBehind : MethodName := ⟨R_Ta, "moveStartsBehind", "(II)V"⟩
abbrev b_Ru_deleteRows : ByteArray := prog_5_method_5_code
def y_Ru_deleteRows : MethodName := ⟨R_Ru, "deleteRows", "(LCursorBase$Tables;)V"⟩
abbrev b_Ta_read : ByteArray := prog_7_method_8_code
def y_Ta_read : MethodName := ⟨R_Ta, "read", "(II[II)V"⟩
abbrev b_St_holds : ByteArray := prog_6_method_12_code
def y_St_holds : MethodName := ⟨R_St, "holds", "([I)Z"⟩
abbrev b_Cn_holds : ByteArray := prog_2_method_3_code
def y_Cn_holds : MethodName := ⟨R_Cn, "holds", "([I)Z"⟩
abbrev b_Op_value : ByteArray := prog_3_method_3_code
def y_Op_value : MethodName := ⟨R_Op, "value", "([I)I"⟩
abbrev b_Ta_remove : ByteArray := prog_7_method_14_code
def y_Ta_remove : MethodName := ⟨R_Ta, "remove", "(II)V"⟩
abbrev b_St_hasTotal : ByteArray := prog_6_method_10_code
def y_St_hasTotal : MethodName := ⟨R_St, "hasTotal", "()Z"⟩
abbrev b_Ru_giveTotal : ByteArray := prog_5_method_7_code
def y_Ru_giveTotal : MethodName := ⟨R_Ru, "giveTotal", "(LCursorBase$Tables;)I"⟩
abbrev b_Ru_findRow : ByteArray := prog_5_method_8_code
def y_Ru_findRow : MethodName := ⟨R_Ru, "findRow", "(LCursorBase$Tables;)Z"⟩
abbrev b_Ru_place : ByteArray := prog_5_method_9_code
def y_Ru_place : MethodName := ⟨R_Ru, "place", "(II)I"⟩
abbrev b_Ru_giveRow : ByteArray := prog_5_method_6_code
def y_Ru_giveRow : MethodName := ⟨R_Ru, "giveRow", "(LCursorBase$Tables;)I"⟩
abbrev b_Ru_note : ByteArray := prog_5_method_4_code
def y_Ru_note : MethodName := ⟨R_Ru, "note", "(I)V"⟩
abbrev b_La_reset : ByteArray := method_5_code
def y_La_reset : MethodName := ⟨R_La, "reset", "(LCursorBase;[J)I"⟩
abbrev b_CB_reset : ByteArray := prog_1_method_5_code
def y_CB_reset : MethodName := ⟨R_CB, "reset", "()I"⟩
abbrev b_La_width : ByteArray := method_6_code
def y_La_width : MethodName := ⟨R_La, "width", "(LCursorBase;[J)I"⟩
abbrev b_CB_width : ByteArray := prog_1_method_6_code
def y_CB_width : MethodName := ⟨R_CB, "width", "()I"⟩
abbrev b_St_columnCount : ByteArray := prog_6_method_11_code
def y_St_columnCount : MethodName := ⟨R_St, "columnCount", "()I"⟩
abbrev b_La_column : ByteArray := method_7_code
def y_La_column : MethodName := ⟨R_La, "column", "(LCursorBase;I[J)I"⟩
abbrev b_CB_column : ByteArray := prog_1_method_7_code
def y_CB_column : MethodName := ⟨R_CB, "column", "(I)J"⟩
abbrev b_Ru_valueAt : ByteArray := prog_5_method_10_code
def y_Ru_valueAt : MethodName := ⟨R_Ru, "valueAt", "(I)J"⟩
abbrev b_La_rows : ByteArray := method_8_code
def y_La_rows : MethodName := ⟨R_La, "rows", "(LCursorBase;I[J)I"⟩
abbrev b_CB_rows : ByteArray := prog_1_method_8_code
def y_CB_rows : MethodName := ⟨R_CB, "rows", "(I)I"⟩
abbrev b_La_nearest : ByteArray := method_9_code
def y_La_nearest : MethodName := ⟨R_La, "nearest", "(LCursorBase;IIZ[J)I"⟩
abbrev b_CB_nearest : ByteArray := prog_1_method_10_code
def y_CB_nearest : MethodName := ⟨R_CB, "nearest", "(IIZ)I"⟩
abbrev b_Ta_placeNearest : ByteArray := prog_7_method_11_code
def y_Ta_placeNearest : MethodName := ⟨R_Ta, "placeNearest", "(IIZ)I"⟩
abbrev b_Mo_init : ByteArray := prog_10_method_1_code
def y_Mo_init : MethodName := ⟨R_Mo, "<init>", "()V"⟩
abbrev b_Mo_thrown : ByteArray := prog_10_method_2_code
def y_Mo_thrown : MethodName := ⟨R_Mo, "thrown", "()I"⟩
abbrev b_Mo_feed : ByteArray := prog_10_method_4_code
def y_Mo_feed : MethodName := ⟨R_Mo, "feed", "(II)I"⟩
abbrev b_Mo_in : ByteArray := prog_10_method_3_code
def y_Mo_in : MethodName := ⟨R_Mo, "in", "(JJJ)Z"⟩
abbrev b_Mo_prepare : ByteArray := prog_10_method_17_code
def y_Mo_prepare : MethodName := ⟨R_Mo, "prepare", "()I"⟩
abbrev b_Mo_wrong : ByteArray := prog_10_method_16_code
def y_Mo_wrong : MethodName := ⟨R_Mo, "wrong", "()I"⟩
abbrev b_Mo_reads : ByteArray := prog_10_method_13_code
def y_Mo_reads : MethodName := ⟨R_Mo, "reads", "()Z"⟩
abbrev b_Mo_readsSelect : ByteArray := prog_10_method_12_code
def y_Mo_readsSelect : MethodName := ⟨R_Mo, "readsSelect", "()Z"⟩
abbrev b_Mo_readsList : ByteArray := prog_10_method_11_code
def y_Mo_readsList : MethodName := ⟨R_Mo, "readsList", "()Z"⟩
abbrev b_Mo_skips : ByteArray := prog_10_method_7_code
def y_Mo_skips : MethodName := ⟨R_Mo, "skips", "(I)Z"⟩
abbrev b_Mo_isWord : ByteArray := prog_10_method_6_code
def y_Mo_isWord : MethodName := ⟨R_Mo, "isWord", "(I)Z"⟩
abbrev b_Mo_isKind : ByteArray := prog_10_method_5_code
def y_Mo_isKind : MethodName := ⟨R_Mo, "isKind", "(I)Z"⟩
abbrev b_Mo_readsTable : ByteArray := prog_10_method_8_code
def y_Mo_readsTable : MethodName := ⟨R_Mo, "readsTable", "()I"⟩
abbrev b_Mo_readsConditions : ByteArray := prog_10_method_10_code
def y_Mo_readsConditions : MethodName := ⟨R_Mo, "readsConditions", "()Z"⟩
abbrev b_Mo_readsOperand : ByteArray := prog_10_method_9_code
def y_Mo_readsOperand : MethodName := ⟨R_Mo, "readsOperand", "()Z"⟩
abbrev b_Mo_isThere : ByteArray := prog_10_method_14_code
def y_Mo_isThere : MethodName := ⟨R_Mo, "isThere", "(I)Z"⟩
abbrev b_Mo_haveColumns : ByteArray := prog_10_method_15_code
def y_Mo_haveColumns : MethodName := ⟨R_Mo, "haveColumns", "()Z"⟩
abbrev b_Mo_begins : ByteArray := prog_10_method_18_code
def y_Mo_begins : MethodName := ⟨R_Mo, "begins", "()V"⟩
abbrev b_Mo_step : ByteArray := prog_10_method_31_code
def y_Mo_step : MethodName := ⟨R_Mo, "step", "()I"⟩
abbrev b_Mo_selects : ByteArray := prog_10_method_30_code
def y_Mo_selects : MethodName := ⟨R_Mo, "selects", "()I"⟩
abbrev b_Mo_isFold : ByteArray := prog_10_method_29_code
def y_Mo_isFold : MethodName := ⟨R_Mo, "isFold", "()Z"⟩
abbrev b_Mo_folds : ByteArray := prog_10_method_28_code
def y_Mo_folds : MethodName := ⟨R_Mo, "folds", "()V"⟩
abbrev b_Mo_holds : ByteArray := prog_10_method_21_code
def y_Mo_holds : MethodName := ⟨R_Mo, "holds", "(II)Z"⟩
abbrev b_Mo_value : ByteArray := prog_10_method_20_code
def y_Mo_value : MethodName := ⟨R_Mo, "value", "(III)I"⟩
abbrev b_Mo_cell : ByteArray := prog_10_method_19_code
def y_Mo_cell : MethodName := ⟨R_Mo, "cell", "(II)I"⟩
abbrev b_Mo_moves : ByteArray := prog_10_method_23_code
def y_Mo_moves : MethodName := ⟨R_Mo, "moves", "()Z"⟩
abbrev b_Mo_behind : ByteArray := prog_10_method_22_code
def y_Mo_behind : MethodName := ⟨R_Mo, "behind", "(II)I"⟩
abbrev b_Mo_creates : ByteArray := prog_10_method_27_code
def y_Mo_creates : MethodName := ⟨R_Mo, "creates", "()I"⟩
abbrev b_Mo_inserts : ByteArray := prog_10_method_25_code
def y_Mo_inserts : MethodName := ⟨R_Mo, "inserts", "()I"⟩
abbrev b_Mo_findKey : ByteArray := prog_10_method_24_code
def y_Mo_findKey : MethodName := ⟨R_Mo, "findKey", "(II)I"⟩
abbrev b_Mo_deletes : ByteArray := prog_10_method_26_code
def y_Mo_deletes : MethodName := ⟨R_Mo, "deletes", "()I"⟩
abbrev b_Mo_reset : ByteArray := prog_10_method_32_code
def y_Mo_reset : MethodName := ⟨R_Mo, "reset", "()I"⟩
abbrev b_Mo_width : ByteArray := prog_10_method_35_code
def y_Mo_width : MethodName := ⟨R_Mo, "width", "()I"⟩
abbrev b_Mo_wide : ByteArray := prog_10_method_34_code
def y_Mo_wide : MethodName := ⟨R_Mo, "wide", "()I"⟩
abbrev b_Mo_listed : ByteArray := prog_10_method_33_code
def y_Mo_listed : MethodName := ⟨R_Mo, "listed", "()I"⟩
abbrev b_Mo_column : ByteArray := prog_10_method_36_code
def y_Mo_column : MethodName := ⟨R_Mo, "column", "(I)J"⟩
abbrev b_Mo_rows : ByteArray := prog_10_method_37_code
def y_Mo_rows : MethodName := ⟨R_Mo, "rows", "(I)I"⟩
abbrev b_Mo_all : ByteArray := prog_10_method_38_code
def y_Mo_all : MethodName := ⟨R_Mo, "all", "()I"⟩
abbrev b_Mo_nearest : ByteArray := prog_10_method_39_code
def y_Mo_nearest : MethodName := ⟨R_Mo, "nearest", "(IIZ)I"⟩
abbrev b_Mo_clear : ByteArray := prog_10_method_40_code
def y_Mo_clear : MethodName := ⟨R_Mo, "clear", "()V"⟩
abbrev b_La_law : ByteArray := code
end
section
/-! THE MACHINE, AS I WALK IT. A view h of the heap: address -> what lies there (a cell of the kit's worlds), for the cells that the law has made since its start. K mc ms h pc lv st: 'from here the method comes to its end', with mc cells and ms slots still to spend. -/
abbrev xH : Type := Nat → Option va_E
/-- launch; numbers of classes and of slots; classes of arrays (0 int, 1 long, 2 Operand, 3 Condition); the heap's size at the law's start -/
abbrev xV : Type := Launch × va_G × (Nat → ClassId) × Nat
abbrev xA (V : xV) : Nat → Prop := fun q => V.2.2.2 ≤ q
abbrev xTy (V : xV) : List (ClassId × FieldType) := [(V.2.2.1 0, .int), (V.2.2.1 1, .long), (V.2.2.1 2, .object "CursorBase$Operand"), (V.2.2.1 3, .object "CursorBase$Condition")]
abbrev xI (V : xV) (n : Nat) (f : Nat → Int32) : va_E := .inl (V.2.2.1 0, n, .inl f)
abbrev xJ (V : xV) (n : Nat) (f : Nat → Int64) : va_E := .inl (V.2.2.1 1, n, .inr (.inl f))
abbrev xR (V : xV) (t n : Nat) (f : Nat → Option Nat) : va_E := .inl (V.2.2.1 t, n, .inr (.inr (.inr (.inr f))))
def xRep (V : xV) (h : xH) (H : Heap) : Prop := ∃ (L : List Nat) (f : Nat → va_E), (∀ q e, h q = some e → q ∈ L ∧ f q = e) ∧ va_P V.2.1 vwCl (va_pl L f) H ∧ va_D (xA V) (va_pl L f)
def xT : List Cond := lw_tbl.filter goodWord
def xnw : Cond → Bool
  | .methodLinkNest _ _ _ _ => true
  | .fieldLinkNest _ _ _ _ _ _ => true
  | _ => false
def xNN : List Cond := lw_tbl.filter xnw
def xE (V : xV) (U : State) : Prop := va_K V.2.1 vwCl (xTy V) U ∧ (∀ w ∈ xNN, va_Nw w U) ∧ va_AO "CursorBase$Operand" U ∧ va_AO "CursorBase$Condition" U
theorem xT_good : ∀ w ∈ xT, goodWord w = true := fun _ h => (List.mem_filter.mp h).2
theorem xE.moved {V : xV} {s U : State} (hW : s.WarmedH U.vm) (h : xE V s) : xE V U := by
  refine ⟨va_K.moved hW.alike h.1, fun w hw => ?_, va_AO.moved hW.alike h.2.2.1, va_AO.moved hW.alike h.2.2.2⟩
  have h1 := h.2.1 w hw
  have h2 := (List.mem_filter.mp hw).2
  cases w <;> first | exact va_Nw.warmM hW h1 | exact va_Nw.warmF hW h1 | (simp [xnw] at h2)
theorem xRep.pos {V : xV} {h : xH} {H : Heap} {a : Nat} {e : va_E} (hr : xRep V h H) (ha : h a = some e) : ∃ (L : List Nat) (f : Nat → va_E) (k : Nat), (∀ q e, h q = some e → q ∈ L ∧ f q = e) ∧ va_P V.2.1 vwCl (va_pl L f) H ∧ va_D (xA V) (va_pl L f) ∧ a ∈ L ∧ f a = e ∧ (va_pl L f)[k]? = some (a, e) := by
  obtain ⟨L, f, h1, h2, h3⟩ := hr
  obtain ⟨h4, h5⟩ := h1 a e ha
  obtain ⟨k, hk⟩ := va_pl_get (X := []) (f := f) h4
  exact ⟨L, f, k, h1, h2, h3, h4, h5, by rw [← h5]; exact hk⟩
theorem xRep.set {V : xV} {h : xH} {H1 : Heap} {L : List Nat} {f : Nat → va_E} {a k : Nat} {e e' : va_E} (hL : ∀ q e, h q = some e → q ∈ L ∧ f q = e) (haL : a ∈ L) (hf : f a = e) (hk : (va_pl L f)[k]? = some (a, e)) (hD0 : va_D (xA V) (va_pl L f))
    (hP : va_P V.2.1 vwCl ((va_pl L f).set k (a, e')) H1) (hD : va_D (xA V) ((va_pl L f).set k (a, e'))) : xRep V (va_up h a (some e')) H1 := by
  have hs : (va_pl L f).set k (a, e') = va_pl L (va_up f a e') := va_pl_set (X := []) hD0 haL (by rw [hf]; exact hk)
  rw [hs] at hP hD
  refine ⟨L, va_up f a e', fun q e9 hq => ?_, hP, hD⟩
  by_cases hqa : q = a
  · subst hqa
    rw [va_up_self] at hq ⊢
    exact ⟨haL, Option.some.inj hq⟩
  · rw [va_up_ne _ _ hqa] at hq ⊢
    exact hL q e9 hq
theorem xRep.push {V : xV} {h : xH} {H1 : Heap} {L : List Nat} {f : Nat → va_E} {q : Nat} {e : va_E} (hL : ∀ q e, h q = some e → q ∈ L ∧ f q = e)
    (hP : va_P V.2.1 vwCl (va_pl L f ++ [(q, e)]) H1) (hD : va_D (xA V) (va_pl L f ++ [(q, e)])) : h q = none ∧ xRep V (va_up h q (some e)) H1 := by
  have hf : q ∉ L := va_pl_fresh2 (X := []) hD
  rw [va_pl_push hf] at hP hD
  refine ⟨?_, L ++ [q], va_up f q e, fun r e9 hr => ?_, hP, hD⟩
  · cases hh : h q with
    | none => rfl
    | some e9 => exact absurd (hL q e9 hh).1 hf
  · by_cases hqa : r = q
    · subst hqa
      rw [va_up_self] at hr ⊢
      exact ⟨by simp, Option.some.inj hr⟩
    · rw [va_up_ne _ _ hqa] at hr ⊢
      have := hL r e9 hr
      exact ⟨by simp [this.1], this.2⟩
theorem xRep.less {V : xV} {h h' : xH} {H : Heap} (hr : xRep V h H) (hh : ∀ q e, h' q = some e → h q = some e) : xRep V h' H := by
  obtain ⟨L, f, h1, h2, h3⟩ := hr
  exact ⟨L, f, fun q e hq => h1 q e (hh q e hq), h2, h3⟩
/-- a local's value -/
def xg : List (Nat × Value) → Nat → Option Value
  | [], _ => none
  | (j, v) :: t, i => bif Nat.beq j i then some v else xg t i
theorem xg_at {ls : Array Slot} {nL i : Nat} {v : Value} : ∀ {lv : List (Nat × Value)}, lv_has ls nL lv → xg lv i = some v → ls[i]? = some (.val v) := by
  intro lv hl hg
  have hm : ∀ lv : List (Nat × Value), xg lv i = some v → (i, v) ∈ lv := by
    intro lv
    induction lv with
    | nil => intro h; cases h
    | cons q t ih =>
      obtain ⟨j, u⟩ := q
      intro h
      cases hb : Nat.beq j i with
      | true =>
        simp only [xg, hb, cond_true] at h
        rw [Nat.eq_of_beq_eq_true hb, Option.some.inj h]
        exact List.mem_cons_self
      | false =>
        simp only [xg, hb, cond_false] at h
        exact List.mem_cons_of_mem _ (ih h)
  exact hl.2.2 (i, v) (hm lv hg)
abbrev xK : Type := Nat → Nat → xH → Nat → List (Nat × Value) → List Value → Prop
def xX (V : xV) (p : Program) (e : Env) (R : Room) (s : State) (m : MethodId) (args : Array Value) (below : List Frame) (meth : Method) (c : Code) (nL : Nat) (Q : State → Prop) : xK := fun mc ms h pc lv st =>
  ∀ (H : Heap) (locs : List Loc) (cells slots : Nat) (ls : Array Slot), xRep V h H → va_S (xA V) s.heap H locs → cells + mc ≤ R.cells → slots + ms ≤ R.slots → lv_has ls nL lv → W p V.1 e R s m args below meth c H locs cells slots Q (F0 m pc ls st)
def xFix (V : xV) (p : Program) (R : Room) (s : State) (m : MethodId) (args : Array Value) (c : Code) (cc : ByteArray) (own : String) (nL d : Nat) : Prop :=
  p.tables.exec = Jvm.exec ∧ c.code = cc ∧ c.maxLocals = nL ∧ s.vm.findClass own = some m.cls ∧ (∀ w ∈ xT, w.before args s = true) ∧ xE V s ∧ V.2.2.2 ≤ s.heap.size ∧ d ≤ R.frames ∧ 30 * d ≤ R.locals
/-- which value a return instruction at pc answers -/
def xRetI (cc : ByteArray) (ret : Option FieldType) (pc : Nat) (st : List Value) (v : Option Value) : Prop :=
  (decode cc pc = .ok (.return_, 1) ∧ ret = none ∧ st = [] ∧ v = none) ∨
  (decode cc pc = .ok (.ireturn, 1) ∧ ∃ (ty : FieldType) (x : Int32), ret = some ty ∧ narrow ty (.int x) = .int x ∧ st = [.int x] ∧ v = some (.int x)) ∨
  (decode cc pc = .ok (.lreturn, 1) ∧ ∃ x : Int64, ret = some .long ∧ st = [.long x] ∧ v = some (.long x)) ∨
  (decode cc pc = .ok (.areturn, 1) ∧ ∃ (n : String) (u : Value), ret = some (.object n) ∧ (u = .null ∨ ∃ a, u = .ref a) ∧ st = [u] ∧ v = some u)
abbrev xS : Type := Option (Nat × Nat × (Nat → Int32))
def xCtx (V : xV) (K : xK) (cc : ByteArray) (own : String) (nL d : Nat) (ini : Bool) (ret : Option FieldType) (sc : xS) (post : Option Value → xH → Prop) : Prop :=
  (∃ (p : Program) (e : Env) (R : Room) (s : State) (m : MethodId) (args : Array Value) (below : List Frame) (meth : Method) (c : Code) (Q : State → Prop), xFix V p R s m args c cc own nL d ∧ (ini = true → meth.name = "<init>") ∧
    (∀ (b L : Nat) (xs : Nat → Int32), sc = some (b, L, xs) → va_X b L xs s s.heap ∧ b < V.2.2.2) ∧ K = xX V p e R s m args below meth c nL Q) ∧
  ∀ (mc ms : Nat) (h : xH) (pc : Nat) (lv : List (Nat × Value)) (st : List Value) (v : Option Value), xRetI cc ret pc st v → post v h → K mc ms h pc lv st
section XR
variable {V : xV} {K : xK} {cc : ByteArray} {own : String} {nL d : Nat} {ini : Bool} {ret : Option FieldType} {sc : xS} {post : Option Value → xH → Prop} {mc ms pc : Nat} {h : xH} {lv : List (Nat × Value)} {st rest : List Value}
theorem x_ret {v : Option Value} (C : xCtx V K cc own nL d ini ret sc post) (hr : xRetI cc ret pc st v) (hp : post v h) : K mc ms h pc lv st := C.2 mc ms h pc lv st v hr hp
theorem x_vret (C : xCtx V K cc own nL d ini none sc post) (hd : decode cc pc = .ok (.return_, 1)) (hp : post none h) : K mc ms h pc lv [] := x_ret C (Or.inl ⟨hd, rfl, rfl, rfl⟩) hp
theorem x_iret {x : Int32} (C : xCtx V K cc own nL d ini (some .int) sc post) (hd : decode cc pc = .ok (.ireturn, 1)) (hp : post (some (.int x)) h) : K mc ms h pc lv [.int x] := x_ret C (Or.inr (Or.inl ⟨hd, .int, x, rfl, rfl, rfl, rfl⟩)) hp
theorem x_zret {x : Int32} (C : xCtx V K cc own nL d ini (some .boolean) sc post) (hd : decode cc pc = .ok (.ireturn, 1)) (hx : narrow .boolean (.int x) = .int x) (hp : post (some (.int x)) h) : K mc ms h pc lv [.int x] := x_ret C (Or.inr (Or.inl ⟨hd, .boolean, x, rfl, hx, rfl, rfl⟩)) hp
theorem x_lret {x : Int64} (C : xCtx V K cc own nL d ini (some .long) sc post) (hd : decode cc pc = .ok (.lreturn, 1)) (hp : post (some (.long x)) h) : K mc ms h pc lv [.long x] := x_ret C (Or.inr (Or.inr (Or.inl ⟨hd, x, rfl, rfl, rfl⟩))) hp
theorem x_aret {n : String} {a : Nat} (C : xCtx V K cc own nL d ini (some (.object n)) sc post) (hd : decode cc pc = .ok (.areturn, 1)) (hp : post (some (.ref a)) h) : K mc ms h pc lv [.ref a] := x_ret C (Or.inr (Or.inr (Or.inr ⟨hd, n, .ref a, rfl, Or.inr ⟨a, rfl⟩, rfl, rfl⟩))) hp
theorem x_aretN {n : String} (C : xCtx V K cc own nL d ini (some (.object n)) sc post) (hd : decode cc pc = .ok (.areturn, 1)) (hp : post (some .null) h) : K mc ms h pc lv [.null] := x_ret C (Or.inr (Or.inr (Or.inr ⟨hd, n, .null, rfl, Or.inl rfl, rfl, rfl⟩))) hp
theorem x_iconst {n : Int} {v : Int32} (C : xCtx V K cc own nL d ini ret sc post) (hd : decode cc pc = .ok (.iconst n, 1)) (hv : Int32.ofInt n = v) (k : K mc ms h (pc + 1) lv (.int v :: st)) : K mc ms h pc lv st := by
  obtain ⟨⟨p, e, R, s, m, args, below, meth, c, Q, ⟨hx, hb, hml, hown, hts, hE, hz, hdF, hdL⟩, hin, hsc, rfl⟩, -⟩ := C
  intro H locs cells slots ls hR hS hmc hms hl
  exact lv_iconst hx hb hd hv (k H locs cells slots ls hR hS hmc hms hl)
theorem x_bipush {n : Int} {v : Int32} (C : xCtx V K cc own nL d ini ret sc post) (hd : decode cc pc = .ok (.bipush n, 2)) (hv : (Int8.ofInt n).toInt32 = v) (k : K mc ms h (pc + 2) lv (.int v :: st)) : K mc ms h pc lv st := by
  obtain ⟨⟨p, e, R, s, m, args, below, meth, c, Q, ⟨hx, hb, hml, hown, hts, hE, hz, hdF, hdL⟩, hin, hsc, rfl⟩, -⟩ := C
  intro H locs cells slots ls hR hS hmc hms hl
  exact lv_bipush hx hb hd hv (k H locs cells slots ls hR hS hmc hms hl)
theorem x_sipush {n : Int} {v : Int32} (C : xCtx V K cc own nL d ini ret sc post) (hd : decode cc pc = .ok (.sipush n, 3)) (hv : (Int16.ofInt n).toInt32 = v) (k : K mc ms h (pc + 3) lv (.int v :: st)) : K mc ms h pc lv st := by
  obtain ⟨⟨p, e, R, s, m, args, below, meth, c, Q, ⟨hx, hb, hml, hown, hts, hE, hz, hdF, hdL⟩, hin, hsc, rfl⟩, -⟩ := C
  intro H locs cells slots ls hR hS hmc hms hl
  exact lv_sipush hx hb hd hv (k H locs cells slots ls hR hS hmc hms hl)
theorem x_ldc {n : Nat} {v : Int32} (C : xCtx V K cc own nL d ini ret sc post) (hw : Cond.constant own n v ∈ xT) (hd : decode cc pc = .ok (.ldc n, 2)) (k : K mc ms h (pc + 2) lv (.int v :: st)) : K mc ms h pc lv st := by
  obtain ⟨⟨p, e, R, s, m, args, below, meth, c, Q, ⟨hx, hb, hml, hown, hts, hE, hz, hdF, hdL⟩, hin, hsc, rfl⟩, -⟩ := C
  intro H locs cells slots ls hR hS hmc hms hl
  exact lv_ldc hx hb hown (hts _ hw) hd (k H locs cells slots ls hR hS hmc hms hl)
theorem x_lconst {n : Fin 2} {v : Int64} (C : xCtx V K cc own nL d ini ret sc post) (hd : decode cc pc = .ok (.lconst n, 1)) (hv : Int64.ofNat (n : Nat) = v) (k : K mc ms h (pc + 1) lv (.long v :: st)) : K mc ms h pc lv st := by
  obtain ⟨⟨p, e, R, s, m, args, below, meth, c, Q, ⟨hx, hb, hml, hown, hts, hE, hz, hdF, hdL⟩, hin, hsc, rfl⟩, -⟩ := C
  intro H locs cells slots ls hR hS hmc hms hl
  exact lv_lconst hx hb hd hv (k H locs cells slots ls hR hS hmc hms hl)
theorem x_ldc2 {n : Nat} {v : Int64} (C : xCtx V K cc own nL d ini ret sc post) (hw : Cond.constantLong own n v ∈ xT) (hd : decode cc pc = .ok (.ldc2_w n, 3)) (k : K mc ms h (pc + 3) lv (.long v :: st)) : K mc ms h pc lv st := by
  obtain ⟨⟨p, e, R, s, m, args, below, meth, c, Q, ⟨hx, hb, hml, hown, hts, hE, hz, hdF, hdL⟩, hin, hsc, rfl⟩, -⟩ := C
  intro H locs cells slots ls hR hS hmc hms hl
  exact lv_ldc2 hx hb hown (hts _ hw) hd (k H locs cells slots ls hR hS hmc hms hl)
theorem x_null  (C : xCtx V K cc own nL d ini ret sc post) (hd : decode cc pc = .ok (.aconst_null, 1)) (k : K mc ms h (pc + 1) lv (.null :: st)) : K mc ms h pc lv st := by
  obtain ⟨⟨p, e, R, s, m, args, below, meth, c, Q, ⟨hx, hb, hml, hown, hts, hE, hz, hdF, hdL⟩, hin, hsc, rfl⟩, -⟩ := C
  intro H locs cells slots ls hR hS hmc hms hl
  exact lv_null hx hb hd (k H locs cells slots ls hR hS hmc hms hl)
theorem x_iload_n {k0 : Fin 4} {i : Nat} {x : Int32} (C : xCtx V K cc own nL d ini ret sc post) (hd : decode cc pc = .ok (.iload_n k0, 1)) (hi : (k0 : Nat) = i) (hg : xg lv i = some (.int x)) (k : K mc ms h (pc + 1) lv (.int x :: st)) : K mc ms h pc lv st := by
  obtain ⟨⟨p, e, R, s, m, args, below, meth, c, Q, ⟨hx, hb, hml, hown, hts, hE, hz, hdF, hdL⟩, hin, hsc, rfl⟩, -⟩ := C
  intro H locs cells slots ls hR hS hmc hms hl
  exact lv_iload_n hx hb hd hi (xg_at hl hg) (k H locs cells slots ls hR hS hmc hms hl)
theorem x_iload {i : Nat} {x : Int32} (C : xCtx V K cc own nL d ini ret sc post) (hd : decode cc pc = .ok (.iload i, 2)) (hg : xg lv i = some (.int x)) (k : K mc ms h (pc + 2) lv (.int x :: st)) : K mc ms h pc lv st := by
  obtain ⟨⟨p, e, R, s, m, args, below, meth, c, Q, ⟨hx, hb, hml, hown, hts, hE, hz, hdF, hdL⟩, hin, hsc, rfl⟩, -⟩ := C
  intro H locs cells slots ls hR hS hmc hms hl
  exact lv_iload hx hb hd (xg_at hl hg) (k H locs cells slots ls hR hS hmc hms hl)
theorem x_lload_n {k0 : Fin 4} {i : Nat} {x : Int64} (C : xCtx V K cc own nL d ini ret sc post) (hd : decode cc pc = .ok (.lload_n k0, 1)) (hi : (k0 : Nat) = i) (hg : xg lv i = some (.long x)) (k : K mc ms h (pc + 1) lv (.long x :: st)) : K mc ms h pc lv st := by
  obtain ⟨⟨p, e, R, s, m, args, below, meth, c, Q, ⟨hx, hb, hml, hown, hts, hE, hz, hdF, hdL⟩, hin, hsc, rfl⟩, -⟩ := C
  intro H locs cells slots ls hR hS hmc hms hl
  exact lv_lload_n hx hb hd hi (xg_at hl hg) (k H locs cells slots ls hR hS hmc hms hl)
theorem x_lload {i : Nat} {x : Int64} (C : xCtx V K cc own nL d ini ret sc post) (hd : decode cc pc = .ok (.lload i, 2)) (hg : xg lv i = some (.long x)) (k : K mc ms h (pc + 2) lv (.long x :: st)) : K mc ms h pc lv st := by
  obtain ⟨⟨p, e, R, s, m, args, below, meth, c, Q, ⟨hx, hb, hml, hown, hts, hE, hz, hdF, hdL⟩, hin, hsc, rfl⟩, -⟩ := C
  intro H locs cells slots ls hR hS hmc hms hl
  exact lv_lload hx hb hd (xg_at hl hg) (k H locs cells slots ls hR hS hmc hms hl)
theorem x_aload_n {k0 : Fin 4} {i : Nat} {x : Nat} (C : xCtx V K cc own nL d ini ret sc post) (hd : decode cc pc = .ok (.aload_n k0, 1)) (hi : (k0 : Nat) = i) (hg : xg lv i = some (.ref x)) (k : K mc ms h (pc + 1) lv (.ref x :: st)) : K mc ms h pc lv st := by
  obtain ⟨⟨p, e, R, s, m, args, below, meth, c, Q, ⟨hx, hb, hml, hown, hts, hE, hz, hdF, hdL⟩, hin, hsc, rfl⟩, -⟩ := C
  intro H locs cells slots ls hR hS hmc hms hl
  exact lv_aload_n hx hb hd hi (xg_at hl hg) (k H locs cells slots ls hR hS hmc hms hl)
theorem x_aload {i : Nat} {x : Nat} (C : xCtx V K cc own nL d ini ret sc post) (hd : decode cc pc = .ok (.aload i, 2)) (hg : xg lv i = some (.ref x)) (k : K mc ms h (pc + 2) lv (.ref x :: st)) : K mc ms h pc lv st := by
  obtain ⟨⟨p, e, R, s, m, args, below, meth, c, Q, ⟨hx, hb, hml, hown, hts, hE, hz, hdF, hdL⟩, hin, hsc, rfl⟩, -⟩ := C
  intro H locs cells slots ls hR hS hmc hms hl
  exact lv_aload hx hb hd (xg_at hl hg) (k H locs cells slots ls hR hS hmc hms hl)
theorem x_aload_nN {k0 : Fin 4} {i : Nat} (C : xCtx V K cc own nL d ini ret sc post) (hd : decode cc pc = .ok (.aload_n k0, 1)) (hi : (k0 : Nat) = i) (hg : xg lv i = some .null) (k : K mc ms h (pc + 1) lv (.null :: st)) : K mc ms h pc lv st := by
  obtain ⟨⟨p, e, R, s, m, args, below, meth, c, Q, ⟨hx, hb, hml, hown, hts, hE, hz, hdF, hdL⟩, hin, hsc, rfl⟩, -⟩ := C
  intro H locs cells slots ls hR hS hmc hms hl
  exact lv_aload_nN hx hb hd hi (xg_at hl hg) (k H locs cells slots ls hR hS hmc hms hl)
theorem x_aloadN {i : Nat} (C : xCtx V K cc own nL d ini ret sc post) (hd : decode cc pc = .ok (.aload i, 2)) (hg : xg lv i = some .null) (k : K mc ms h (pc + 2) lv (.null :: st)) : K mc ms h pc lv st := by
  obtain ⟨⟨p, e, R, s, m, args, below, meth, c, Q, ⟨hx, hb, hml, hown, hts, hE, hz, hdF, hdL⟩, hin, hsc, rfl⟩, -⟩ := C
  intro H locs cells slots ls hR hS hmc hms hl
  exact lv_aloadN hx hb hd (xg_at hl hg) (k H locs cells slots ls hR hS hmc hms hl)
theorem x_istore_n {k0 : Fin 4} {i : Nat} {x : Int32} {lv' : List (Nat × Value)} (C : xCtx V K cc own nL d ini ret sc post) (hd : decode cc pc = .ok (.istore_n k0, 1)) (hi : (k0 : Nat) = i) (hn : i < nL) (hlv : (i, Value.int x) :: lv.filter (fun q => !(q.1 == i) && !(q.1 + 1 == i && q.2.category == 2)) = lv') (k : K mc ms h (pc + 1) lv' rest) : K mc ms h pc lv (Value.int x :: rest) := by
  obtain ⟨⟨p, e, R, s, m, args, below, meth, c, Q, ⟨hx, hb, hml, hown, hts, hE, hz, hdF, hdL⟩, hin, hsc, rfl⟩, -⟩ := C
  intro H locs cells slots ls hR hS hmc hms hl
  exact lv_istore_n hx hb hd hi hl hn hlv (fun ls' hl' => k H locs cells slots ls' hR hS hmc hms hl')
theorem x_istore {i : Nat} {x : Int32} {lv' : List (Nat × Value)} (C : xCtx V K cc own nL d ini ret sc post) (hd : decode cc pc = .ok (.istore i, 2)) (hn : i < nL) (hlv : (i, Value.int x) :: lv.filter (fun q => !(q.1 == i) && !(q.1 + 1 == i && q.2.category == 2)) = lv') (k : K mc ms h (pc + 2) lv' rest) : K mc ms h pc lv (Value.int x :: rest) := by
  obtain ⟨⟨p, e, R, s, m, args, below, meth, c, Q, ⟨hx, hb, hml, hown, hts, hE, hz, hdF, hdL⟩, hin, hsc, rfl⟩, -⟩ := C
  intro H locs cells slots ls hR hS hmc hms hl
  exact lv_istore hx hb hd hl hn hlv (fun ls' hl' => k H locs cells slots ls' hR hS hmc hms hl')
theorem x_astore_n {k0 : Fin 4} {i : Nat} {x : Nat} {lv' : List (Nat × Value)} (C : xCtx V K cc own nL d ini ret sc post) (hd : decode cc pc = .ok (.astore_n k0, 1)) (hi : (k0 : Nat) = i) (hn : i < nL) (hlv : (i, Value.ref x) :: lv.filter (fun q => !(q.1 == i) && !(q.1 + 1 == i && q.2.category == 2)) = lv') (k : K mc ms h (pc + 1) lv' rest) : K mc ms h pc lv (Value.ref x :: rest) := by
  obtain ⟨⟨p, e, R, s, m, args, below, meth, c, Q, ⟨hx, hb, hml, hown, hts, hE, hz, hdF, hdL⟩, hin, hsc, rfl⟩, -⟩ := C
  intro H locs cells slots ls hR hS hmc hms hl
  exact lv_astore_n hx hb hd hi hl hn hlv (fun ls' hl' => k H locs cells slots ls' hR hS hmc hms hl')
theorem x_astore {i : Nat} {x : Nat} {lv' : List (Nat × Value)} (C : xCtx V K cc own nL d ini ret sc post) (hd : decode cc pc = .ok (.astore i, 2)) (hn : i < nL) (hlv : (i, Value.ref x) :: lv.filter (fun q => !(q.1 == i) && !(q.1 + 1 == i && q.2.category == 2)) = lv') (k : K mc ms h (pc + 2) lv' rest) : K mc ms h pc lv (Value.ref x :: rest) := by
  obtain ⟨⟨p, e, R, s, m, args, below, meth, c, Q, ⟨hx, hb, hml, hown, hts, hE, hz, hdF, hdL⟩, hin, hsc, rfl⟩, -⟩ := C
  intro H locs cells slots ls hR hS hmc hms hl
  exact lv_astore hx hb hd hl hn hlv (fun ls' hl' => k H locs cells slots ls' hR hS hmc hms hl')
theorem x_astore_nN {k0 : Fin 4} {i : Nat} {lv' : List (Nat × Value)} (C : xCtx V K cc own nL d ini ret sc post) (hd : decode cc pc = .ok (.astore_n k0, 1)) (hi : (k0 : Nat) = i) (hn : i < nL) (hlv : (i, Value.null) :: lv.filter (fun q => !(q.1 == i) && !(q.1 + 1 == i && q.2.category == 2)) = lv') (k : K mc ms h (pc + 1) lv' rest) : K mc ms h pc lv (Value.null :: rest) := by
  obtain ⟨⟨p, e, R, s, m, args, below, meth, c, Q, ⟨hx, hb, hml, hown, hts, hE, hz, hdF, hdL⟩, hin, hsc, rfl⟩, -⟩ := C
  intro H locs cells slots ls hR hS hmc hms hl
  exact lv_astore_nN hx hb hd hi hl hn hlv (fun ls' hl' => k H locs cells slots ls' hR hS hmc hms hl')
theorem x_astoreN {i : Nat} {lv' : List (Nat × Value)} (C : xCtx V K cc own nL d ini ret sc post) (hd : decode cc pc = .ok (.astore i, 2)) (hn : i < nL) (hlv : (i, Value.null) :: lv.filter (fun q => !(q.1 == i) && !(q.1 + 1 == i && q.2.category == 2)) = lv') (k : K mc ms h (pc + 2) lv' rest) : K mc ms h pc lv (Value.null :: rest) := by
  obtain ⟨⟨p, e, R, s, m, args, below, meth, c, Q, ⟨hx, hb, hml, hown, hts, hE, hz, hdF, hdL⟩, hin, hsc, rfl⟩, -⟩ := C
  intro H locs cells slots ls hR hS hmc hms hl
  exact lv_astoreN hx hb hd hl hn hlv (fun ls' hl' => k H locs cells slots ls' hR hS hmc hms hl')
theorem x_lstore_n {k0 : Fin 4} {i : Nat} {x : Int64} {lv' : List (Nat × Value)} (C : xCtx V K cc own nL d ini ret sc post) (hd : decode cc pc = .ok (.lstore_n k0, 1)) (hi : (k0 : Nat) = i) (hn : i + 1 < nL) (hlv : (i, Value.long x) :: lv.filter (fun q => !(q.1 == i) && (!(q.1 == i + 1) && !(q.1 + 1 == i && q.2.category == 2))) = lv') (k : K mc ms h (pc + 1) lv' rest) : K mc ms h pc lv (Value.long x :: rest) := by
  obtain ⟨⟨p, e, R, s, m, args, below, meth, c, Q, ⟨hx, hb, hml, hown, hts, hE, hz, hdF, hdL⟩, hin, hsc, rfl⟩, -⟩ := C
  intro H locs cells slots ls hR hS hmc hms hl
  exact lv_lstore_n hx hb hd hi hl hn hlv (fun ls' hl' => k H locs cells slots ls' hR hS hmc hms hl')
theorem x_lstore {i : Nat} {x : Int64} {lv' : List (Nat × Value)} (C : xCtx V K cc own nL d ini ret sc post) (hd : decode cc pc = .ok (.lstore i, 2)) (hn : i + 1 < nL) (hlv : (i, Value.long x) :: lv.filter (fun q => !(q.1 == i) && (!(q.1 == i + 1) && !(q.1 + 1 == i && q.2.category == 2))) = lv') (k : K mc ms h (pc + 2) lv' rest) : K mc ms h pc lv (Value.long x :: rest) := by
  obtain ⟨⟨p, e, R, s, m, args, below, meth, c, Q, ⟨hx, hb, hml, hown, hts, hE, hz, hdF, hdL⟩, hin, hsc, rfl⟩, -⟩ := C
  intro H locs cells slots ls hR hS hmc hms hl
  exact lv_lstore hx hb hd hl hn hlv (fun ls' hl' => k H locs cells slots ls' hR hS hmc hms hl')
theorem x_iinc {i k0 : Nat} {n : Int} {x v : Int32} {lv' : List (Nat × Value)} (C : xCtx V K cc own nL d ini ret sc post) (hd : decode cc pc = .ok (.iinc i n, 3)) (hk : lv[k0]? = some (i, .int x)) (hv : x + Int32.ofInt n = v) (hn : i < nL) (hlv : (i, Value.int v) :: lv.filter (fun q => !(q.1 == i) && !(q.1 + 1 == i && q.2.category == 2)) = lv') (k : K mc ms h (pc + 3) lv' st) : K mc ms h pc lv st := by
  obtain ⟨⟨p, e, R, s, m, args, below, meth, c, Q, ⟨hx, hb, hml, hown, hts, hE, hz, hdF, hdL⟩, hin, hsc, rfl⟩, -⟩ := C
  intro H locs cells slots ls hR hS hmc hms hl
  exact lv_iinc hx hb hd hl hk hv hn hlv (fun ls' hl' => k H locs cells slots ls' hR hS hmc hms hl')
theorem x_iadd {x y : Int32} (C : xCtx V K cc own nL d ini ret sc post) (hd : decode cc pc = .ok (.iadd, 1)) (k : K mc ms h (pc + 1) lv (.int (x + y) :: rest)) : K mc ms h pc lv (.int y :: .int x :: rest) := by
  obtain ⟨⟨p, e, R, s, m, args, below, meth, c, Q, ⟨hx, hb, hml, hown, hts, hE, hz, hdF, hdL⟩, hin, hsc, rfl⟩, -⟩ := C
  intro H locs cells slots ls hR hS hmc hms hl
  exact lv_iadd hx hb hd (k H locs cells slots ls hR hS hmc hms hl)
theorem x_isub {x y : Int32} (C : xCtx V K cc own nL d ini ret sc post) (hd : decode cc pc = .ok (.isub, 1)) (k : K mc ms h (pc + 1) lv (.int (x - y) :: rest)) : K mc ms h pc lv (.int y :: .int x :: rest) := by
  obtain ⟨⟨p, e, R, s, m, args, below, meth, c, Q, ⟨hx, hb, hml, hown, hts, hE, hz, hdF, hdL⟩, hin, hsc, rfl⟩, -⟩ := C
  intro H locs cells slots ls hR hS hmc hms hl
  exact lv_isub hx hb hd (k H locs cells slots ls hR hS hmc hms hl)
theorem x_imul {x y : Int32} (C : xCtx V K cc own nL d ini ret sc post) (hd : decode cc pc = .ok (.imul, 1)) (k : K mc ms h (pc + 1) lv (.int (x * y) :: rest)) : K mc ms h pc lv (.int y :: .int x :: rest) := by
  obtain ⟨⟨p, e, R, s, m, args, below, meth, c, Q, ⟨hx, hb, hml, hown, hts, hE, hz, hdF, hdL⟩, hin, hsc, rfl⟩, -⟩ := C
  intro H locs cells slots ls hR hS hmc hms hl
  exact lv_imul hx hb hd (k H locs cells slots ls hR hS hmc hms hl)
theorem x_iand {x y : Int32} (C : xCtx V K cc own nL d ini ret sc post) (hd : decode cc pc = .ok (.iand, 1)) (k : K mc ms h (pc + 1) lv (.int (x &&& y) :: rest)) : K mc ms h pc lv (.int y :: .int x :: rest) := by
  obtain ⟨⟨p, e, R, s, m, args, below, meth, c, Q, ⟨hx, hb, hml, hown, hts, hE, hz, hdF, hdL⟩, hin, hsc, rfl⟩, -⟩ := C
  intro H locs cells slots ls hR hS hmc hms hl
  exact lv_iand hx hb hd (k H locs cells slots ls hR hS hmc hms hl)
theorem x_ladd {x y : Int64} (C : xCtx V K cc own nL d ini ret sc post) (hd : decode cc pc = .ok (.ladd, 1)) (k : K mc ms h (pc + 1) lv (.long (x + y) :: rest)) : K mc ms h pc lv (.long y :: .long x :: rest) := by
  obtain ⟨⟨p, e, R, s, m, args, below, meth, c, Q, ⟨hx, hb, hml, hown, hts, hE, hz, hdF, hdL⟩, hin, hsc, rfl⟩, -⟩ := C
  intro H locs cells slots ls hR hS hmc hms hl
  exact lv_ladd hx hb hd (k H locs cells slots ls hR hS hmc hms hl)
theorem x_lsub {x y : Int64} (C : xCtx V K cc own nL d ini ret sc post) (hd : decode cc pc = .ok (.lsub, 1)) (k : K mc ms h (pc + 1) lv (.long (x - y) :: rest)) : K mc ms h pc lv (.long y :: .long x :: rest) := by
  obtain ⟨⟨p, e, R, s, m, args, below, meth, c, Q, ⟨hx, hb, hml, hown, hts, hE, hz, hdF, hdL⟩, hin, hsc, rfl⟩, -⟩ := C
  intro H locs cells slots ls hR hS hmc hms hl
  exact lv_lsub hx hb hd (k H locs cells slots ls hR hS hmc hms hl)
theorem x_i2l {x : Int32} (C : xCtx V K cc own nL d ini ret sc post) (hd : decode cc pc = .ok (.i2l, 1)) (k : K mc ms h (pc + 1) lv (.long x.toInt64 :: rest)) : K mc ms h pc lv (.int x :: rest) := by
  obtain ⟨⟨p, e, R, s, m, args, below, meth, c, Q, ⟨hx, hb, hml, hown, hts, hE, hz, hdF, hdL⟩, hin, hsc, rfl⟩, -⟩ := C
  intro H locs cells slots ls hR hS hmc hms hl
  exact lv_i2l hx hb hd rfl (k H locs cells slots ls hR hS hmc hms hl)
theorem x_lcmp {x y : Int64} (C : xCtx V K cc own nL d ini ret sc post) (hd : decode cc pc = .ok (.lcmp, 1)) (k : K mc ms h (pc + 1) lv (.int (lg_cmp x y) :: rest)) : K mc ms h pc lv (.long y :: .long x :: rest) := by
  obtain ⟨⟨p, e, R, s, m, args, below, meth, c, Q, ⟨hx, hb, hml, hown, hts, hE, hz, hdF, hdL⟩, hin, hsc, rfl⟩, -⟩ := C
  intro H locs cells slots ls hR hS hmc hms hl
  exact W.lcmp hx hb hd (k H locs cells slots ls hR hS hmc hms hl)
theorem x_dup {a : Value} (C : xCtx V K cc own nL d ini ret sc post) (hd : decode cc pc = .ok (.dup, 1)) (ha : a.category = 1) (k : K mc ms h (pc + 1) lv (a :: a :: rest)) : K mc ms h pc lv (a :: rest) := by
  obtain ⟨⟨p, e, R, s, m, args, below, meth, c, Q, ⟨hx, hb, hml, hown, hts, hE, hz, hdF, hdL⟩, hin, hsc, rfl⟩, -⟩ := C
  intro H locs cells slots ls hR hS hmc hms hl
  exact lv_dup hx hb hd ha (k H locs cells slots ls hR hS hmc hms hl)
theorem x_dup_x1 {a b : Value} (C : xCtx V K cc own nL d ini ret sc post) (hd : decode cc pc = .ok (.dup_x1, 1)) (ha : a.category = 1) (hb9 : b.category = 1) (k : K mc ms h (pc + 1) lv (a :: b :: a :: rest)) : K mc ms h pc lv (a :: b :: rest) := by
  obtain ⟨⟨p, e, R, s, m, args, below, meth, c, Q, ⟨hx, hb, hml, hown, hts, hE, hz, hdF, hdL⟩, hin, hsc, rfl⟩, -⟩ := C
  intro H locs cells slots ls hR hS hmc hms hl
  exact lv_dup_x1 hx hb hd ha hb9 (k H locs cells slots ls hR hS hmc hms hl)
theorem x_dup2 {a b : Value} (C : xCtx V K cc own nL d ini ret sc post) (hd : decode cc pc = .ok (.dup2, 1)) (ha : a.category = 1) (hb9 : b.category = 1) (k : K mc ms h (pc + 1) lv (a :: b :: a :: b :: rest)) : K mc ms h pc lv (a :: b :: rest) := by
  obtain ⟨⟨p, e, R, s, m, args, below, meth, c, Q, ⟨hx, hb, hml, hown, hts, hE, hz, hdF, hdL⟩, hin, hsc, rfl⟩, -⟩ := C
  intro H locs cells slots ls hR hS hmc hms hl
  exact lv_dup2_11 hx hb hd ha hb9 (k H locs cells slots ls hR hS hmc hms hl)
theorem x_pop {a : Value} (C : xCtx V K cc own nL d ini ret sc post) (hd : decode cc pc = .ok (.pop, 1)) (ha : a.category = 1) (k : K mc ms h (pc + 1) lv rest) : K mc ms h pc lv (a :: rest) := by
  obtain ⟨⟨p, e, R, s, m, args, below, meth, c, Q, ⟨hx, hb, hml, hown, hts, hE, hz, hdF, hdL⟩, hin, hsc, rfl⟩, -⟩ := C
  intro H locs cells slots ls hR hS hmc hms hl
  exact lv_pop hx hb hd ha (k H locs cells slots ls hR hS hmc hms hl)
theorem x_if_eq {x : Int32} {off : Int} {tgt : Nat} (C : xCtx V K cc own nL d ini ret sc post) (hd : decode cc pc = .ok (.ifCond .eq off, 3)) (ht : (pc : Int) + off = (tgt : Int)) (kt : x = 0 → K mc ms h tgt lv rest) (kf : ¬ x = 0 → K mc ms h (pc + 3) lv rest) : K mc ms h pc lv (.int x :: rest) := by
  obtain ⟨⟨p, e, R, s, m, args, below, meth, c, Q, ⟨hx, hb, hml, hown, hts, hE, hz, hdF, hdL⟩, hin, hsc, rfl⟩, -⟩ := C
  intro H locs cells slots ls hR hS hmc hms hl
  exact lv_if_eq hx hb hd ht (fun q => kt q H locs cells slots ls hR hS hmc hms hl) (fun q => kf q H locs cells slots ls hR hS hmc hms hl)
theorem x_icmp_eq {x y : Int32} {off : Int} {tgt : Nat} (C : xCtx V K cc own nL d ini ret sc post) (hd : decode cc pc = .ok (.if_icmp .eq off, 3)) (ht : (pc : Int) + off = (tgt : Int)) (kt : x = y → K mc ms h tgt lv rest) (kf : ¬ x = y → K mc ms h (pc + 3) lv rest) : K mc ms h pc lv (.int y :: .int x :: rest) := by
  obtain ⟨⟨p, e, R, s, m, args, below, meth, c, Q, ⟨hx, hb, hml, hown, hts, hE, hz, hdF, hdL⟩, hin, hsc, rfl⟩, -⟩ := C
  intro H locs cells slots ls hR hS hmc hms hl
  exact lv_icmp_eq hx hb hd ht (fun q => kt q H locs cells slots ls hR hS hmc hms hl) (fun q => kf q H locs cells slots ls hR hS hmc hms hl)
theorem x_if_ne {x : Int32} {off : Int} {tgt : Nat} (C : xCtx V K cc own nL d ini ret sc post) (hd : decode cc pc = .ok (.ifCond .ne off, 3)) (ht : (pc : Int) + off = (tgt : Int)) (kt : ¬ x = 0 → K mc ms h tgt lv rest) (kf : x = 0 → K mc ms h (pc + 3) lv rest) : K mc ms h pc lv (.int x :: rest) := by
  obtain ⟨⟨p, e, R, s, m, args, below, meth, c, Q, ⟨hx, hb, hml, hown, hts, hE, hz, hdF, hdL⟩, hin, hsc, rfl⟩, -⟩ := C
  intro H locs cells slots ls hR hS hmc hms hl
  exact lv_if_ne hx hb hd ht (fun q => kt q H locs cells slots ls hR hS hmc hms hl) (fun q => kf q H locs cells slots ls hR hS hmc hms hl)
theorem x_icmp_ne {x y : Int32} {off : Int} {tgt : Nat} (C : xCtx V K cc own nL d ini ret sc post) (hd : decode cc pc = .ok (.if_icmp .ne off, 3)) (ht : (pc : Int) + off = (tgt : Int)) (kt : ¬ x = y → K mc ms h tgt lv rest) (kf : x = y → K mc ms h (pc + 3) lv rest) : K mc ms h pc lv (.int y :: .int x :: rest) := by
  obtain ⟨⟨p, e, R, s, m, args, below, meth, c, Q, ⟨hx, hb, hml, hown, hts, hE, hz, hdF, hdL⟩, hin, hsc, rfl⟩, -⟩ := C
  intro H locs cells slots ls hR hS hmc hms hl
  exact lv_icmp_ne hx hb hd ht (fun q => kt q H locs cells slots ls hR hS hmc hms hl) (fun q => kf q H locs cells slots ls hR hS hmc hms hl)
theorem x_if_lt {x : Int32} {off : Int} {tgt : Nat} (C : xCtx V K cc own nL d ini ret sc post) (hd : decode cc pc = .ok (.ifCond .lt off, 3)) (ht : (pc : Int) + off = (tgt : Int)) (kt : x < 0 → K mc ms h tgt lv rest) (kf : ¬ x < 0 → K mc ms h (pc + 3) lv rest) : K mc ms h pc lv (.int x :: rest) := by
  obtain ⟨⟨p, e, R, s, m, args, below, meth, c, Q, ⟨hx, hb, hml, hown, hts, hE, hz, hdF, hdL⟩, hin, hsc, rfl⟩, -⟩ := C
  intro H locs cells slots ls hR hS hmc hms hl
  exact lv_if_lt hx hb hd ht (fun q => kt q H locs cells slots ls hR hS hmc hms hl) (fun q => kf q H locs cells slots ls hR hS hmc hms hl)
theorem x_icmp_lt {x y : Int32} {off : Int} {tgt : Nat} (C : xCtx V K cc own nL d ini ret sc post) (hd : decode cc pc = .ok (.if_icmp .lt off, 3)) (ht : (pc : Int) + off = (tgt : Int)) (kt : x < y → K mc ms h tgt lv rest) (kf : ¬ x < y → K mc ms h (pc + 3) lv rest) : K mc ms h pc lv (.int y :: .int x :: rest) := by
  obtain ⟨⟨p, e, R, s, m, args, below, meth, c, Q, ⟨hx, hb, hml, hown, hts, hE, hz, hdF, hdL⟩, hin, hsc, rfl⟩, -⟩ := C
  intro H locs cells slots ls hR hS hmc hms hl
  exact lv_icmp_lt hx hb hd ht (fun q => kt q H locs cells slots ls hR hS hmc hms hl) (fun q => kf q H locs cells slots ls hR hS hmc hms hl)
theorem x_if_ge {x : Int32} {off : Int} {tgt : Nat} (C : xCtx V K cc own nL d ini ret sc post) (hd : decode cc pc = .ok (.ifCond .ge off, 3)) (ht : (pc : Int) + off = (tgt : Int)) (kt : 0 ≤ x → K mc ms h tgt lv rest) (kf : ¬ 0 ≤ x → K mc ms h (pc + 3) lv rest) : K mc ms h pc lv (.int x :: rest) := by
  obtain ⟨⟨p, e, R, s, m, args, below, meth, c, Q, ⟨hx, hb, hml, hown, hts, hE, hz, hdF, hdL⟩, hin, hsc, rfl⟩, -⟩ := C
  intro H locs cells slots ls hR hS hmc hms hl
  exact lv_if_ge hx hb hd ht (fun q => kt q H locs cells slots ls hR hS hmc hms hl) (fun q => kf q H locs cells slots ls hR hS hmc hms hl)
theorem x_icmp_ge {x y : Int32} {off : Int} {tgt : Nat} (C : xCtx V K cc own nL d ini ret sc post) (hd : decode cc pc = .ok (.if_icmp .ge off, 3)) (ht : (pc : Int) + off = (tgt : Int)) (kt : y ≤ x → K mc ms h tgt lv rest) (kf : ¬ y ≤ x → K mc ms h (pc + 3) lv rest) : K mc ms h pc lv (.int y :: .int x :: rest) := by
  obtain ⟨⟨p, e, R, s, m, args, below, meth, c, Q, ⟨hx, hb, hml, hown, hts, hE, hz, hdF, hdL⟩, hin, hsc, rfl⟩, -⟩ := C
  intro H locs cells slots ls hR hS hmc hms hl
  exact lv_icmp_ge hx hb hd ht (fun q => kt q H locs cells slots ls hR hS hmc hms hl) (fun q => kf q H locs cells slots ls hR hS hmc hms hl)
theorem x_if_gt {x : Int32} {off : Int} {tgt : Nat} (C : xCtx V K cc own nL d ini ret sc post) (hd : decode cc pc = .ok (.ifCond .gt off, 3)) (ht : (pc : Int) + off = (tgt : Int)) (kt : 0 < x → K mc ms h tgt lv rest) (kf : ¬ 0 < x → K mc ms h (pc + 3) lv rest) : K mc ms h pc lv (.int x :: rest) := by
  obtain ⟨⟨p, e, R, s, m, args, below, meth, c, Q, ⟨hx, hb, hml, hown, hts, hE, hz, hdF, hdL⟩, hin, hsc, rfl⟩, -⟩ := C
  intro H locs cells slots ls hR hS hmc hms hl
  exact lv_if_gt hx hb hd ht (fun q => kt q H locs cells slots ls hR hS hmc hms hl) (fun q => kf q H locs cells slots ls hR hS hmc hms hl)
theorem x_icmp_gt {x y : Int32} {off : Int} {tgt : Nat} (C : xCtx V K cc own nL d ini ret sc post) (hd : decode cc pc = .ok (.if_icmp .gt off, 3)) (ht : (pc : Int) + off = (tgt : Int)) (kt : y < x → K mc ms h tgt lv rest) (kf : ¬ y < x → K mc ms h (pc + 3) lv rest) : K mc ms h pc lv (.int y :: .int x :: rest) := by
  obtain ⟨⟨p, e, R, s, m, args, below, meth, c, Q, ⟨hx, hb, hml, hown, hts, hE, hz, hdF, hdL⟩, hin, hsc, rfl⟩, -⟩ := C
  intro H locs cells slots ls hR hS hmc hms hl
  exact lv_icmp_gt hx hb hd ht (fun q => kt q H locs cells slots ls hR hS hmc hms hl) (fun q => kf q H locs cells slots ls hR hS hmc hms hl)
theorem x_if_le {x : Int32} {off : Int} {tgt : Nat} (C : xCtx V K cc own nL d ini ret sc post) (hd : decode cc pc = .ok (.ifCond .le off, 3)) (ht : (pc : Int) + off = (tgt : Int)) (kt : x ≤ 0 → K mc ms h tgt lv rest) (kf : ¬ x ≤ 0 → K mc ms h (pc + 3) lv rest) : K mc ms h pc lv (.int x :: rest) := by
  obtain ⟨⟨p, e, R, s, m, args, below, meth, c, Q, ⟨hx, hb, hml, hown, hts, hE, hz, hdF, hdL⟩, hin, hsc, rfl⟩, -⟩ := C
  intro H locs cells slots ls hR hS hmc hms hl
  exact lv_if_le hx hb hd ht (fun q => kt q H locs cells slots ls hR hS hmc hms hl) (fun q => kf q H locs cells slots ls hR hS hmc hms hl)
theorem x_icmp_le {x y : Int32} {off : Int} {tgt : Nat} (C : xCtx V K cc own nL d ini ret sc post) (hd : decode cc pc = .ok (.if_icmp .le off, 3)) (ht : (pc : Int) + off = (tgt : Int)) (kt : x ≤ y → K mc ms h tgt lv rest) (kf : ¬ x ≤ y → K mc ms h (pc + 3) lv rest) : K mc ms h pc lv (.int y :: .int x :: rest) := by
  obtain ⟨⟨p, e, R, s, m, args, below, meth, c, Q, ⟨hx, hb, hml, hown, hts, hE, hz, hdF, hdL⟩, hin, hsc, rfl⟩, -⟩ := C
  intro H locs cells slots ls hR hS hmc hms hl
  exact lv_icmp_le hx hb hd ht (fun q => kt q H locs cells slots ls hR hS hmc hms hl) (fun q => kf q H locs cells slots ls hR hS hmc hms hl)
theorem x_goto {off : Int} {tgt : Nat} (C : xCtx V K cc own nL d ini ret sc post) (hd : decode cc pc = .ok (.goto off, 3)) (ht : (pc : Int) + off = (tgt : Int)) (k : K mc ms h tgt lv st) : K mc ms h pc lv st := by
  obtain ⟨⟨p, e, R, s, m, args, below, meth, c, Q, ⟨hx, hb, hml, hown, hts, hE, hz, hdF, hdL⟩, hin, hsc, rfl⟩, -⟩ := C
  intro H locs cells slots ls hR hS hmc hms hl
  exact lv_goto hx hb hd ht (k H locs cells slots ls hR hS hmc hms hl)
theorem x_ifnull {x : Nat} {off : Int} (C : xCtx V K cc own nL d ini ret sc post) (hd : decode cc pc = .ok (.ifnull off, 3)) (k : K mc ms h (pc + 3) lv rest) : K mc ms h pc lv (.ref x :: rest) := by
  obtain ⟨⟨p, e, R, s, m, args, below, meth, c, Q, ⟨hx, hb, hml, hown, hts, hE, hz, hdF, hdL⟩, hin, hsc, rfl⟩, -⟩ := C
  intro H locs cells slots ls hR hS hmc hms hl
  exact lv_ifnull hx hb hd (k H locs cells slots ls hR hS hmc hms hl)
theorem x_ifnullN {off : Int} {tgt : Nat} (C : xCtx V K cc own nL d ini ret sc post) (hd : decode cc pc = .ok (.ifnull off, 3)) (ht : (pc : Int) + off = (tgt : Int)) (k : K mc ms h tgt lv rest) : K mc ms h pc lv (.null :: rest) := by
  obtain ⟨⟨p, e, R, s, m, args, below, meth, c, Q, ⟨hx, hb, hml, hown, hts, hE, hz, hdF, hdL⟩, hin, hsc, rfl⟩, -⟩ := C
  intro H locs cells slots ls hR hS hmc hms hl
  exact lv_ifnullN hx hb hd ht (k H locs cells slots ls hR hS hmc hms hl)
theorem x_ifnonnull {x : Nat} {off : Int} {tgt : Nat} (C : xCtx V K cc own nL d ini ret sc post) (hd : decode cc pc = .ok (.ifnonnull off, 3)) (ht : (pc : Int) + off = (tgt : Int)) (k : K mc ms h tgt lv rest) : K mc ms h pc lv (.ref x :: rest) := by
  obtain ⟨⟨p, e, R, s, m, args, below, meth, c, Q, ⟨hx, hb, hml, hown, hts, hE, hz, hdF, hdL⟩, hin, hsc, rfl⟩, -⟩ := C
  intro H locs cells slots ls hR hS hmc hms hl
  exact lv_ifnonnull hx hb hd ht (k H locs cells slots ls hR hS hmc hms hl)
theorem x_ifnonnullN {off : Int} (C : xCtx V K cc own nL d ini ret sc post) (hd : decode cc pc = .ok (.ifnonnull off, 3)) (k : K mc ms h (pc + 3) lv rest) : K mc ms h pc lv (.null :: rest) := by
  obtain ⟨⟨p, e, R, s, m, args, below, meth, c, Q, ⟨hx, hb, hml, hown, hts, hE, hz, hdF, hdL⟩, hin, hsc, rfl⟩, -⟩ := C
  intro H locs cells slots ls hR hS hmc hms hl
  exact lv_ifnonnullN hx hb hd (k H locs cells slots ls hR hS hmc hms hl)
theorem x_tabIn {dflt lo hi : Int} {offs : Array Int} {len : Nat} {x : Int32} {off : Int} {tgt : Nat} (C : xCtx V K cc own nL d ini ret sc post) (hd : decode cc pc = .ok (.tableswitch dflt lo hi offs, len)) (h1 : ¬ x.toInt < lo) (h2 : ¬ hi < x.toInt) (ho : offs[(x.toInt - lo).toNat]? = some off) (ht : (pc : Int) + off = (tgt : Int)) (k : K mc ms h tgt lv rest) : K mc ms h pc lv (.int x :: rest) := by
  obtain ⟨⟨p, e, R, s, m, args, below, meth, c, Q, ⟨hx, hb, hml, hown, hts, hE, hz, hdF, hdL⟩, hin, hsc, rfl⟩, -⟩ := C
  intro H locs cells slots ls hR hS hmc hms hl
  exact lv_tableIn hx hb hd h1 h2 ho ht (k H locs cells slots ls hR hS hmc hms hl)
theorem x_tabOut {dflt lo hi : Int} {offs : Array Int} {len : Nat} {x : Int32} {tgt : Nat} (C : xCtx V K cc own nL d ini ret sc post) (hd : decode cc pc = .ok (.tableswitch dflt lo hi offs, len)) (h1 : x.toInt < lo ∨ hi < x.toInt) (ht : (pc : Int) + dflt = (tgt : Int)) (k : K mc ms h tgt lv rest) : K mc ms h pc lv (.int x :: rest) := by
  obtain ⟨⟨p, e, R, s, m, args, below, meth, c, Q, ⟨hx, hb, hml, hown, hts, hE, hz, hdF, hdL⟩, hin, hsc, rfl⟩, -⟩ := C
  intro H locs cells slots ls hR hS hmc hms hl
  exact lv_tableOut hx hb hd h1 ht (k H locs cells slots ls hR hS hmc hms hl)
theorem x_look {dflt : Int} {ps : Array (Int × Int)} {len : Nat} {x : Int32} {off : Int} {tgt : Nat} (C : xCtx V K cc own nL d ini ret sc post) (hd : decode cc pc = .ok (.lookupswitch dflt ps, len)) (hp : (ps.toList.zip (ps.toList.drop 1)).all (fun (a, next) => a.1 < next.1) = true) (ho : Op.lookupswitch.offset ps.toList dflt x.toInt = off) (ht : (pc : Int) + off = (tgt : Int)) (k : K mc ms h tgt lv rest) : K mc ms h pc lv (.int x :: rest) := by
  obtain ⟨⟨p, e, R, s, m, args, below, meth, c, Q, ⟨hx, hb, hml, hown, hts, hE, hz, hdF, hdL⟩, hin, hsc, rfl⟩, -⟩ := C
  intro H locs cells slots ls hR hS hmc hms hl
  exact lv_lookup hx hb hd hp ho ht (k H locs cells slots ls hR hS hmc hms hl)
theorem x_mono {mc' ms' : Nat} (C : xCtx V K cc own nL d ini ret sc post) (h1 : mc ≤ mc') (h2 : ms ≤ ms') (k : K mc ms h pc lv st) : K mc' ms' h pc lv st := by
  obtain ⟨⟨p, e, R, s, m, args, below, meth, c, Q, ⟨hx, hb, hml, hown, hts, hE, hz, hdF, hdL⟩, hin, hsc, rfl⟩, -⟩ := C
  intro H locs cells slots ls hR hS hmc hms hl
  exact k H locs cells slots ls hR hS (by omega) (by omega) hl
theorem x_less {h' : xH} (C : xCtx V K cc own nL d ini ret sc post) (hh : ∀ q e, h' q = some e → h q = some e) (k : K mc ms h' pc lv st) : K mc ms h pc lv st := by
  obtain ⟨⟨p, e, R, s, m, args, below, meth, c, Q, ⟨hx, hb, hml, hown, hts, hE, hz, hdF, hdL⟩, hin, hsc, rfl⟩, -⟩ := C
  intro H locs cells slots ls hR hS hmc hms hl
  exact k H locs cells slots ls (hR.less hh) hS hmc hms hl
/-- a class of the worlds: its number, name, fields, how many, their types -/
def xCls (ci : Nat) (C : String) (T : u_T) (N : Nat) (ty : Nat → FieldType) : Prop := vwCl[ci]? = some (C, T, N) ∧ (∀ w ∈ u_ws C T N, w ∈ xT) ∧ (∀ k, k < N → parseFieldDescriptor (T k).2.2.1 = some (ty k)) ∧ ∀ a, a < N → ∀ b, b < N → a ≠ b → (T a).2.1 ≠ (T b).2.1
/-- a field's reference in the pool of 'own': its own, or a nest mate's -/
def xFl (own : String) (idx : Nat) (C : String) (T : u_T) (N k : Nat) : Prop := k < N ∧ (T k).1 = C ∧ (Cond.fieldLink own idx C (T k).2.1 (T k).2.2.1 ∈ xT ∨ ∃ host : String, Cond.fieldLinkNest own idx C (T k).2.1 (T k).2.2.1 host ∈ xNN)
theorem x_get {idx ci a k0 N : Nat} {Cn : String} {T : u_T} {ty : Nat → FieldType} {fs : List Value} {v : Value} (C : xCtx V K cc own nL d ini ret sc post) (kc : xCls ci Cn T N ty) (fl : xFl own idx Cn T N k0) (hd : decode cc pc = .ok (.getfield idx, 3)) (hq : h a = some (.inr (ci, fs))) (hv : fs[k0]? = some v) (k : K mc ms h (pc + 3) lv (v :: rest)) : K mc ms h pc lv (.ref a :: rest) := by
  obtain ⟨⟨p, e, R, s, m, args, below, meth, c, Q, ⟨hx, hb, hml, hown, hts, hE, hz, hdF, hdL⟩, hin, hsc, rfl⟩, -⟩ := C
  intro H locs cells slots ls hR hS hmc hms hl
  obtain ⟨L, f, j, hLf, hP, hD, haL, hfa, hj⟩ := hR.pos hq
  obtain ⟨hk0, hT1, hw | ⟨host, hw⟩⟩ := fl
  · exact va_get hx hb hts kc.2.1 hown hE.1 hP j hj kc.1 k0 hk0 (hts _ hw) (fun x9 h9 => by rw [hT1] at h9; exact h9) hv hd (k H locs cells slots ls hR hS hmc hms hl)
  · exact va_getN hx hb hts kc.2.1 hown hE.1 hP j hj kc.1 k0 hk0 (va_Nw.use rfl (hE.2.1 _ hw)) (fun x9 h9 => by rw [hT1] at h9; exact h9) hv hd (k H locs cells slots ls hR hS hmc hms hl)
theorem x_put {idx ci a k0 N : Nat} {Cn : String} {T : u_T} {ty : Nat → FieldType} {fs : List Value} {v : Value} (C : xCtx V K cc own nL d ini ret sc post) (kc : xCls ci Cn T N ty) (fl : xFl own idx Cn T N k0) (hd : decode cc pc = .ok (.putfield idx, 3)) (hq : h a = some (.inr (ci, fs))) (hfin : (T k0).2.2.2 = false) (hn : narrow (ty k0) v = v) (hfit : fits (ty k0) v = true) (hlen : k0 < fs.length) (k : K mc ms (va_up h a (some (.inr (ci, fs.set k0 v)))) (pc + 3) lv rest) : K mc ms h pc lv (v :: .ref a :: rest) := by
  obtain ⟨⟨p, e, R, s, m, args, below, meth, c, Q, ⟨hx, hb, hml, hown, hts, hE, hz, hdF, hdL⟩, hin, hsc, rfl⟩, -⟩ := C
  intro H locs cells slots ls hR hS hmc hms hl
  obtain ⟨L, f, j, hLf, hP, hD, haL, hfa, hj⟩ := hR.pos hq
  obtain ⟨hk0, hT1, hw | ⟨host, hw⟩⟩ := fl
  · exact va_put hx hb hts kc.2.1 ty kc.2.2.1 kc.2.2.2 hown hE.1 hP hD hS j hj kc.1 k0 hk0 (hts _ hw) (fun x9 h9 => by rw [hT1] at h9; exact h9) hfin (kc.2.2.1 k0 hk0) hn hfit hlen hd (fun H1 locs1 hP1 hD1 hS1 => k H1 locs1 cells slots ls (xRep.set hLf haL hfa hj hD hP1 hD1) hS1 hmc hms hl)
  · exact va_putN hx hb hts kc.2.1 ty kc.2.2.1 kc.2.2.2 hown hE.1 hP hD hS j hj kc.1 k0 hk0 (va_Nw.use rfl (hE.2.1 _ hw)) (fun x9 h9 => by rw [hT1] at h9; exact h9) hfin (kc.2.2.1 k0 hk0) hn hfit hlen hd (fun H1 locs1 hP1 hD1 hS1 => k H1 locs1 cells slots ls (xRep.set hLf haL hfa hj hD hP1 hD1) hS1 hmc hms hl)
theorem x_putF {idx ci a k0 N : Nat} {T : u_T} {ty : Nat → FieldType} {fs : List Value} {v : Value} (C : xCtx V K cc own nL d true ret sc post) (kc : xCls ci own T N ty) (fl : k0 < N ∧ (T k0).1 = own ∧ Cond.fieldLink own idx own (T k0).2.1 (T k0).2.2.1 ∈ xT) (hd : decode cc pc = .ok (.putfield idx, 3)) (hq : h a = some (.inr (ci, fs))) (hfin : (T k0).2.2.2 = true) (hn : narrow (ty k0) v = v) (hfit : fits (ty k0) v = true) (hlen : k0 < fs.length) (k : K mc ms (va_up h a (some (.inr (ci, fs.set k0 v)))) (pc + 3) lv rest) : K mc ms h pc lv (v :: .ref a :: rest) := by
  obtain ⟨⟨p, e, R, s, m, args, below, meth, c, Q, ⟨hx, hb, hml, hown, hts, hE, hz, hdF, hdL⟩, hin, hsc, rfl⟩, -⟩ := C
  intro H locs cells slots ls hR hS hmc hms hl
  obtain ⟨L, f, j, hLf, hP, hD, haL, hfa, hj⟩ := hR.pos hq
  obtain ⟨hk0, hT1, hw⟩ := fl
  exact va_putF hx hb hts kc.2.1 ty kc.2.2.1 kc.2.2.2 hown hE.1 hP hD hS j hj kc.1 k0 hk0 (hts _ hw) (fun x9 h9 => by rw [hT1] at h9; exact h9) hfin (hin rfl) hT1 (kc.2.2.1 k0 hk0) hn hfit hlen hd (fun H1 locs1 hP1 hD1 hS1 => k H1 locs1 cells slots ls (xRep.set hLf haL hfa hj hD hP1 hD1) hS1 hmc hms hl)
theorem x_iald {a n : Nat} {f : Nat → Int32} {i : Int32} (C : xCtx V K cc own nL d ini ret sc post) (hd : decode cc pc = .ok (.iaload, 1)) (hq : h a = some (xI V n f)) (hi : vp_in i n) (k : K mc ms h (pc + 1) lv (.int (f i.toNatClampNeg) :: rest)) : K mc ms h pc lv (.int i :: .ref a :: rest) := by
  obtain ⟨⟨p, e, R, s, m, args, below, meth, c, Q, ⟨hx, hb, hml, hown, hts, hE, hz, hdF, hdL⟩, hin, hsc, rfl⟩, -⟩ := C
  intro H locs cells slots ls hR hS hmc hms hl
  obtain ⟨L, f9, j, hLf, hP, hD, haL, hfa, hj⟩ := hR.pos hq
  exact va_iald hx hb hE.1 hP j 0 hj rfl hi hd (k H locs cells slots ls hR hS hmc hms hl)
theorem x_iast {a n : Nat} {f : Nat → Int32} {i x : Int32} (C : xCtx V K cc own nL d ini ret sc post) (hd : decode cc pc = .ok (.iastore, 1)) (hq : h a = some (xI V n f)) (hi : vp_in i n) (k : K mc ms (va_up h a (some (xI V n (upd f i.toNatClampNeg x)))) (pc + 1) lv rest) : K mc ms h pc lv (.int x :: .int i :: .ref a :: rest) := by
  obtain ⟨⟨p, e, R, s, m, args, below, meth, c, Q, ⟨hx, hb, hml, hown, hts, hE, hz, hdF, hdL⟩, hin, hsc, rfl⟩, -⟩ := C
  intro H locs cells slots ls hR hS hmc hms hl
  obtain ⟨L, f9, j, hLf, hP, hD, haL, hfa, hj⟩ := hR.pos hq
  exact va_iast hx hb hE.1 hP hD hS j 0 hj rfl hi hd (fun H1 locs1 hP1 hD1 hS1 => k H1 locs1 cells slots ls (xRep.set hLf haL hfa hj hD hP1 hD1) hS1 hmc hms hl)
theorem x_lald {a n : Nat} {f : Nat → Int64} {i : Int32} (C : xCtx V K cc own nL d ini ret sc post) (hd : decode cc pc = .ok (.laload, 1)) (hq : h a = some (xJ V n f)) (hi : vp_in i n) (k : K mc ms h (pc + 1) lv (.long (f i.toNatClampNeg) :: rest)) : K mc ms h pc lv (.int i :: .ref a :: rest) := by
  obtain ⟨⟨p, e, R, s, m, args, below, meth, c, Q, ⟨hx, hb, hml, hown, hts, hE, hz, hdF, hdL⟩, hin, hsc, rfl⟩, -⟩ := C
  intro H locs cells slots ls hR hS hmc hms hl
  obtain ⟨L, f9, j, hLf, hP, hD, haL, hfa, hj⟩ := hR.pos hq
  exact va_lald hx hb hE.1 hP j 1 hj rfl hi hd (k H locs cells slots ls hR hS hmc hms hl)
theorem x_last {a n : Nat} {f : Nat → Int64} {i : Int32} {x : Int64} (C : xCtx V K cc own nL d ini ret sc post) (hd : decode cc pc = .ok (.lastore, 1)) (hq : h a = some (xJ V n f)) (hi : vp_in i n) (k : K mc ms (va_up h a (some (xJ V n (vp_updL f i.toNatClampNeg x)))) (pc + 1) lv rest) : K mc ms h pc lv (.long x :: .int i :: .ref a :: rest) := by
  obtain ⟨⟨p, e, R, s, m, args, below, meth, c, Q, ⟨hx, hb, hml, hown, hts, hE, hz, hdF, hdL⟩, hin, hsc, rfl⟩, -⟩ := C
  intro H locs cells slots ls hR hS hmc hms hl
  obtain ⟨L, f9, j, hLf, hP, hD, haL, hfa, hj⟩ := hR.pos hq
  exact va_last hx hb hE.1 hP hD hS j 1 hj rfl hi hd (fun H1 locs1 hP1 hD1 hS1 => k H1 locs1 cells slots ls (xRep.set hLf haL hfa hj hD hP1 hD1) hS1 hmc hms hl)
theorem x_aald {a n t : Nat} {Cn : String} {f : Nat → Option Nat} {i : Int32} (C : xCtx V K cc own nL d ini ret sc post) (ht : (xTy V)[t]? = some (V.2.2.1 t, .object Cn)) (hd : decode cc pc = .ok (.aaload, 1)) (hq : h a = some (xR V t n f)) (hi : vp_in i n) (k : K mc ms h (pc + 1) lv (va_rf (f i.toNatClampNeg) :: rest)) : K mc ms h pc lv (.int i :: .ref a :: rest) := by
  obtain ⟨⟨p, e, R, s, m, args, below, meth, c, Q, ⟨hx, hb, hml, hown, hts, hE, hz, hdF, hdL⟩, hin, hsc, rfl⟩, -⟩ := C
  intro H locs cells slots ls hR hS hmc hms hl
  obtain ⟨L, f9, j, hLf, hP, hD, haL, hfa, hj⟩ := hR.pos hq
  exact va_aldq hx hb hE.1 hP j t hj ht hi hd (k H locs cells slots ls hR hS hmc hms hl)
theorem x_aast {a n t b ci N : Nat} {Cn : String} {T : u_T} {fs : List Value} {f : Nat → Option Nat} {i : Int32} (C : xCtx V K cc own nL d ini ret sc post) (ht : (xTy V)[t]? = some (V.2.2.1 t, .object Cn)) (hc : vwCl[ci]? = some (Cn, T, N)) (hd : decode cc pc = .ok (.aastore, 1)) (hq : h a = some (xR V t n f)) (hq2 : h b = some (.inr (ci, fs))) (hi : vp_in i n) (k : K mc ms (va_up h a (some (xR V t n (va_up f i.toNatClampNeg (some b))))) (pc + 1) lv rest) : K mc ms h pc lv (.ref b :: .int i :: .ref a :: rest) := by
  obtain ⟨⟨p, e, R, s, m, args, below, meth, c, Q, ⟨hx, hb, hml, hown, hts, hE, hz, hdF, hdL⟩, hin, hsc, rfl⟩, -⟩ := C
  intro H locs cells slots ls hR hS hmc hms hl
  obtain ⟨L, f9, j, hLf, hP, hD, haL, hfa, hj⟩ := hR.pos hq
  obtain ⟨hb1, hb2⟩ := hLf b _ hq2
  obtain ⟨j2, hj2⟩ := va_pl_get (X := []) (f := f9) hb1
  rw [hb2] at hj2
  exact va_astq hx hb hE.1 hP hD hS j t j2 ci hj ht hj2 hc hi hd (fun H1 locs1 hP1 hD1 hS1 => k H1 locs1 cells slots ls (xRep.set hLf haL hfa hj hD hP1 hD1) hS1 hmc hms hl)
theorem x_alenI {a n : Nat} {f : Nat → Int32} (C : xCtx V K cc own nL d ini ret sc post) (hd : decode cc pc = .ok (.arraylength, 1)) (hq : h a = some (xI V n f)) (k : K mc ms h (pc + 1) lv (.int (Int32.ofNat n) :: rest)) : K mc ms h pc lv (.ref a :: rest) := by
  obtain ⟨⟨p, e, R, s, m, args, below, meth, c, Q, ⟨hx, hb, hml, hown, hts, hE, hz, hdF, hdL⟩, hin, hsc, rfl⟩, -⟩ := C
  intro H locs cells slots ls hR hS hmc hms hl
  obtain ⟨L, f9, j, hLf, hP, hD, haL, hfa, hj⟩ := hR.pos hq
  exact va_alen hx hb hE.1 hP j 0 hj (ty := .int) rfl rfl hd (k H locs cells slots ls hR hS hmc hms hl)
theorem x_alenR {a n t : Nat} {Cn : String} {f : Nat → Option Nat} (C : xCtx V K cc own nL d ini ret sc post) (ht : (xTy V)[t]? = some (V.2.2.1 t, .object Cn)) (hd : decode cc pc = .ok (.arraylength, 1)) (hq : h a = some (xR V t n f)) (k : K mc ms h (pc + 1) lv (.int (Int32.ofNat n) :: rest)) : K mc ms h pc lv (.ref a :: rest) := by
  obtain ⟨⟨p, e, R, s, m, args, below, meth, c, Q, ⟨hx, hb, hml, hown, hts, hE, hz, hdF, hdL⟩, hin, hsc, rfl⟩, -⟩ := C
  intro H locs cells slots ls hR hS hmc hms hl
  obtain ⟨L, f9, j, hLf, hP, hD, haL, hfa, hj⟩ := hR.pos hq
  exact va_alen hx hb hE.1 hP j t hj ht rfl hd (k H locs cells slots ls hR hS hmc hms hl)
theorem x_newI {n : Int32} {N : Nat} (C : xCtx V K cc own nL d ini ret sc post) (hw : Cond.arrayClass .int ∈ xT) (hd : decode cc pc = .ok (.newarray .int, 2)) (hn : ¬ n < 0) (hN : n.toNatClampNeg = N) (hb9 : N * 4 ≤ 536870912) (k : ∀ q : Nat, h q = none → V.2.2.2 ≤ q → K mc ms (va_up h q (some (xI V N (fun _ => 0)))) (pc + 2) lv (.ref q :: rest)) : K (mc + 1) (ms + N) h pc lv (.int n :: rest) := by
  obtain ⟨⟨p, e, R, s, m, args, below, meth, c, Q, ⟨hx, hb, hml, hown, hts, hE, hz, hdF, hdL⟩, hin, hsc, rfl⟩, -⟩ := C
  intro H locs cells slots ls hR hS hmc hms hl
  obtain ⟨L, f, hLf, hP, hD⟩ := hR
  refine va_newa (atype := .int) hx hb (hts _ hw) (ty := .int) rfl hE.1 hP hD hS (fun q hq => Nat.le_trans hz hq) (a0 := (N, .inl (fun _ => 0))) (fun cA => rfl) hn hN hb9 (by omega) (by omega) hd (fun q cA H1 hK1 hP1 hD1 hS1 => ?_)
  have hcA : cA = V.2.2.1 0 := Option.some.inj (((hK1.2 4 (cA, .int) rfl).2).symm.trans (hE.1.2 0 (V.2.2.1 0, .int) rfl).2)
  subst hcA
  obtain ⟨hf, hr⟩ := xRep.push hLf hP1 hD1
  exact k q hf (hD1.2 (va_pl L f).length (q, _) (by simp; rfl)) H1 locs (cells + 1) (slots + N) ls hr hS1 (by omega) (by omega) hl
theorem x_newJ {n : Int32} {N : Nat} (C : xCtx V K cc own nL d ini ret sc post) (hw : Cond.arrayClass .long ∈ xT) (hd : decode cc pc = .ok (.newarray .long, 2)) (hn : ¬ n < 0) (hN : n.toNatClampNeg = N) (hb9 : N * 8 ≤ 536870912) (k : ∀ q : Nat, h q = none → V.2.2.2 ≤ q → K mc ms (va_up h q (some (xJ V N (fun _ => 0)))) (pc + 2) lv (.ref q :: rest)) : K (mc + 1) (ms + N) h pc lv (.int n :: rest) := by
  obtain ⟨⟨p, e, R, s, m, args, below, meth, c, Q, ⟨hx, hb, hml, hown, hts, hE, hz, hdF, hdL⟩, hin, hsc, rfl⟩, -⟩ := C
  intro H locs cells slots ls hR hS hmc hms hl
  obtain ⟨L, f, hLf, hP, hD⟩ := hR
  refine va_newa (atype := .long) hx hb (hts _ hw) (ty := .long) rfl hE.1 hP hD hS (fun q hq => Nat.le_trans hz hq) (a0 := (N, .inr (.inl (fun _ => 0)))) (fun cA => rfl) hn hN hb9 (by omega) (by omega) hd (fun q cA H1 hK1 hP1 hD1 hS1 => ?_)
  have hcA : cA = V.2.2.1 1 := Option.some.inj (((hK1.2 4 (cA, .long) rfl).2).symm.trans (hE.1.2 1 (V.2.2.1 1, .long) rfl).2)
  subst hcA
  obtain ⟨hf, hr⟩ := xRep.push hLf hP1 hD1
  exact k q hf (hD1.2 (va_pl L f).length (q, _) (by simp; rfl)) H1 locs (cells + 1) (slots + N) ls hr hS1 (by omega) (by omega) hl
theorem x_newR {n : Int32} {N idx t : Nat} {Cn : String} (C : xCtx V K cc own nL d ini ret sc post) (ht : (xTy V)[t]? = some (V.2.2.1 t, .object Cn)) (hAO : Cn = "CursorBase$Operand" ∨ Cn = "CursorBase$Condition") (hw : Cond.classLink own idx Cn ∈ xT) (hd : decode cc pc = .ok (.anewarray idx, 3)) (hn : ¬ n < 0) (hN : n.toNatClampNeg = N) (hb9 : N * 4 ≤ 536870912) (k : ∀ q : Nat, h q = none → V.2.2.2 ≤ q → K mc ms (va_up h q (some (xR V t N (fun _ => none)))) (pc + 3) lv (.ref q :: rest)) : K (mc + 1) (ms + N) h pc lv (.int n :: rest) := by
  obtain ⟨⟨p, e, R, s, m, args, below, meth, c, Q, ⟨hx, hb, hml, hown, hts, hE, hz, hdF, hdL⟩, hin, hsc, rfl⟩, -⟩ := C
  intro H locs cells slots ls hR hS hmc hms hl
  obtain ⟨L, f, hLf, hP, hD⟩ := hR
  have hao : va_AO Cn s := by rcases hAO with rfl | rfl; exact hE.2.2.1; exact hE.2.2.2
  refine va_newq hx hb hown (hts _ hw) hao hE.1 hP hD hS (fun q hq => Nat.le_trans hz hq) hn hN hb9 (by omega) (by omega) hd (fun q cA H1 hK1 hP1 hD1 hS1 => ?_)
  have hcA : cA = V.2.2.1 t := by
    obtain ⟨_, _, _, _, _, a1⟩ := (hK1.2 4 (cA, .object Cn) rfl).2
    obtain ⟨_, _, _, _, _, a2⟩ := (hE.1.2 t (V.2.2.1 t, .object Cn) ht).2
    exact Option.some.inj (a1.symm.trans a2)
  subst hcA
  obtain ⟨hf, hr⟩ := xRep.push hLf hP1 hD1
  exact k q hf (hD1.2 (va_pl L f).length (q, _) (by simp; rfl)) H1 locs (cells + 1) (slots + N) ls hr hS1 (by omega) (by omega) hl
theorem x_new {ci idx N : Nat} {Cn : String} {T : u_T} {ty : Nat → FieldType} {fs : List Value} (C : xCtx V K cc own nL d ini ret sc post) (kc : xCls ci Cn T N ty) (hw : Cond.classLink own idx Cn ∈ xT ∧ Cond.instantiable Cn N ∈ xT ∧ Cond.initialized Cn ∈ xT) (hd : decode cc pc = .ok (.new idx, 3)) (hfs : ∀ j, j < N → defaultValue (ty j) = vp_V fs j) (k : ∀ q : Nat, h q = none → V.2.2.2 ≤ q → K mc ms (va_up h q (some (.inr (ci, fs)))) (pc + 3) lv (.ref q :: st)) : K (mc + 1) (ms + N) h pc lv st := by
  obtain ⟨⟨p, e, R, s, m, args, below, meth, c, Q, ⟨hx, hb, hml, hown, hts, hE, hz, hdF, hdL⟩, hin, hsc, rfl⟩, -⟩ := C
  intro H locs cells slots ls hR hS hmc hms hl
  obtain ⟨L, f, hLf, hP, hD⟩ := hR
  refine va_new hx hb hts kc.2.1 ty kc.2.2.1 hown (hts _ hw.1) (hts _ hw.2.1) (hts _ hw.2.2) hE.1 hP hD hS (fun q hq => Nat.le_trans hz hq) kc.1 hfs (by omega) (by omega) hd (fun q H1 hP1 hD1 hS1 => ?_)
  obtain ⟨hf, hr⟩ := xRep.push hLf hP1 hD1
  exact k q hf (hD1.2 (va_pl L f).length (q, _) (by simp; rfl)) H1 locs (cells + 1) (slots + N) ls hr hS1 (by omega) (by omega) hl
theorem x_objInit {a idx : Nat} (C : xCtx V K cc own nL d ini ret sc post) (hw : Cond.methodLink own idx objectInit ∈ xT ∧ Cond.instanceMethod objectInit ∈ xT ∧ Cond.code objectInit ⟨#[0xb1]⟩ 1 none ∈ xT) (h1 : 1 ≤ d) (h8 : (rest.map fun v => v.category).sum ≤ 8) (hd : decode cc pc = .ok (.invokespecial idx, 3)) (k : K mc ms h (pc + 3) lv rest) : K mc ms h pc lv (.ref a :: rest) := by
  obtain ⟨⟨p, e, R, s, m, args, below, meth, c, Q, ⟨hx, hb, hml, hown, hts, hE, hz, hdF, hdL⟩, hin, hsc, rfl⟩, -⟩ := C
  intro H locs cells slots ls hR hS hmc hms hl
  have h9 := lv_room (m := m) (pc := pc) (ls := ls) (rest := Value.ref a :: rest) h8
  exact W.objInit hx hb hown (hts _ hw.1) (hts _ hw.2.1) (hts _ hw.2.2) (g := F0 m pc ls (.ref a :: rest)) rfl (hl.1.trans hml.symm) rfl hd (by omega) (by omega) (k H locs cells slots ls hR hS hmc hms hl)
theorem x_copy {a b idx n0 n1 : Nat} {f g : Nat → Int32} {sp dp n : Int32} (C : xCtx V K cc own nL d ini ret sc post) (hw : Cond.methodLink own idx arraycopyName ∈ xT ∧ Cond.native arraycopyName ∈ xT ∧ Cond.static arraycopyName ∈ xT ∧ Cond.initialized "java/lang/System" ∈ xT) (hd1 : 3 ≤ d) (h8 : (rest.map fun v => v.category).sum ≤ 8) (hq : h a = some (xI V n0 f)) (hq2 : h b = some (xI V n1 g)) (h1 : ¬ sp < 0) (h2 : ¬ dp < 0) (h3 : ¬ n < 0) (h4 : sp.toNatClampNeg + n.toNatClampNeg ≤ n0) (h5 : dp.toNatClampNeg + n.toNatClampNeg ≤ n1) (hd : decode cc pc = .ok (.invokestatic idx, 3))
    (k : K mc ms (va_up h b (some (xI V n1 (va_cpy f g sp.toNatClampNeg dp.toNatClampNeg n.toNatClampNeg)))) (pc + 3) lv rest) : K mc ms h pc lv (.int n :: .int dp :: .ref b :: .int sp :: .ref a :: rest) := by
  obtain ⟨⟨p, e, R, s, m, args, below, meth, c, Q, ⟨hx, hb, hml, hown, hts, hE, hz, hdF, hdL⟩, hin, hsc, rfl⟩, -⟩ := C
  intro H locs cells slots ls hR hS hmc hms hl
  obtain ⟨L, f9, j, hLf, hP, hD, haL, hfa, hj⟩ := hR.pos hq2
  obtain ⟨ha1, ha2⟩ := hLf a _ hq
  obtain ⟨j2, hj2⟩ := va_pl_get (X := []) (f := f9) ha1
  rw [ha2] at hj2
  have hnw : nativeFrameWords "java/lang/System" "arraycopy" 5 + 11 ≤ 56 := by decide +kernel
  exact va_copyi hx hb (hml.trans hl.1.symm) hown (hts _ hw.1) (hts _ hw.2.1) (hts _ hw.2.2.1) (hts _ hw.2.2.2) hE.1 hP hD hS j2 j 0 0 (ty := .int) hj2 hj rfl rfl rfl h1 h2 h3 h4 h5 (fun i hi => rfl) (by omega) (by omega) hd (fun H1 locs1 hP1 hD1 hS1 => k H1 locs1 cells slots ls (xRep.set hLf haL hfa hj hD hP1 hD1) hS1 hmc hms hl)
theorem x_sld {b L : Nat} {xs : Nat → Int32} {i : Int32} (C : xCtx V K cc own nL d ini ret (some (b, L, xs)) post) (hd : decode cc pc = .ok (.iaload, 1)) (hi : vp_in i L) (k : K mc ms h (pc + 1) lv (.int (xs i.toNatClampNeg) :: rest)) : K mc ms h pc lv (.int i :: .ref b :: rest) := by
  obtain ⟨⟨p, e, R, s, m, args, below, meth, c, Q, ⟨hx, hb, hml, hown, hts, hE, hz, hdF, hdL⟩, hin, hsc, rfl⟩, -⟩ := C
  intro H locs cells slots ls hR hS hmc hms hl
  obtain ⟨hX, hbz⟩ := hsc b L xs rfl
  exact va_sld hx hb hX (Nat.lt_of_lt_of_le hbz hz) (fun q => by have q : V.2.2.2 ≤ b := q; omega) hS hi hd (k H locs cells slots ls hR hS hmc hms hl)
theorem x_slen {b L : Nat} {xs : Nat → Int32} (C : xCtx V K cc own nL d ini ret (some (b, L, xs)) post) (hd : decode cc pc = .ok (.arraylength, 1)) (k : K mc ms h (pc + 1) lv (.int (Int32.ofNat L) :: rest)) : K mc ms h pc lv (.ref b :: rest) := by
  obtain ⟨⟨p, e, R, s, m, args, below, meth, c, Q, ⟨hx, hb, hml, hown, hts, hE, hz, hdF, hdL⟩, hin, hsc, rfl⟩, -⟩ := C
  intro H locs cells slots ls hR hS hmc hms hl
  obtain ⟨hX, hbz⟩ := hsc b L xs rfl
  exact va_slen hx hb hX (Nat.lt_of_lt_of_le hbz hz) (fun q => by have q : V.2.2.2 ≤ b := q; omega) hS hd (k H locs cells slots ls hR hS hmc hms hl)
end XR
/-! CONTRACTS -/
abbrev xRm (d mc ms : Nat) : Room := { frames := d, cells := mc, slots := ms, locals := 30 * d }
def xPc (V : xV) (as : List Value) (h : xH) : Array Value → State → Prop := va_Pc as (fun U => V.2.2.2 ≤ U.heap.size ∧ xRep V h U.heap ∧ xE V U)
def xQ (V : xV) (post : Option Value → xH → Prop) : Array Value → State → Outcome → State → Prop := fun _ st oc t => (∃ (v : Option Value) (h' : xH), oc = .returned v ∧ post v h' ∧ xRep V h' t.heap) ∧ va_F (xA V) st t
/-- method y, from arguments 'as' and the view h, returns with 'post', at most mc cells and ms slots new; calls nest at most d deep -/
def xM (V : xV) (y : MethodName) (cc : ByteArray) (nL : Nat) (ret : Option FieldType) (d : Nat) (as : List Value) (h : xH) (mc ms : Nat) (post : Option Value → xH → Prop) : Prop :=
  Met V.1 y (Cond.code y cc nL ret :: xT) (xRm d mc ms) (xPc V as h) (xQ V post) mc ms (xA V)
theorem xPc.blind {V : xV} {as : List Value} {h : xH} : FrameBlind (xPc V as h) := fun a U g mk q => ⟨q.1, q.2.1, q.2.2.1, xE.moved (s := U) (U := U.calling g mk a) (State.WarmedH.refl U) q.2.2.2⟩
theorem xGood {y : MethodName} {cc : ByteArray} {nL : Nat} {ret : Option FieldType} (hc : Cond.code y cc nL ret ∈ xT) : GoodIn xT (Cond.code y cc nL ret :: xT) := fun w hw => by
  have h1 : w ∈ xT := by
    rcases List.mem_cons.mp hw with rfl | h
    · exact hc
    · exact h
  exact ⟨h1, good_of_word (xT_good w h1)⟩
theorem xM_of {V : xV} {y : MethodName} {cc : ByteArray} {nL : Nat} {ret : Option FieldType} {d : Nat} {as : List Value} {h : xH} {mc ms : Nat} {post : Option Value → xH → Prop} (ini : Bool) (hy : plainName y.cls = true) (hi : ini = true → y.name = "<init>") (hn : (lg_sl as).length ≤ nL)
    (body : ∀ K : xK, xCtx V K cc y.cls nL d ini ret none post → K mc ms h 0 (lv_args 0 as) []) : xM V y cc nL ret d as h mc ms post := by
  refine Met.ofW (cc := cc) (maxL := nL) (ret := ret) hy rfl ?_
  intro p e s m args below meth c s₁ B hml hv
  obtain ⟨rfl, hz, hR, hE⟩ := hv
  have hts := atoms_spec (ws := Cond.code y cc nL ret :: xT) B.pre
  have hlocks := B.notSynchronized
  have C : xCtx V (xX V p e (xRm d mc ms) s m as.toArray below meth c nL (MQ below (xQ V post) as.toArray s mc ms (xA V))) cc y.cls nL d ini ret none post := by
    refine ⟨⟨p, e, xRm d mc ms, s, m, as.toArray, below, meth, c, _, ⟨B.exec, B.bytes, hml, findClass_of_methodNamed B.named, fun w hw => hts w (List.mem_cons_of_mem _ hw), hE, hz, Nat.le_refl _, Nat.le_refl _⟩, fun q => (name_of_methodNamed B.named B.method).1.trans (hi q), fun b L xs q => (nomatch q), rfl⟩, ?_⟩
    intro mc' ms' h' pc lv st v hr hp
    intro H locs cells slots ls hR hS hmc hms hl
    have h1 : cells ≤ mc := by have : cells + mc' ≤ mc := hmc; omega
    have h2 : slots ≤ ms := by have : slots + ms' ≤ ms := hms; omega
    refine W.widen h1 h2 ?_
    rcases hr with ⟨hd, hr0, rfl, rfl⟩ | ⟨hd, ty, x, hr0, hn0, rfl, rfl⟩ | ⟨hd, x, hr0, rfl, rfl⟩ | ⟨hd, n, u, hr0, hu, rfl, rfl⟩
    · exact W.vret B.exec B.bytes (B.returns.trans hr0) (fun t ht hW => ⟨⟨none, h', rfl, hp, by rw [ht]; exact hR⟩, hS.F ht⟩) hS.2.2 hd
    · exact W.zret B.exec B.bytes (B.returns.trans hr0) hn0 (fun t ht hW => ⟨⟨some (.int x), h', rfl, hp, by rw [ht]; exact hR⟩, hS.F ht⟩) hS.2.2 hd
    · exact W.lret B.exec B.bytes (B.returns.trans hr0) (fun t ht hW => ⟨⟨some (.long x), h', rfl, hp, by rw [ht]; exact hR⟩, hS.F ht⟩) hS.2.2 hd
    · exact W.aret B.exec B.bytes (B.returns.trans hr0) (Or.inl ⟨n, rfl⟩) hu (fun t ht hW => ⟨⟨some u, h', rfl, hp, by rw [ht]; exact hR⟩, hS.F ht⟩) hS.2.2 hd
  have hl := lv_entry as (n := nL) hn
  rw [lg_entry_eq]
  exact body _ C s.heap [] 0 0 _ hR va_S.rf (by show 0 + mc ≤ mc; omega) (by show 0 + ms ≤ ms; omega) hl
theorem x_run {V : xV} {p : Program} {e : Env} {R : Room} {s : State} {m : MethodId} {args : Array Value} {below : List Frame} {meth : Method} {c : Code} {H H0 : Heap} {locs : List Loc} {cells slots mc ms pc : Nat} {Q : State → Prop} {ls : Array Slot} {st0 rest : List Value} {a : Array Value} {Qp : Option Value → xH → Prop}
    (hr : va_Run p V.1 e R s m args below meth c H locs cells slots mc ms (F0 m pc ls st0) rest (xQ V Qp a) (xA V)) (hS : va_S (xA V) H0 H locs)
    (kk : ∀ (v : Option Value) (h' : xH) (H1 : Heap) (locs1 : List Loc), Qp v h' → xRep V h' H1 → va_S (xA V) H0 H1 locs1 → W p V.1 e R s m args below meth c H1 locs1 (cells + mc) (slots + ms) Q (F0 m (pc + 3) ls (v.toList ++ rest))) : W p V.1 e R s m args below meth c H locs cells slots Q (F0 m pc ls st0) := by
  intro T hT X
  obtain ⟨v, st₀, t, T', L, h0, X', hL, e1, e2, ⟨⟨r, h', hv, hp, hb⟩, hz, hk⟩, st⟩ := hr T hT X
  cases hv
  rw [h0] at hz hk
  obtain ⟨t2, a1, b1⟩ := kk v h' T'.heap (locs ++ L) hp (by rw [e1]; exact hb)
    ⟨Nat.le_trans hS.1 (by rw [e1]; exact hz), fun q h1 h2 => by rw [e1, hk q (Nat.lt_of_lt_of_le h1 hS.1) h2]; exact hS.2.1 q h1 h2, fun q hq => by
      rcases List.mem_append.mp hq with h | h
      · exact hS.2.2 q h
      · exact hL q h⟩ T' rfl X'
  exact ⟨t2, st t2 a1, b1⟩
/-- what a call's instruction needs of the tables: kind 0 virtual, 1 special (a constructor), 2 static; of its own class, or a private one of a nest mate -/
def xLk (own : String) (idx : Nat) (y : MethodName) : Prop := Cond.methodLink own idx y ∈ xT ∨ ∃ host : String, Cond.methodLinkNest own idx y host ∈ xNN
def xY (kind : Nat) (y : MethodName) (cc : ByteArray) (nL : Nat) (ret : Option FieldType) (n : Nat) : Prop :=
  Cond.code y cc nL ret ∈ xT ∧ Cond.initialized y.cls ∈ xT ∧ (y.cls ≠ "java/lang/invoke/MethodHandle" ∧ y.cls ≠ "java/lang/invoke/VarHandle") ∧ (parseMethodDescriptor y.desc).map (fun d => d.parameters.length) = some n ∧
  (kind = 0 → Cond.instanceMethod y ∈ xT ∧ Cond.selects y.cls y y ∈ xT) ∧ (kind = 1 → Cond.instanceMethod y ∈ xT ∧ y.name = "<init>" ∧ ret = none) ∧ (kind = 2 → Cond.static y ∈ xT)
section XC
variable {V : xV} {K : xK} {cc : ByteArray} {own : String} {nL d : Nat} {ini : Bool} {ret : Option FieldType} {sc : xS} {post : Option Value → xH → Prop} {mc ms pc : Nat} {h : xH} {lv : List (Nat × Value)} {st rest : List Value}
variable {idx n : Nat} {y : MethodName} {ccy : ByteArray} {nLy : Nat} {rety : Option FieldType} {d' mc' ms' b : Nat} {As : List Value} {Qp : Option Value → xH → Prop}
theorem x_callV {ci N : Nat} {T : u_T} {fs : List Value} (C : xCtx V K cc own nL d ini ret sc post) (hwl : xLk own idx y) (hw : xY 0 y ccy nLy rety n) (hd : decode cc pc = .ok (.invokevirtual idx, 3)) (hM : xM V y ccy nLy rety d' (.ref b :: As) h mc' ms' Qp) (hq : h b = some (.inr (ci, fs))) (hc : vwCl[ci]? = some (y.cls, T, N)) (hst : st = As.reverse ++ .ref b :: rest) (hn : As.length = n) (hd' : d' + 1 ≤ d) (hnl : nLy ≤ 11) (h8 : (rest.map fun v => v.category).sum ≤ 8)
    (kk : ∀ (v : Option Value) (h' : xH), Qp v h' → K mc ms h' (pc + 3) lv (v.toList ++ rest)) : K (mc + mc') (ms + ms') h pc lv st := by
  obtain ⟨⟨p, e, R, s, m, args, below, meth, c, Q, ⟨hx, hb, hml, hown, hts, hE, hz, hdF, hdL⟩, hin, hsc, rfl⟩, -⟩ := C
  intro H locs cells slots ls hR hS hmc hms hl
  subst hst
  obtain ⟨hwc, hwi, hwm, hwn, hw0, hw1, hw2⟩ := hw
  have hrm : (xRm d' mc' ms').frames + 1 ≤ R.frames ∧ 8 + (nLy + 11) + (xRm d' mc' ms').locals ≤ R.locals := ⟨by show d' + 1 ≤ R.frames; omega, by show 8 + (nLy + 11) + 30 * d' ≤ R.locals; omega⟩
  have hbud : cells + mc' ≤ R.cells ∧ slots + ms' ≤ R.slots := ⟨by omega, by omega⟩
  obtain ⟨L, f9, j, hLf, hP, hD, haL, hfa, hj⟩ := hR.pos hq
  have hrc := va_recv hE.1 hP hc hj
  obtain ⟨hw3, hw4⟩ := hw0 rfl
  rcases hwl with hwl | ⟨host, hwl⟩
  · refine x_run (va_runV (cc := cc) (nL := nL) (own := own) (Ts := xT) (C := y.cls) (b := b) (As := As) (rest := rest) (g := F0 m pc ls (As.reverse ++ .ref b :: rest)) ⟨hx, hb, hml, hown, hts⟩ hM ⟨callB_of n hts (xGood hwc) rfl rfl rfl (hts _ hwi) (hts _ hwl) ⟨hwm.1, hwm.2, hwn⟩ hrm, hts _ hw3, hts _ hw4⟩ ⟨xPc.blind, hrc, fun U hU hW => ⟨rfl, by rw [hU]; exact Nat.le_trans hz hS.1, by rw [hU]; exact hR, xE.moved hW hE⟩⟩ rfl hn hl.1 rfl (lv_room h8) hd hbud) hS (fun v h' H1 locs1 hq hR1 hS1 => ?_)
    exact kk v h' hq H1 locs1 (cells + mc') (slots + ms') ls hR1 hS1 (by omega) (by omega) hl
  · refine x_run (va_runVN (cc := cc) (nL := nL) (own := own) (Ts := xT) (C := y.cls) (b := b) (As := As) (rest := rest) (g := F0 m pc ls (As.reverse ++ .ref b :: rest)) ⟨hx, hb, hml, hown, hts⟩ hM ⟨va_cnB n hts (xGood hwc) rfl rfl rfl (hE.2.1 _ hwl) (hts _ hwi) ⟨hwm.1, hwm.2, hwn⟩ hrm, hts _ hw3, hts _ hw4⟩ ⟨xPc.blind, hrc, fun U hU hW => ⟨rfl, by rw [hU]; exact Nat.le_trans hz hS.1, by rw [hU]; exact hR, xE.moved hW hE⟩⟩ rfl hn hl.1 rfl (lv_room h8) hd hbud) hS (fun v h' H1 locs1 hq hR1 hS1 => ?_)
    exact kk v h' hq H1 locs1 (cells + mc') (slots + ms') ls hR1 hS1 (by omega) (by omega) hl
theorem x_callI {ci N : Nat} {T : u_T} {fs : List Value} (C : xCtx V K cc own nL d ini ret sc post) (hwl : xLk own idx y) (hw : xY 1 y ccy nLy rety n) (hd : decode cc pc = .ok (.invokespecial idx, 3)) (hM : xM V y ccy nLy rety d' (.ref b :: As) h mc' ms' Qp) (hr0 : rety = none) (hst : st = As.reverse ++ .ref b :: rest) (hn : As.length = n) (hd' : d' + 1 ≤ d) (hnl : nLy ≤ 11) (h8 : (rest.map fun v => v.category).sum ≤ 8)
    (kk : ∀ (v : Option Value) (h' : xH), Qp v h' → K mc ms h' (pc + 3) lv (v.toList ++ rest)) : K (mc + mc') (ms + ms') h pc lv st := by
  obtain ⟨⟨p, e, R, s, m, args, below, meth, c, Q, ⟨hx, hb, hml, hown, hts, hE, hz, hdF, hdL⟩, hin, hsc, rfl⟩, -⟩ := C
  intro H locs cells slots ls hR hS hmc hms hl
  subst hst
  obtain ⟨hwc, hwi, hwm, hwn, hw0, hw1, hw2⟩ := hw
  have hrm : (xRm d' mc' ms').frames + 1 ≤ R.frames ∧ 8 + (nLy + 11) + (xRm d' mc' ms').locals ≤ R.locals := ⟨by show d' + 1 ≤ R.frames; omega, by show 8 + (nLy + 11) + 30 * d' ≤ R.locals; omega⟩
  have hbud : cells + mc' ≤ R.cells ∧ slots + ms' ≤ R.slots := ⟨by omega, by omega⟩
  subst hr0
  obtain ⟨hw3, hw4, -⟩ := hw1 rfl
  rcases hwl with hwl | ⟨host, hwl⟩
  · refine x_run (va_runI (cc := cc) (nL := nL) (own := own) (Ts := xT) (b := b) (As := As) (rest := rest) (g := F0 m pc ls (As.reverse ++ .ref b :: rest)) ⟨hx, hb, hml, hown, hts⟩ hM ⟨callB_of n hts (xGood hwc) rfl rfl rfl (hts _ hwi) (hts _ hwl) ⟨hwm.1, hwm.2, hwn⟩ hrm, hw4, hts _ hw3⟩ ⟨xPc.blind, fun U hU hW => ⟨rfl, by rw [hU]; exact Nat.le_trans hz hS.1, by rw [hU]; exact hR, xE.moved hW hE⟩⟩ rfl hn hl.1 rfl (lv_room h8) hd hbud) hS (fun v h' H1 locs1 hq hR1 hS1 => ?_)
    exact kk v h' hq H1 locs1 (cells + mc') (slots + ms') ls hR1 hS1 (by omega) (by omega) hl
  · refine x_run (va_runIN (cc := cc) (nL := nL) (own := own) (Ts := xT) (b := b) (As := As) (rest := rest) (g := F0 m pc ls (As.reverse ++ .ref b :: rest)) ⟨hx, hb, hml, hown, hts⟩ hM ⟨va_cnB n hts (xGood hwc) rfl rfl rfl (hE.2.1 _ hwl) (hts _ hwi) ⟨hwm.1, hwm.2, hwn⟩ hrm, hw4, hts _ hw3⟩ ⟨xPc.blind, fun U hU hW => ⟨rfl, by rw [hU]; exact Nat.le_trans hz hS.1, by rw [hU]; exact hR, xE.moved hW hE⟩⟩ rfl hn hl.1 rfl (lv_room h8) hd hbud) hS (fun v h' H1 locs1 hq hR1 hS1 => ?_)
    exact kk v h' hq H1 locs1 (cells + mc') (slots + ms') ls hR1 hS1 (by omega) (by omega) hl
theorem x_callS {ci N : Nat} {T : u_T} {fs : List Value} (C : xCtx V K cc own nL d ini ret sc post) (hwl : xLk own idx y) (hw : xY 2 y ccy nLy rety n) (hd : decode cc pc = .ok (.invokestatic idx, 3)) (hM : xM V y ccy nLy rety d' As h mc' ms' Qp) (hst : st = As.reverse ++ rest) (hn : As.length = n) (hd' : d' + 1 ≤ d) (hnl : nLy ≤ 11) (h8 : (rest.map fun v => v.category).sum ≤ 8)
    (kk : ∀ (v : Option Value) (h' : xH), Qp v h' → K mc ms h' (pc + 3) lv (v.toList ++ rest)) : K (mc + mc') (ms + ms') h pc lv st := by
  obtain ⟨⟨p, e, R, s, m, args, below, meth, c, Q, ⟨hx, hb, hml, hown, hts, hE, hz, hdF, hdL⟩, hin, hsc, rfl⟩, -⟩ := C
  intro H locs cells slots ls hR hS hmc hms hl
  subst hst
  obtain ⟨hwc, hwi, hwm, hwn, hw0, hw1, hw2⟩ := hw
  have hrm : (xRm d' mc' ms').frames + 1 ≤ R.frames ∧ 8 + (nLy + 11) + (xRm d' mc' ms').locals ≤ R.locals := ⟨by show d' + 1 ≤ R.frames; omega, by show 8 + (nLy + 11) + 30 * d' ≤ R.locals; omega⟩
  have hbud : cells + mc' ≤ R.cells ∧ slots + ms' ≤ R.slots := ⟨by omega, by omega⟩
  have hw3 := hw2 rfl
  rcases hwl with hwl | ⟨host, hwl⟩
  · refine x_run (va_runS (cc := cc) (nL := nL) (own := own) (Ts := xT) (As := As) (rest := rest) (g := F0 m pc ls (As.reverse ++ rest)) ⟨hx, hb, hml, hown, hts⟩ hM ⟨callB_of n hts (xGood hwc) rfl rfl rfl (hts _ hwi) (hts _ hwl) ⟨hwm.1, hwm.2, hwn⟩ hrm, hts _ hw3⟩ ⟨xPc.blind, fun U hU hW => ⟨rfl, by rw [hU]; exact Nat.le_trans hz hS.1, by rw [hU]; exact hR, xE.moved hW hE⟩⟩ rfl hn hl.1 rfl (lv_room h8) hd hbud) hS (fun v h' H1 locs1 hq hR1 hS1 => ?_)
    exact kk v h' hq H1 locs1 (cells + mc') (slots + ms') ls hR1 hS1 (by omega) (by omega) hl
  · refine x_run (va_runSN (cc := cc) (nL := nL) (own := own) (Ts := xT) (As := As) (rest := rest) (g := F0 m pc ls (As.reverse ++ rest)) ⟨hx, hb, hml, hown, hts⟩ hM ⟨va_cnB n hts (xGood hwc) rfl rfl rfl (hE.2.1 _ hwl) (hts _ hwi) ⟨hwm.1, hwm.2, hwn⟩ hrm, hts _ hw3, trivial⟩ ⟨xPc.blind, fun U hU hW => ⟨rfl, by rw [hU]; exact Nat.le_trans hz hS.1, by rw [hU]; exact hR, xE.moved hW hE⟩⟩ rfl hn hl.1 rfl (lv_room h8) hd hbud) hS (fun v h' H1 locs1 hq hR1 hS1 => ?_)
    exact kk v h' hq H1 locs1 (cells + mc') (slots + ms') ls hR1 hS1 (by omega) (by omega) hl
end XC
end
section
/-! SITES, by my program (wip/whole/gen_sites.py): what the pool entries name -/
theorem xinN {i : Nat} {w : Cond} (h : tables_1[i]? = some w) (hg : xnw w = true) : w ∈ xNN := List.mem_filter.mpr ⟨List.mem_append_right _ (List.mem_of_getElem? h), hg⟩
theorem xinP {i : Nat} {w : Cond} (h : (k2_sels lw_privs)[i]? = some w) (hg : goodWord w = true) : w ∈ xT := List.mem_filter.mpr ⟨List.mem_append_left _ (List.mem_of_getElem? h), hg⟩
theorem k_Op_0 : u_lay R_Op F_Op 0 ∈ xT := xin (i := 239) (by decide +kernel) rfl
theorem k_Op_1 : u_lay R_Op F_Op 1 ∈ xT := xin (i := 241) (by decide +kernel) rfl
theorem k_Op_w : ∀ w ∈ u_ws R_Op F_Op 2, w ∈ xT := by
  show ∀ w ∈ [u_lay R_Op F_Op 0, u_lay R_Op F_Op 1], w ∈ xT
  exact List.forall_mem_cons.mpr ⟨k_Op_0, List.forall_mem_cons.mpr ⟨k_Op_1, fun _ h => absurd h List.not_mem_nil⟩⟩
theorem k_Op : xCls 0 R_Op F_Op 2 t_Op := ⟨rfl, k_Op_w, by decide +kernel, by decide +kernel⟩
theorem n_Op : Cond.instantiable R_Op 2 ∈ xT ∧ Cond.initialized R_Op ∈ xT := ⟨xin (i := 232) (by decide +kernel) rfl, xin (i := 13) (by decide +kernel) rfl⟩
theorem k_Cn_0 : u_lay R_Cn F_Cn 0 ∈ xT := xin (i := 253) (by decide +kernel) rfl
theorem k_Cn_1 : u_lay R_Cn F_Cn 1 ∈ xT := xin (i := 255) (by decide +kernel) rfl
theorem k_Cn_2 : u_lay R_Cn F_Cn 2 ∈ xT := xin (i := 257) (by decide +kernel) rfl
theorem k_Cn_w : ∀ w ∈ u_ws R_Cn F_Cn 3, w ∈ xT := by
  show ∀ w ∈ [u_lay R_Cn F_Cn 0, u_lay R_Cn F_Cn 1, u_lay R_Cn F_Cn 2], w ∈ xT
  exact List.forall_mem_cons.mpr ⟨k_Cn_0, List.forall_mem_cons.mpr ⟨k_Cn_1, List.forall_mem_cons.mpr ⟨k_Cn_2, fun _ h => absurd h List.not_mem_nil⟩⟩⟩
theorem k_Cn : xCls 1 R_Cn F_Cn 3 t_Cn := ⟨rfl, k_Cn_w, by decide +kernel, by decide +kernel⟩
theorem n_Cn : Cond.instantiable R_Cn 3 ∈ xT ∧ Cond.initialized R_Cn ∈ xT := ⟨xin (i := 245) (by decide +kernel) rfl, xin (i := 14) (by decide +kernel) rfl⟩
theorem k_Pa_0 : u_lay R_Pa F_Pa 0 ∈ xT := xin (i := 176) (by decide +kernel) rfl
theorem k_Pa_1 : u_lay R_Pa F_Pa 1 ∈ xT := xin (i := 178) (by decide +kernel) rfl
theorem k_Pa_2 : u_lay R_Pa F_Pa 2 ∈ xT := xin (i := 180) (by decide +kernel) rfl
theorem k_Pa_w : ∀ w ∈ u_ws R_Pa F_Pa 3, w ∈ xT := by
  show ∀ w ∈ [u_lay R_Pa F_Pa 0, u_lay R_Pa F_Pa 1, u_lay R_Pa F_Pa 2], w ∈ xT
  exact List.forall_mem_cons.mpr ⟨k_Pa_0, List.forall_mem_cons.mpr ⟨k_Pa_1, List.forall_mem_cons.mpr ⟨k_Pa_2, fun _ h => absurd h List.not_mem_nil⟩⟩⟩
theorem k_Pa : xCls 2 R_Pa F_Pa 3 t_Pa := ⟨rfl, k_Pa_w, by decide +kernel, by decide +kernel⟩
theorem n_Pa : Cond.instantiable R_Pa 3 ∈ xT ∧ Cond.initialized R_Pa ∈ xT := ⟨xin (i := 111) (by decide +kernel) rfl, xin (i := 11) (by decide +kernel) rfl⟩
theorem k_Ru_0 : u_lay R_Ru F_Ru 0 ∈ xT := xin (i := 79) (by decide +kernel) rfl
theorem k_Ru_1 : u_lay R_Ru F_Ru 1 ∈ xT := xin (i := 81) (by decide +kernel) rfl
theorem k_Ru_2 : u_lay R_Ru F_Ru 2 ∈ xT := xin (i := 83) (by decide +kernel) rfl
theorem k_Ru_3 : u_lay R_Ru F_Ru 3 ∈ xT := xin (i := 85) (by decide +kernel) rfl
theorem k_Ru_4 : u_lay R_Ru F_Ru 4 ∈ xT := xin (i := 87) (by decide +kernel) rfl
theorem k_Ru_5 : u_lay R_Ru F_Ru 5 ∈ xT := xin (i := 89) (by decide +kernel) rfl
theorem k_Ru_6 : u_lay R_Ru F_Ru 6 ∈ xT := xin (i := 91) (by decide +kernel) rfl
theorem k_Ru_7 : u_lay R_Ru F_Ru 7 ∈ xT := xin (i := 93) (by decide +kernel) rfl
theorem k_Ru_w : ∀ w ∈ u_ws R_Ru F_Ru 8, w ∈ xT := by
  show ∀ w ∈ [u_lay R_Ru F_Ru 0, u_lay R_Ru F_Ru 1, u_lay R_Ru F_Ru 2, u_lay R_Ru F_Ru 3, u_lay R_Ru F_Ru 4, u_lay R_Ru F_Ru 5, u_lay R_Ru F_Ru 6, u_lay R_Ru F_Ru 7], w ∈ xT
  exact List.forall_mem_cons.mpr ⟨k_Ru_0, List.forall_mem_cons.mpr ⟨k_Ru_1, List.forall_mem_cons.mpr ⟨k_Ru_2, List.forall_mem_cons.mpr ⟨k_Ru_3, List.forall_mem_cons.mpr ⟨k_Ru_4, List.forall_mem_cons.mpr ⟨k_Ru_5, List.forall_mem_cons.mpr ⟨k_Ru_6, List.forall_mem_cons.mpr ⟨k_Ru_7, fun _ h => absurd h List.not_mem_nil⟩⟩⟩⟩⟩⟩⟩⟩
theorem k_Ru : xCls 3 R_Ru F_Ru 8 t_Ru := ⟨rfl, k_Ru_w, by decide +kernel, by decide +kernel⟩
theorem n_Ru : Cond.instantiable R_Ru 8 ∈ xT ∧ Cond.initialized R_Ru ∈ xT := ⟨xin (i := 63) (by decide +kernel) rfl, xin (i := 4) (by decide +kernel) rfl⟩
theorem k_St_0 : u_lay R_St F_St 0 ∈ xT := xin (i := 150) (by decide +kernel) rfl
theorem k_St_1 : u_lay R_St F_St 1 ∈ xT := xin (i := 152) (by decide +kernel) rfl
theorem k_St_2 : u_lay R_St F_St 2 ∈ xT := xin (i := 154) (by decide +kernel) rfl
theorem k_St_3 : u_lay R_St F_St 3 ∈ xT := xin (i := 156) (by decide +kernel) rfl
theorem k_St_4 : u_lay R_St F_St 4 ∈ xT := xin (i := 158) (by decide +kernel) rfl
theorem k_St_5 : u_lay R_St F_St 5 ∈ xT := xin (i := 160) (by decide +kernel) rfl
theorem k_St_6 : u_lay R_St F_St 6 ∈ xT := xin (i := 162) (by decide +kernel) rfl
theorem k_St_7 : u_lay R_St F_St 7 ∈ xT := xin (i := 164) (by decide +kernel) rfl
theorem k_St_8 : u_lay R_St F_St 8 ∈ xT := xin (i := 166) (by decide +kernel) rfl
theorem k_St_9 : u_lay R_St F_St 9 ∈ xT := xin (i := 168) (by decide +kernel) rfl
theorem k_St_10 : u_lay R_St F_St 10 ∈ xT := xin (i := 170) (by decide +kernel) rfl
theorem k_St_w : ∀ w ∈ u_ws R_St F_St 11, w ∈ xT := by
  show ∀ w ∈ [u_lay R_St F_St 0, u_lay R_St F_St 1, u_lay R_St F_St 2, u_lay R_St F_St 3, u_lay R_St F_St 4, u_lay R_St F_St 5, u_lay R_St F_St 6, u_lay R_St F_St 7, u_lay R_St F_St 8, u_lay R_St F_St 9, u_lay R_St F_St 10], w ∈ xT
  exact List.forall_mem_cons.mpr ⟨k_St_0, List.forall_mem_cons.mpr ⟨k_St_1, List.forall_mem_cons.mpr ⟨k_St_2, List.forall_mem_cons.mpr ⟨k_St_3, List.forall_mem_cons.mpr ⟨k_St_4, List.forall_mem_cons.mpr ⟨k_St_5, List.forall_mem_cons.mpr ⟨k_St_6, List.forall_mem_cons.mpr ⟨k_St_7, List.forall_mem_cons.mpr ⟨k_St_8, List.forall_mem_cons.mpr ⟨k_St_9, List.forall_mem_cons.mpr ⟨k_St_10, fun _ h => absurd h List.not_mem_nil⟩⟩⟩⟩⟩⟩⟩⟩⟩⟩⟩
theorem k_St : xCls 4 R_St F_St 11 t_St := ⟨rfl, k_St_w, by decide +kernel, by decide +kernel⟩
theorem n_St : Cond.instantiable R_St 11 ∈ xT ∧ Cond.initialized R_St ∈ xT := ⟨xin (i := 117) (by decide +kernel) rfl, xin (i := 12) (by decide +kernel) rfl⟩
theorem k_Ta_0 : u_lay R_Ta F_Ta 0 ∈ xT := xin (i := 55) (by decide +kernel) rfl
theorem k_Ta_1 : u_lay R_Ta F_Ta 1 ∈ xT := xin (i := 57) (by decide +kernel) rfl
theorem k_Ta_2 : u_lay R_Ta F_Ta 2 ∈ xT := xin (i := 59) (by decide +kernel) rfl
theorem k_Ta_w : ∀ w ∈ u_ws R_Ta F_Ta 3, w ∈ xT := by
  show ∀ w ∈ [u_lay R_Ta F_Ta 0, u_lay R_Ta F_Ta 1, u_lay R_Ta F_Ta 2], w ∈ xT
  exact List.forall_mem_cons.mpr ⟨k_Ta_0, List.forall_mem_cons.mpr ⟨k_Ta_1, List.forall_mem_cons.mpr ⟨k_Ta_2, fun _ h => absurd h List.not_mem_nil⟩⟩⟩
theorem k_Ta : xCls 5 R_Ta F_Ta 3 t_Ta := ⟨rfl, k_Ta_w, by decide +kernel, by decide +kernel⟩
theorem n_Ta : Cond.instantiable R_Ta 3 ∈ xT ∧ Cond.initialized R_Ta ∈ xT := ⟨xin (i := 47) (by decide +kernel) rfl, xin (i := 3) (by decide +kernel) rfl⟩
theorem k_To_0 : u_lay R_To F_To 0 ∈ xT := xin (i := 38) (by decide +kernel) rfl
theorem k_To_1 : u_lay R_To F_To 1 ∈ xT := xin (i := 40) (by decide +kernel) rfl
theorem k_To_2 : u_lay R_To F_To 2 ∈ xT := xin (i := 42) (by decide +kernel) rfl
theorem k_To_w : ∀ w ∈ u_ws R_To F_To 3, w ∈ xT := by
  show ∀ w ∈ [u_lay R_To F_To 0, u_lay R_To F_To 1, u_lay R_To F_To 2], w ∈ xT
  exact List.forall_mem_cons.mpr ⟨k_To_0, List.forall_mem_cons.mpr ⟨k_To_1, List.forall_mem_cons.mpr ⟨k_To_2, fun _ h => absurd h List.not_mem_nil⟩⟩⟩
theorem k_To : xCls 6 R_To F_To 3 t_To := ⟨rfl, k_To_w, by decide +kernel, by decide +kernel⟩
theorem n_To : Cond.instantiable R_To 3 ∈ xT ∧ Cond.initialized R_To ∈ xT := ⟨xin (i := 26) (by decide +kernel) rfl, xin (i := 2) (by decide +kernel) rfl⟩
theorem k_CB_0 : u_lay R_CB F_CB 0 ∈ xT := xin (i := 99) (by decide +kernel) rfl
theorem k_CB_1 : u_lay R_CB F_CB 1 ∈ xT := xin (i := 101) (by decide +kernel) rfl
theorem k_CB_2 : u_lay R_CB F_CB 2 ∈ xT := xin (i := 103) (by decide +kernel) rfl
theorem k_CB_w : ∀ w ∈ u_ws R_CB F_CB 3, w ∈ xT := by
  show ∀ w ∈ [u_lay R_CB F_CB 0, u_lay R_CB F_CB 1, u_lay R_CB F_CB 2], w ∈ xT
  exact List.forall_mem_cons.mpr ⟨k_CB_0, List.forall_mem_cons.mpr ⟨k_CB_1, List.forall_mem_cons.mpr ⟨k_CB_2, fun _ h => absurd h List.not_mem_nil⟩⟩⟩
theorem k_CB : xCls 7 R_CB F_CB 3 t_CB := ⟨rfl, k_CB_w, by decide +kernel, by decide +kernel⟩
theorem n_CB : Cond.instantiable R_CB 3 ∈ xT ∧ Cond.initialized R_CB ∈ xT := ⟨xin (i := 18) (by decide +kernel) rfl, xin (i := 1) (by decide +kernel) rfl⟩
theorem k_Mo_0 : u_lay R_Mo F_Mo 0 ∈ xT := xin (i := 663) (by decide +kernel) rfl
theorem k_Mo_1 : u_lay R_Mo F_Mo 1 ∈ xT := xin (i := 665) (by decide +kernel) rfl
theorem k_Mo_2 : u_lay R_Mo F_Mo 2 ∈ xT := xin (i := 667) (by decide +kernel) rfl
theorem k_Mo_3 : u_lay R_Mo F_Mo 3 ∈ xT := xin (i := 669) (by decide +kernel) rfl
theorem k_Mo_4 : u_lay R_Mo F_Mo 4 ∈ xT := xin (i := 671) (by decide +kernel) rfl
theorem k_Mo_5 : u_lay R_Mo F_Mo 5 ∈ xT := xin (i := 673) (by decide +kernel) rfl
theorem k_Mo_6 : u_lay R_Mo F_Mo 6 ∈ xT := xin (i := 675) (by decide +kernel) rfl
theorem k_Mo_7 : u_lay R_Mo F_Mo 7 ∈ xT := xin (i := 677) (by decide +kernel) rfl
theorem k_Mo_8 : u_lay R_Mo F_Mo 8 ∈ xT := xin (i := 679) (by decide +kernel) rfl
theorem k_Mo_9 : u_lay R_Mo F_Mo 9 ∈ xT := xin (i := 681) (by decide +kernel) rfl
theorem k_Mo_10 : u_lay R_Mo F_Mo 10 ∈ xT := xin (i := 683) (by decide +kernel) rfl
theorem k_Mo_11 : u_lay R_Mo F_Mo 11 ∈ xT := xin (i := 685) (by decide +kernel) rfl
theorem k_Mo_12 : u_lay R_Mo F_Mo 12 ∈ xT := xin (i := 687) (by decide +kernel) rfl
theorem k_Mo_13 : u_lay R_Mo F_Mo 13 ∈ xT := xin (i := 689) (by decide +kernel) rfl
theorem k_Mo_14 : u_lay R_Mo F_Mo 14 ∈ xT := xin (i := 691) (by decide +kernel) rfl
theorem k_Mo_15 : u_lay R_Mo F_Mo 15 ∈ xT := xin (i := 693) (by decide +kernel) rfl
theorem k_Mo_16 : u_lay R_Mo F_Mo 16 ∈ xT := xin (i := 695) (by decide +kernel) rfl
theorem k_Mo_17 : u_lay R_Mo F_Mo 17 ∈ xT := xin (i := 697) (by decide +kernel) rfl
theorem k_Mo_18 : u_lay R_Mo F_Mo 18 ∈ xT := xin (i := 699) (by decide +kernel) rfl
theorem k_Mo_19 : u_lay R_Mo F_Mo 19 ∈ xT := xin (i := 701) (by decide +kernel) rfl
theorem k_Mo_20 : u_lay R_Mo F_Mo 20 ∈ xT := xin (i := 703) (by decide +kernel) rfl
theorem k_Mo_21 : u_lay R_Mo F_Mo 21 ∈ xT := xin (i := 705) (by decide +kernel) rfl
theorem k_Mo_22 : u_lay R_Mo F_Mo 22 ∈ xT := xin (i := 707) (by decide +kernel) rfl
theorem k_Mo_23 : u_lay R_Mo F_Mo 23 ∈ xT := xin (i := 709) (by decide +kernel) rfl
theorem k_Mo_24 : u_lay R_Mo F_Mo 24 ∈ xT := xin (i := 711) (by decide +kernel) rfl
theorem k_Mo_25 : u_lay R_Mo F_Mo 25 ∈ xT := xin (i := 713) (by decide +kernel) rfl
theorem k_Mo_26 : u_lay R_Mo F_Mo 26 ∈ xT := xin (i := 715) (by decide +kernel) rfl
theorem k_Mo_27 : u_lay R_Mo F_Mo 27 ∈ xT := xin (i := 717) (by decide +kernel) rfl
theorem k_Mo_28 : u_lay R_Mo F_Mo 28 ∈ xT := xin (i := 719) (by decide +kernel) rfl
theorem k_Mo_w : ∀ w ∈ u_ws R_Mo F_Mo 29, w ∈ xT := by
  show ∀ w ∈ [u_lay R_Mo F_Mo 0, u_lay R_Mo F_Mo 1, u_lay R_Mo F_Mo 2, u_lay R_Mo F_Mo 3, u_lay R_Mo F_Mo 4, u_lay R_Mo F_Mo 5, u_lay R_Mo F_Mo 6, u_lay R_Mo F_Mo 7, u_lay R_Mo F_Mo 8, u_lay R_Mo F_Mo 9, u_lay R_Mo F_Mo 10, u_lay R_Mo F_Mo 11, u_lay R_Mo F_Mo 12, u_lay R_Mo F_Mo 13, u_lay R_Mo F_Mo 14, u_lay R_Mo F_Mo 15, u_lay R_Mo F_Mo 16, u_lay R_Mo F_Mo 17, u_lay R_Mo F_Mo 18, u_lay R_Mo F_Mo 19, u_lay R_Mo F_Mo 20, u_lay R_Mo F_Mo 21, u_lay R_Mo F_Mo 22, u_lay R_Mo F_Mo 23, u_lay R_Mo F_Mo 24, u_lay R_Mo F_Mo 25, u_lay R_Mo F_Mo 26, u_lay R_Mo F_Mo 27, u_lay R_Mo F_Mo 28], w ∈ xT
  exact List.forall_mem_cons.mpr ⟨k_Mo_0, List.forall_mem_cons.mpr ⟨k_Mo_1, List.forall_mem_cons.mpr ⟨k_Mo_2, List.forall_mem_cons.mpr ⟨k_Mo_3, List.forall_mem_cons.mpr ⟨k_Mo_4, List.forall_mem_cons.mpr ⟨k_Mo_5, List.forall_mem_cons.mpr ⟨k_Mo_6, List.forall_mem_cons.mpr ⟨k_Mo_7, List.forall_mem_cons.mpr ⟨k_Mo_8, List.forall_mem_cons.mpr ⟨k_Mo_9, List.forall_mem_cons.mpr ⟨k_Mo_10, List.forall_mem_cons.mpr ⟨k_Mo_11, List.forall_mem_cons.mpr ⟨k_Mo_12, List.forall_mem_cons.mpr ⟨k_Mo_13, List.forall_mem_cons.mpr ⟨k_Mo_14, List.forall_mem_cons.mpr ⟨k_Mo_15, List.forall_mem_cons.mpr ⟨k_Mo_16, List.forall_mem_cons.mpr ⟨k_Mo_17, List.forall_mem_cons.mpr ⟨k_Mo_18, List.forall_mem_cons.mpr ⟨k_Mo_19, List.forall_mem_cons.mpr ⟨k_Mo_20, List.forall_mem_cons.mpr ⟨k_Mo_21, List.forall_mem_cons.mpr ⟨k_Mo_22, List.forall_mem_cons.mpr ⟨k_Mo_23, List.forall_mem_cons.mpr ⟨k_Mo_24, List.forall_mem_cons.mpr ⟨k_Mo_25, List.forall_mem_cons.mpr ⟨k_Mo_26, List.forall_mem_cons.mpr ⟨k_Mo_27, List.forall_mem_cons.mpr ⟨k_Mo_28, fun _ h => absurd h List.not_mem_nil⟩⟩⟩⟩⟩⟩⟩⟩⟩⟩⟩⟩⟩⟩⟩⟩⟩⟩⟩⟩⟩⟩⟩⟩⟩⟩⟩⟩⟩
theorem k_Mo : xCls 8 R_Mo F_Mo 29 t_Mo := ⟨rfl, k_Mo_w, by decide +kernel, by decide +kernel⟩
theorem n_Mo : Cond.instantiable R_Mo 29 ∈ xT ∧ Cond.initialized R_Mo ∈ xT := ⟨xin (i := 629) (by decide +kernel) rfl, xin (i := 5) (by decide +kernel) rfl⟩
theorem n_La : Cond.initialized R_La ∈ xT := xin (i := 0) (by decide +kernel) rfl
theorem ac_int : Cond.arrayClass .int ∈ xT := xin (i := 45) (by decide +kernel) rfl
theorem ac_long : Cond.arrayClass .long ∈ xT := xin (i := 883) (by decide +kernel) rfl
theorem c_La_8 : Cond.classLink R_La 8 R_CB ∈ xT := xin (i := 17) (by decide +kernel) rfl
theorem c_CB_7 : Cond.classLink R_CB 7 R_To ∈ xT := xin (i := 25) (by decide +kernel) rfl
theorem f_To_9 : xFl R_To 9 R_To F_To 3 0 := ⟨by decide, rfl, Or.inl (xin (i := 31) (by decide +kernel) rfl)⟩
theorem g_To_9 : 0 < 3 ∧ (F_To 0).1 = R_To ∧ Cond.fieldLink R_To 9 R_To (F_To 0).2.1 (F_To 0).2.2.1 ∈ xT := ⟨by decide, rfl, xin (i := 31) (by decide +kernel) rfl⟩
theorem f_Pa_124 : xFl R_Pa 124 R_To F_To 3 0 := ⟨by decide, rfl, Or.inr ⟨"CursorBase", xinN (i := 32) (by decide +kernel) rfl⟩⟩
theorem f_To_15 : xFl R_To 15 R_To F_To 3 1 := ⟨by decide, rfl, Or.inl (xin (i := 33) (by decide +kernel) rfl)⟩
theorem g_To_15 : 1 < 3 ∧ (F_To 1).1 = R_To ∧ Cond.fieldLink R_To 15 R_To (F_To 1).2.1 (F_To 1).2.2.1 ∈ xT := ⟨by decide, rfl, xin (i := 33) (by decide +kernel) rfl⟩
theorem f_Pa_79 : xFl R_Pa 79 R_To F_To 3 1 := ⟨by decide, rfl, Or.inr ⟨"CursorBase", xinN (i := 34) (by decide +kernel) rfl⟩⟩
theorem f_CB_54 : xFl R_CB 54 R_To F_To 3 2 := ⟨by decide, rfl, Or.inr ⟨"CursorBase", xinN (i := 35) (by decide +kernel) rfl⟩⟩
theorem f_Pa_55 : xFl R_Pa 55 R_To F_To 3 2 := ⟨by decide, rfl, Or.inr ⟨"CursorBase", xinN (i := 36) (by decide +kernel) rfl⟩⟩
theorem f_To_22 : xFl R_To 22 R_To F_To 3 2 := ⟨by decide, rfl, Or.inl (xin (i := 37) (by decide +kernel) rfl)⟩
theorem c_CB_16 : Cond.classLink R_CB 16 R_Ta ∈ xT := xin (i := 46) (by decide +kernel) rfl
theorem f_Ta_9 : xFl R_Ta 9 R_Ta F_Ta 3 0 := ⟨by decide, rfl, Or.inl (xin (i := 52) (by decide +kernel) rfl)⟩
theorem g_Ta_9 : 0 < 3 ∧ (F_Ta 0).1 = R_Ta ∧ Cond.fieldLink R_Ta 9 R_Ta (F_Ta 0).2.1 (F_Ta 0).2.2.1 ∈ xT := ⟨by decide, rfl, xin (i := 52) (by decide +kernel) rfl⟩
theorem f_Ta_15 : xFl R_Ta 15 R_Ta F_Ta 3 1 := ⟨by decide, rfl, Or.inl (xin (i := 53) (by decide +kernel) rfl)⟩
theorem g_Ta_15 : 1 < 3 ∧ (F_Ta 1).1 = R_Ta ∧ Cond.fieldLink R_Ta 15 R_Ta (F_Ta 1).2.1 (F_Ta 1).2.2.1 ∈ xT := ⟨by decide, rfl, xin (i := 53) (by decide +kernel) rfl⟩
theorem f_Ta_18 : xFl R_Ta 18 R_Ta F_Ta 3 2 := ⟨by decide, rfl, Or.inl (xin (i := 54) (by decide +kernel) rfl)⟩
theorem g_Ta_18 : 2 < 3 ∧ (F_Ta 2).1 = R_Ta ∧ Cond.fieldLink R_Ta 18 R_Ta (F_Ta 2).2.1 (F_Ta 2).2.2.1 ∈ xT := ⟨by decide, rfl, xin (i := 54) (by decide +kernel) rfl⟩
theorem c_CB_23 : Cond.classLink R_CB 23 R_Ru ∈ xT := xin (i := 62) (by decide +kernel) rfl
theorem f_Ru_15 : xFl R_Ru 15 R_Ru F_Ru 8 0 := ⟨by decide, rfl, Or.inl (xin (i := 68) (by decide +kernel) rfl)⟩
theorem f_CB_84 : xFl R_CB 84 R_Ru F_Ru 8 0 := ⟨by decide, rfl, Or.inr ⟨"CursorBase", xinN (i := 69) (by decide +kernel) rfl⟩⟩
theorem f_Ru_19 : xFl R_Ru 19 R_Ru F_Ru 8 1 := ⟨by decide, rfl, Or.inl (xin (i := 70) (by decide +kernel) rfl)⟩
theorem f_CB_93 : xFl R_CB 93 R_Ru F_Ru 8 1 := ⟨by decide, rfl, Or.inr ⟨"CursorBase", xinN (i := 71) (by decide +kernel) rfl⟩⟩
theorem f_Ru_23 : xFl R_Ru 23 R_Ru F_Ru 8 2 := ⟨by decide, rfl, Or.inl (xin (i := 72) (by decide +kernel) rfl)⟩
theorem f_CB_100 : xFl R_CB 100 R_Ru F_Ru 8 2 := ⟨by decide, rfl, Or.inr ⟨"CursorBase", xinN (i := 73) (by decide +kernel) rfl⟩⟩
theorem f_Ru_27 : xFl R_Ru 27 R_Ru F_Ru 8 3 := ⟨by decide, rfl, Or.inl (xin (i := 74) (by decide +kernel) rfl)⟩
theorem f_Ru_30 : xFl R_Ru 30 R_Ru F_Ru 8 4 := ⟨by decide, rfl, Or.inl (xin (i := 75) (by decide +kernel) rfl)⟩
theorem f_Ru_33 : xFl R_Ru 33 R_Ru F_Ru 8 5 := ⟨by decide, rfl, Or.inl (xin (i := 76) (by decide +kernel) rfl)⟩
theorem f_Ru_95 : xFl R_Ru 95 R_Ru F_Ru 8 6 := ⟨by decide, rfl, Or.inl (xin (i := 77) (by decide +kernel) rfl)⟩
theorem f_Ru_9 : xFl R_Ru 9 R_Ru F_Ru 8 7 := ⟨by decide, rfl, Or.inl (xin (i := 78) (by decide +kernel) rfl)⟩
theorem g_Ru_9 : 7 < 8 ∧ (F_Ru 7).1 = R_Ru ∧ Cond.fieldLink R_Ru 9 R_Ru (F_Ru 7).2.1 (F_Ru 7).2.2.1 ∈ xT := ⟨by decide, rfl, xin (i := 78) (by decide +kernel) rfl⟩
theorem f_CB_10 : xFl R_CB 10 R_CB F_CB 3 0 := ⟨by decide, rfl, Or.inl (xin (i := 96) (by decide +kernel) rfl)⟩
theorem g_CB_10 : 0 < 3 ∧ (F_CB 0).1 = R_CB ∧ Cond.fieldLink R_CB 10 R_CB (F_CB 0).2.1 (F_CB 0).2.2.1 ∈ xT := ⟨by decide, rfl, xin (i := 96) (by decide +kernel) rfl⟩
theorem f_CB_19 : xFl R_CB 19 R_CB F_CB 3 1 := ⟨by decide, rfl, Or.inl (xin (i := 97) (by decide +kernel) rfl)⟩
theorem g_CB_19 : 1 < 3 ∧ (F_CB 1).1 = R_CB ∧ Cond.fieldLink R_CB 19 R_CB (F_CB 1).2.1 (F_CB 1).2.2.1 ∈ xT := ⟨by decide, rfl, xin (i := 97) (by decide +kernel) rfl⟩
theorem f_CB_26 : xFl R_CB 26 R_CB F_CB 3 2 := ⟨by decide, rfl, Or.inl (xin (i := 98) (by decide +kernel) rfl)⟩
theorem g_CB_26 : 2 < 3 ∧ (F_CB 2).1 = R_CB ∧ Cond.fieldLink R_CB 26 R_CB (F_CB 2).2.1 (F_CB 2).2.2.1 ∈ xT := ⟨by decide, rfl, xin (i := 98) (by decide +kernel) rfl⟩
theorem c_CB_58 : Cond.classLink R_CB 58 R_Pa ∈ xT := xin (i := 110) (by decide +kernel) rfl
theorem c_Pa_9 : Cond.classLink R_Pa 9 R_St ∈ xT := xin (i := 116) (by decide +kernel) rfl
theorem c_St_25 : Cond.classLink R_St 25 R_Op ∈ xT := xin (i := 122) (by decide +kernel) rfl
theorem c_St_31 : Cond.classLink R_St 31 R_Cn ∈ xT := xin (i := 124) (by decide +kernel) rfl
theorem f_Pa_26 : xFl R_Pa 26 R_St F_St 11 0 := ⟨by decide, rfl, Or.inr ⟨"CursorBase", xinN (i := 126) (by decide +kernel) rfl⟩⟩
theorem f_Ru_36 : xFl R_Ru 36 R_St F_St 11 0 := ⟨by decide, rfl, Or.inr ⟨"CursorBase", xinN (i := 127) (by decide +kernel) rfl⟩⟩
theorem f_St_49 : xFl R_St 49 R_St F_St 11 0 := ⟨by decide, rfl, Or.inl (xin (i := 128) (by decide +kernel) rfl)⟩
theorem f_St_9 : xFl R_St 9 R_St F_St 11 1 := ⟨by decide, rfl, Or.inl (xin (i := 129) (by decide +kernel) rfl)⟩
theorem f_Ru_100 : xFl R_Ru 100 R_St F_St 11 1 := ⟨by decide, rfl, Or.inr ⟨"CursorBase", xinN (i := 130) (by decide +kernel) rfl⟩⟩
theorem f_Pa_93 : xFl R_Pa 93 R_St F_St 11 1 := ⟨by decide, rfl, Or.inr ⟨"CursorBase", xinN (i := 131) (by decide +kernel) rfl⟩⟩
theorem f_St_15 : xFl R_St 15 R_St F_St 11 2 := ⟨by decide, rfl, Or.inl (xin (i := 132) (by decide +kernel) rfl)⟩
theorem f_Ru_41 : xFl R_Ru 41 R_St F_St 11 2 := ⟨by decide, rfl, Or.inr ⟨"CursorBase", xinN (i := 133) (by decide +kernel) rfl⟩⟩
theorem f_Pa_83 : xFl R_Pa 83 R_St F_St 11 2 := ⟨by decide, rfl, Or.inr ⟨"CursorBase", xinN (i := 134) (by decide +kernel) rfl⟩⟩
theorem f_St_18 : xFl R_St 18 R_St F_St 11 3 := ⟨by decide, rfl, Or.inl (xin (i := 135) (by decide +kernel) rfl)⟩
theorem f_Pa_68 : xFl R_Pa 68 R_St F_St 11 3 := ⟨by decide, rfl, Or.inr ⟨"CursorBase", xinN (i := 136) (by decide +kernel) rfl⟩⟩
theorem f_Ru_113 : xFl R_Ru 113 R_St F_St 11 3 := ⟨by decide, rfl, Or.inr ⟨"CursorBase", xinN (i := 137) (by decide +kernel) rfl⟩⟩
theorem f_Pa_71 : xFl R_Pa 71 R_St F_St 11 4 := ⟨by decide, rfl, Or.inr ⟨"CursorBase", xinN (i := 138) (by decide +kernel) rfl⟩⟩
theorem f_Ru_119 : xFl R_Ru 119 R_St F_St 11 4 := ⟨by decide, rfl, Or.inr ⟨"CursorBase", xinN (i := 139) (by decide +kernel) rfl⟩⟩
theorem f_St_37 : xFl R_St 37 R_St F_St 11 5 := ⟨by decide, rfl, Or.inl (xin (i := 140) (by decide +kernel) rfl)⟩
theorem f_Pa_90 : xFl R_Pa 90 R_St F_St 11 5 := ⟨by decide, rfl, Or.inr ⟨"CursorBase", xinN (i := 141) (by decide +kernel) rfl⟩⟩
theorem f_St_21 : xFl R_St 21 R_St F_St 11 6 := ⟨by decide, rfl, Or.inl (xin (i := 142) (by decide +kernel) rfl)⟩
theorem g_St_21 : 6 < 11 ∧ (F_St 6).1 = R_St ∧ Cond.fieldLink R_St 21 R_St (F_St 6).2.1 (F_St 6).2.2.1 ∈ xT := ⟨by decide, rfl, xin (i := 142) (by decide +kernel) rfl⟩
theorem f_Ru_44 : xFl R_Ru 44 R_St F_St 11 6 := ⟨by decide, rfl, Or.inr ⟨"CursorBase", xinN (i := 143) (by decide +kernel) rfl⟩⟩
theorem f_St_40 : xFl R_St 40 R_St F_St 11 7 := ⟨by decide, rfl, Or.inl (xin (i := 144) (by decide +kernel) rfl)⟩
theorem f_Pa_102 : xFl R_Pa 102 R_St F_St 11 7 := ⟨by decide, rfl, Or.inr ⟨"CursorBase", xinN (i := 145) (by decide +kernel) rfl⟩⟩
theorem f_St_27 : xFl R_St 27 R_St F_St 11 8 := ⟨by decide, rfl, Or.inl (xin (i := 146) (by decide +kernel) rfl)⟩
theorem g_St_27 : 8 < 11 ∧ (F_St 8).1 = R_St ∧ Cond.fieldLink R_St 27 R_St (F_St 8).2.1 (F_St 8).2.2.1 ∈ xT := ⟨by decide, rfl, xin (i := 146) (by decide +kernel) rfl⟩
theorem f_Ru_103 : xFl R_Ru 103 R_St F_St 11 8 := ⟨by decide, rfl, Or.inr ⟨"CursorBase", xinN (i := 147) (by decide +kernel) rfl⟩⟩
theorem f_St_46 : xFl R_St 46 R_St F_St 11 9 := ⟨by decide, rfl, Or.inl (xin (i := 148) (by decide +kernel) rfl)⟩
theorem f_St_33 : xFl R_St 33 R_St F_St 11 10 := ⟨by decide, rfl, Or.inl (xin (i := 149) (by decide +kernel) rfl)⟩
theorem g_St_33 : 10 < 11 ∧ (F_St 10).1 = R_St ∧ Cond.fieldLink R_St 33 R_St (F_St 10).2.1 (F_St 10).2.2.1 ∈ xT := ⟨by decide, rfl, xin (i := 149) (by decide +kernel) rfl⟩
theorem f_Pa_18 : xFl R_Pa 18 R_Pa F_Pa 3 0 := ⟨by decide, rfl, Or.inl (xin (i := 173) (by decide +kernel) rfl)⟩
theorem g_Pa_18 : 0 < 3 ∧ (F_Pa 0).1 = R_Pa ∧ Cond.fieldLink R_Pa 18 R_Pa (F_Pa 0).2.1 (F_Pa 0).2.2.1 ∈ xT := ⟨by decide, rfl, xin (i := 173) (by decide +kernel) rfl⟩
theorem f_Pa_12 : xFl R_Pa 12 R_Pa F_Pa 3 1 := ⟨by decide, rfl, Or.inl (xin (i := 174) (by decide +kernel) rfl)⟩
theorem g_Pa_12 : 1 < 3 ∧ (F_Pa 1).1 = R_Pa ∧ Cond.fieldLink R_Pa 12 R_Pa (F_Pa 1).2.1 (F_Pa 1).2.2.1 ∈ xT := ⟨by decide, rfl, xin (i := 174) (by decide +kernel) rfl⟩
theorem f_Pa_52 : xFl R_Pa 52 R_Pa F_Pa 3 2 := ⟨by decide, rfl, Or.inl (xin (i := 175) (by decide +kernel) rfl)⟩
theorem c_Pa_122 : Cond.classLink R_Pa 122 R_Op ∈ xT := xin (i := 231) (by decide +kernel) rfl
theorem f_Op_9 : xFl R_Op 9 R_Op F_Op 2 0 := ⟨by decide, rfl, Or.inl (xin (i := 237) (by decide +kernel) rfl)⟩
theorem g_Op_9 : 0 < 2 ∧ (F_Op 0).1 = R_Op ∧ Cond.fieldLink R_Op 9 R_Op (F_Op 0).2.1 (F_Op 0).2.2.1 ∈ xT := ⟨by decide, rfl, xin (i := 237) (by decide +kernel) rfl⟩
theorem f_Op_15 : xFl R_Op 15 R_Op F_Op 2 1 := ⟨by decide, rfl, Or.inl (xin (i := 238) (by decide +kernel) rfl)⟩
theorem g_Op_15 : 1 < 2 ∧ (F_Op 1).1 = R_Op ∧ Cond.fieldLink R_Op 15 R_Op (F_Op 1).2.1 (F_Op 1).2.2.1 ∈ xT := ⟨by decide, rfl, xin (i := 238) (by decide +kernel) rfl⟩
theorem c_Pa_117 : Cond.classLink R_Pa 117 R_Cn ∈ xT := xin (i := 244) (by decide +kernel) rfl
theorem f_Cn_9 : xFl R_Cn 9 R_Cn F_Cn 3 0 := ⟨by decide, rfl, Or.inl (xin (i := 250) (by decide +kernel) rfl)⟩
theorem g_Cn_9 : 0 < 3 ∧ (F_Cn 0).1 = R_Cn ∧ Cond.fieldLink R_Cn 9 R_Cn (F_Cn 0).2.1 (F_Cn 0).2.2.1 ∈ xT := ⟨by decide, rfl, xin (i := 250) (by decide +kernel) rfl⟩
theorem f_Cn_15 : xFl R_Cn 15 R_Cn F_Cn 3 1 := ⟨by decide, rfl, Or.inl (xin (i := 251) (by decide +kernel) rfl)⟩
theorem g_Cn_15 : 1 < 3 ∧ (F_Cn 1).1 = R_Cn ∧ Cond.fieldLink R_Cn 15 R_Cn (F_Cn 1).2.1 (F_Cn 1).2.2.1 ∈ xT := ⟨by decide, rfl, xin (i := 251) (by decide +kernel) rfl⟩
theorem f_Cn_19 : xFl R_Cn 19 R_Cn F_Cn 3 2 := ⟨by decide, rfl, Or.inl (xin (i := 252) (by decide +kernel) rfl)⟩
theorem g_Cn_19 : 2 < 3 ∧ (F_Cn 2).1 = R_Cn ∧ Cond.fieldLink R_Cn 19 R_Cn (F_Cn 2).2.1 (F_Cn 2).2.2.1 ∈ xT := ⟨by decide, rfl, xin (i := 252) (by decide +kernel) rfl⟩
theorem q_Ru_99 : Cond.constant R_Ru 99 160000 ∈ xT := xin (i := 538) (by decide +kernel) rfl
theorem c_La_42 : Cond.classLink R_La 42 R_Mo ∈ xT := xin (i := 628) (by decide +kernel) rfl
theorem f_Mo_31 : xFl R_Mo 31 R_Mo F_Mo 29 0 := ⟨by decide, rfl, Or.inl (xin (i := 634) (by decide +kernel) rfl)⟩
theorem f_Mo_7 : xFl R_Mo 7 R_Mo F_Mo 29 1 := ⟨by decide, rfl, Or.inl (xin (i := 635) (by decide +kernel) rfl)⟩
theorem g_Mo_7 : 1 < 29 ∧ (F_Mo 1).1 = R_Mo ∧ Cond.fieldLink R_Mo 7 R_Mo (F_Mo 1).2.1 (F_Mo 1).2.2.1 ∈ xT := ⟨by decide, rfl, xin (i := 635) (by decide +kernel) rfl⟩
theorem f_Mo_13 : xFl R_Mo 13 R_Mo F_Mo 29 2 := ⟨by decide, rfl, Or.inl (xin (i := 636) (by decide +kernel) rfl)⟩
theorem g_Mo_13 : 2 < 29 ∧ (F_Mo 2).1 = R_Mo ∧ Cond.fieldLink R_Mo 13 R_Mo (F_Mo 2).2.1 (F_Mo 2).2.2.1 ∈ xT := ⟨by decide, rfl, xin (i := 636) (by decide +kernel) rfl⟩
theorem f_Mo_16 : xFl R_Mo 16 R_Mo F_Mo 29 3 := ⟨by decide, rfl, Or.inl (xin (i := 637) (by decide +kernel) rfl)⟩
theorem g_Mo_16 : 3 < 29 ∧ (F_Mo 3).1 = R_Mo ∧ Cond.fieldLink R_Mo 16 R_Mo (F_Mo 3).2.1 (F_Mo 3).2.2.1 ∈ xT := ⟨by decide, rfl, xin (i := 637) (by decide +kernel) rfl⟩
theorem f_Mo_159 : xFl R_Mo 159 R_Mo F_Mo 29 4 := ⟨by decide, rfl, Or.inl (xin (i := 638) (by decide +kernel) rfl)⟩
theorem f_Mo_19 : xFl R_Mo 19 R_Mo F_Mo 29 5 := ⟨by decide, rfl, Or.inl (xin (i := 639) (by decide +kernel) rfl)⟩
theorem g_Mo_19 : 5 < 29 ∧ (F_Mo 5).1 = R_Mo ∧ Cond.fieldLink R_Mo 19 R_Mo (F_Mo 5).2.1 (F_Mo 5).2.2.1 ∈ xT := ⟨by decide, rfl, xin (i := 639) (by decide +kernel) rfl⟩
theorem f_Mo_22 : xFl R_Mo 22 R_Mo F_Mo 29 6 := ⟨by decide, rfl, Or.inl (xin (i := 640) (by decide +kernel) rfl)⟩
theorem g_Mo_22 : 6 < 29 ∧ (F_Mo 6).1 = R_Mo ∧ Cond.fieldLink R_Mo 22 R_Mo (F_Mo 6).2.1 (F_Mo 6).2.2.1 ∈ xT := ⟨by decide, rfl, xin (i := 640) (by decide +kernel) rfl⟩
theorem f_Mo_49 : xFl R_Mo 49 R_Mo F_Mo 29 7 := ⟨by decide, rfl, Or.inl (xin (i := 641) (by decide +kernel) rfl)⟩
theorem f_Mo_25 : xFl R_Mo 25 R_Mo F_Mo 29 8 := ⟨by decide, rfl, Or.inl (xin (i := 642) (by decide +kernel) rfl)⟩
theorem g_Mo_25 : 8 < 29 ∧ (F_Mo 8).1 = R_Mo ∧ Cond.fieldLink R_Mo 25 R_Mo (F_Mo 8).2.1 (F_Mo 8).2.2.1 ∈ xT := ⟨by decide, rfl, xin (i := 642) (by decide +kernel) rfl⟩
theorem f_Mo_28 : xFl R_Mo 28 R_Mo F_Mo 29 9 := ⟨by decide, rfl, Or.inl (xin (i := 643) (by decide +kernel) rfl)⟩
theorem g_Mo_28 : 9 < 29 ∧ (F_Mo 9).1 = R_Mo ∧ Cond.fieldLink R_Mo 28 R_Mo (F_Mo 9).2.1 (F_Mo 9).2.2.1 ∈ xT := ⟨by decide, rfl, xin (i := 643) (by decide +kernel) rfl⟩
theorem f_Mo_112 : xFl R_Mo 112 R_Mo F_Mo 29 10 := ⟨by decide, rfl, Or.inl (xin (i := 644) (by decide +kernel) rfl)⟩
theorem f_Mo_130 : xFl R_Mo 130 R_Mo F_Mo 29 11 := ⟨by decide, rfl, Or.inl (xin (i := 645) (by decide +kernel) rfl)⟩
theorem f_Mo_115 : xFl R_Mo 115 R_Mo F_Mo 29 12 := ⟨by decide, rfl, Or.inl (xin (i := 646) (by decide +kernel) rfl)⟩
theorem f_Mo_118 : xFl R_Mo 118 R_Mo F_Mo 29 13 := ⟨by decide, rfl, Or.inl (xin (i := 647) (by decide +kernel) rfl)⟩
theorem f_Mo_121 : xFl R_Mo 121 R_Mo F_Mo 29 14 := ⟨by decide, rfl, Or.inl (xin (i := 648) (by decide +kernel) rfl)⟩
theorem f_Mo_124 : xFl R_Mo 124 R_Mo F_Mo 29 15 := ⟨by decide, rfl, Or.inl (xin (i := 649) (by decide +kernel) rfl)⟩
theorem f_Mo_127 : xFl R_Mo 127 R_Mo F_Mo 29 16 := ⟨by decide, rfl, Or.inl (xin (i := 650) (by decide +kernel) rfl)⟩
theorem f_Mo_136 : xFl R_Mo 136 R_Mo F_Mo 29 17 := ⟨by decide, rfl, Or.inl (xin (i := 651) (by decide +kernel) rfl)⟩
theorem f_Mo_139 : xFl R_Mo 139 R_Mo F_Mo 29 18 := ⟨by decide, rfl, Or.inl (xin (i := 652) (by decide +kernel) rfl)⟩
theorem f_Mo_142 : xFl R_Mo 142 R_Mo F_Mo 29 19 := ⟨by decide, rfl, Or.inl (xin (i := 653) (by decide +kernel) rfl)⟩
theorem f_Mo_145 : xFl R_Mo 145 R_Mo F_Mo 29 20 := ⟨by decide, rfl, Or.inl (xin (i := 654) (by decide +kernel) rfl)⟩
theorem f_Mo_148 : xFl R_Mo 148 R_Mo F_Mo 29 21 := ⟨by decide, rfl, Or.inl (xin (i := 655) (by decide +kernel) rfl)⟩
theorem f_Mo_172 : xFl R_Mo 172 R_Mo F_Mo 29 22 := ⟨by decide, rfl, Or.inl (xin (i := 656) (by decide +kernel) rfl)⟩
theorem f_Mo_52 : xFl R_Mo 52 R_Mo F_Mo 29 23 := ⟨by decide, rfl, Or.inl (xin (i := 657) (by decide +kernel) rfl)⟩
theorem f_Mo_82 : xFl R_Mo 82 R_Mo F_Mo 29 24 := ⟨by decide, rfl, Or.inl (xin (i := 658) (by decide +kernel) rfl)⟩
theorem f_Mo_85 : xFl R_Mo 85 R_Mo F_Mo 29 25 := ⟨by decide, rfl, Or.inl (xin (i := 659) (by decide +kernel) rfl)⟩
theorem f_Mo_62 : xFl R_Mo 62 R_Mo F_Mo 29 26 := ⟨by decide, rfl, Or.inl (xin (i := 660) (by decide +kernel) rfl)⟩
theorem f_Mo_65 : xFl R_Mo 65 R_Mo F_Mo 29 27 := ⟨by decide, rfl, Or.inl (xin (i := 661) (by decide +kernel) rfl)⟩
theorem f_Mo_91 : xFl R_Mo 91 R_Mo F_Mo 29 28 := ⟨by decide, rfl, Or.inl (xin (i := 662) (by decide +kernel) rfl)⟩
theorem q_Mo_35 : Cond.constantLong R_Mo 35 13 ∈ xT := xin (i := 730) (by decide +kernel) rfl
theorem q_Mo_41 : Cond.constantLong R_Mo 41 9 ∈ xT := xin (i := 734) (by decide +kernel) rfl
theorem q_Mo_43 : Cond.constantLong R_Mo 43 5 ∈ xT := xin (i := 735) (by decide +kernel) rfl
theorem q_Mo_45 : Cond.constantLong R_Mo 45 10 ∈ xT := xin (i := 736) (by decide +kernel) rfl
theorem q_Mo_47 : Cond.constantLong R_Mo 47 15 ∈ xT := xin (i := 737) (by decide +kernel) rfl
theorem q_Mo_104 : Cond.constantLong R_Mo 104 6 ∈ xT := xin (i := 786) (by decide +kernel) rfl
theorem v_CB_init : xY 1 y_CB_init b_CB_init 1 none 0 := ⟨xin (i := 21) (by decide +kernel) rfl, xin (i := 1) (by decide +kernel) rfl, ⟨by decide +kernel, by decide +kernel⟩, by decide +kernel, fun h => absurd h (by decide), fun _ => ⟨xin (i := 20) (by decide +kernel) rfl, rfl, rfl⟩, fun h => absurd h (by decide)⟩
theorem v_To_init : xY 1 y_To_init b_To_init 1 none 0 := ⟨xin (i := 29) (by decide +kernel) rfl, xin (i := 2) (by decide +kernel) rfl, ⟨by decide +kernel, by decide +kernel⟩, by decide +kernel, fun h => absurd h (by decide), fun _ => ⟨xin (i := 28) (by decide +kernel) rfl, rfl, rfl⟩, fun h => absurd h (by decide)⟩
theorem v_Ta_init : xY 1 y_Ta_init b_Ta_init 1 none 0 := ⟨xin (i := 50) (by decide +kernel) rfl, xin (i := 3) (by decide +kernel) rfl, ⟨by decide +kernel, by decide +kernel⟩, by decide +kernel, fun h => absurd h (by decide), fun _ => ⟨xin (i := 49) (by decide +kernel) rfl, rfl, rfl⟩, fun h => absurd h (by decide)⟩
theorem v_Ru_init : xY 1 y_Ru_init b_Ru_init 1 none 0 := ⟨xin (i := 66) (by decide +kernel) rfl, xin (i := 4) (by decide +kernel) rfl, ⟨by decide +kernel, by decide +kernel⟩, by decide +kernel, fun h => absurd h (by decide), fun _ => ⟨xin (i := 65) (by decide +kernel) rfl, rfl, rfl⟩, fun h => absurd h (by decide)⟩
theorem v_CB_prepare : xY 0 y_CB_prepare b_CB_prepare 3 (some .int) 0 := ⟨xin (i := 109) (by decide +kernel) rfl, xin (i := 1) (by decide +kernel) rfl, ⟨by decide +kernel, by decide +kernel⟩, by decide +kernel, fun _ => ⟨xin (i := 107) (by decide +kernel) rfl, xin (i := 108) (by decide +kernel) rfl⟩, fun h => absurd h (by decide), fun h => absurd h (by decide)⟩
theorem v_Pa_init : xY 1 y_Pa_init b_Pa_init 2 none 1 := ⟨xin (i := 114) (by decide +kernel) rfl, xin (i := 11) (by decide +kernel) rfl, ⟨by decide +kernel, by decide +kernel⟩, by decide +kernel, fun h => absurd h (by decide), fun _ => ⟨xin (i := 113) (by decide +kernel) rfl, rfl, rfl⟩, fun h => absurd h (by decide)⟩
theorem v_St_init : xY 1 y_St_init b_St_init 1 none 0 := ⟨xin (i := 120) (by decide +kernel) rfl, xin (i := 12) (by decide +kernel) rfl, ⟨by decide +kernel, by decide +kernel⟩, by decide +kernel, fun h => absurd h (by decide), fun _ => ⟨xin (i := 119) (by decide +kernel) rfl, rfl, rfl⟩, fun h => absurd h (by decide)⟩
theorem v_Pa_parse : xY 0 y_Pa_parse b_Pa_parse 2 (some (.object "CursorBase$Statement")) 0 := ⟨xin (i := 186) (by decide +kernel) rfl, xin (i := 11) (by decide +kernel) rfl, ⟨by decide +kernel, by decide +kernel⟩, by decide +kernel, fun _ => ⟨xin (i := 184) (by decide +kernel) rfl, xin (i := 185) (by decide +kernel) rfl⟩, fun h => absurd h (by decide), fun h => absurd h (by decide)⟩
theorem v_Pa_takeWordBetween : xY 0 y_Pa_takeWordBetween b_Pa_takeWordBetween 3 (some .int) 2 := ⟨xin (i := 190) (by decide +kernel) rfl, xin (i := 11) (by decide +kernel) rfl, ⟨by decide +kernel, by decide +kernel⟩, by decide +kernel, fun _ => ⟨xin (i := 189) (by decide +kernel) rfl, xinP (i := 0) (by decide +kernel) rfl⟩, fun h => absurd h (by decide), fun h => absurd h (by decide)⟩
theorem v_To_isKind : xY 0 y_To_isKind b_To_isKind 3 (some .boolean) 2 := ⟨xin (i := 194) (by decide +kernel) rfl, xin (i := 2) (by decide +kernel) rfl, ⟨by decide +kernel, by decide +kernel⟩, by decide +kernel, fun _ => ⟨xin (i := 192) (by decide +kernel) rfl, xin (i := 193) (by decide +kernel) rfl⟩, fun h => absurd h (by decide), fun h => absurd h (by decide)⟩
theorem v_Pa_takeFirstTable : xY 0 y_Pa_takeFirstTable b_Pa_takeFirstTable 1 (some .boolean) 0 := ⟨xin (i := 198) (by decide +kernel) rfl, xin (i := 11) (by decide +kernel) rfl, ⟨by decide +kernel, by decide +kernel⟩, by decide +kernel, fun _ => ⟨xin (i := 197) (by decide +kernel) rfl, xinP (i := 1) (by decide +kernel) rfl⟩, fun h => absurd h (by decide), fun h => absurd h (by decide)⟩
theorem v_Pa_takeTable : xY 0 y_Pa_takeTable b_Pa_takeTable 1 (some .int) 0 := ⟨xin (i := 202) (by decide +kernel) rfl, xin (i := 11) (by decide +kernel) rfl, ⟨by decide +kernel, by decide +kernel⟩, by decide +kernel, fun _ => ⟨xin (i := 201) (by decide +kernel) rfl, xinP (i := 2) (by decide +kernel) rfl⟩, fun h => absurd h (by decide), fun h => absurd h (by decide)⟩
theorem v_Pa_takeNumber : xY 0 y_Pa_takeNumber b_Pa_takeNumber 1 (some .boolean) 0 := ⟨xin (i := 206) (by decide +kernel) rfl, xin (i := 11) (by decide +kernel) rfl, ⟨by decide +kernel, by decide +kernel⟩, by decide +kernel, fun _ => ⟨xin (i := 205) (by decide +kernel) rfl, xinP (i := 3) (by decide +kernel) rfl⟩, fun h => absurd h (by decide), fun h => absurd h (by decide)⟩
theorem v_St_addNumber : xY 0 y_St_addNumber b_St_addNumber 2 none 1 := ⟨xin (i := 210) (by decide +kernel) rfl, xin (i := 12) (by decide +kernel) rfl, ⟨by decide +kernel, by decide +kernel⟩, by decide +kernel, fun _ => ⟨xin (i := 208) (by decide +kernel) rfl, xin (i := 209) (by decide +kernel) rfl⟩, fun h => absurd h (by decide), fun h => absurd h (by decide)⟩
theorem v_Pa_takeNumbers : xY 0 y_Pa_takeNumbers b_Pa_takeNumbers 3 (some .boolean) 0 := ⟨xin (i := 214) (by decide +kernel) rfl, xin (i := 11) (by decide +kernel) rfl, ⟨by decide +kernel, by decide +kernel⟩, by decide +kernel, fun _ => ⟨xin (i := 213) (by decide +kernel) rfl, xinP (i := 4) (by decide +kernel) rfl⟩, fun h => absurd h (by decide), fun h => absurd h (by decide)⟩
theorem v_Pa_takeConditions : xY 0 y_Pa_takeConditions b_Pa_takeConditions 4 (some .boolean) 0 := ⟨xin (i := 218) (by decide +kernel) rfl, xin (i := 11) (by decide +kernel) rfl, ⟨by decide +kernel, by decide +kernel⟩, by decide +kernel, fun _ => ⟨xin (i := 217) (by decide +kernel) rfl, xinP (i := 5) (by decide +kernel) rfl⟩, fun h => absurd h (by decide), fun h => absurd h (by decide)⟩
theorem v_Pa_takeWord : xY 0 y_Pa_takeWord b_Pa_takeWord 2 (some .boolean) 1 := ⟨xin (i := 222) (by decide +kernel) rfl, xin (i := 11) (by decide +kernel) rfl, ⟨by decide +kernel, by decide +kernel⟩, by decide +kernel, fun _ => ⟨xin (i := 221) (by decide +kernel) rfl, xinP (i := 6) (by decide +kernel) rfl⟩, fun h => absurd h (by decide), fun h => absurd h (by decide)⟩
theorem v_Pa_takeCondition : xY 0 y_Pa_takeCondition b_Pa_takeCondition 4 (some (.object "CursorBase$Condition")) 0 := ⟨xin (i := 226) (by decide +kernel) rfl, xin (i := 11) (by decide +kernel) rfl, ⟨by decide +kernel, by decide +kernel⟩, by decide +kernel, fun _ => ⟨xin (i := 225) (by decide +kernel) rfl, xinP (i := 7) (by decide +kernel) rfl⟩, fun h => absurd h (by decide), fun h => absurd h (by decide)⟩
theorem v_Pa_takeOperand : xY 0 y_Pa_takeOperand b_Pa_takeOperand 1 (some (.object "CursorBase$Operand")) 0 := ⟨xin (i := 230) (by decide +kernel) rfl, xin (i := 11) (by decide +kernel) rfl, ⟨by decide +kernel, by decide +kernel⟩, by decide +kernel, fun _ => ⟨xin (i := 229) (by decide +kernel) rfl, xinP (i := 8) (by decide +kernel) rfl⟩, fun h => absurd h (by decide), fun h => absurd h (by decide)⟩
theorem v_Op_init : xY 1 y_Op_init b_Op_init 3 none 2 := ⟨xin (i := 235) (by decide +kernel) rfl, xin (i := 13) (by decide +kernel) rfl, ⟨by decide +kernel, by decide +kernel⟩, by decide +kernel, fun h => absurd h (by decide), fun _ => ⟨xin (i := 234) (by decide +kernel) rfl, rfl, rfl⟩, fun h => absurd h (by decide)⟩
theorem v_Cn_init : xY 1 y_Cn_init b_Cn_init 4 none 3 := ⟨xin (i := 248) (by decide +kernel) rfl, xin (i := 14) (by decide +kernel) rfl, ⟨by decide +kernel, by decide +kernel⟩, by decide +kernel, fun h => absurd h (by decide), fun _ => ⟨xin (i := 247) (by decide +kernel) rfl, rfl, rfl⟩, fun h => absurd h (by decide)⟩
theorem v_St_addCondition : xY 0 y_St_addCondition b_St_addCondition 2 none 1 := ⟨xin (i := 263) (by decide +kernel) rfl, xin (i := 12) (by decide +kernel) rfl, ⟨by decide +kernel, by decide +kernel⟩, by decide +kernel, fun _ => ⟨xin (i := 261) (by decide +kernel) rfl, xin (i := 262) (by decide +kernel) rfl⟩, fun h => absurd h (by decide), fun h => absurd h (by decide)⟩
theorem v_Pa_takeList : xY 0 y_Pa_takeList b_Pa_takeList 1 (some .boolean) 0 := ⟨xin (i := 267) (by decide +kernel) rfl, xin (i := 11) (by decide +kernel) rfl, ⟨by decide +kernel, by decide +kernel⟩, by decide +kernel, fun _ => ⟨xin (i := 266) (by decide +kernel) rfl, xinP (i := 9) (by decide +kernel) rfl⟩, fun h => absurd h (by decide), fun h => absurd h (by decide)⟩
theorem v_Pa_takeColumns : xY 0 y_Pa_takeColumns b_Pa_takeColumns 3 (some .boolean) 1 := ⟨xin (i := 271) (by decide +kernel) rfl, xin (i := 11) (by decide +kernel) rfl, ⟨by decide +kernel, by decide +kernel⟩, by decide +kernel, fun _ => ⟨xin (i := 270) (by decide +kernel) rfl, xinP (i := 10) (by decide +kernel) rfl⟩, fun h => absurd h (by decide), fun h => absurd h (by decide)⟩
theorem v_St_addPick : xY 0 y_St_addPick b_St_addPick 2 none 1 := ⟨xin (i := 275) (by decide +kernel) rfl, xin (i := 12) (by decide +kernel) rfl, ⟨by decide +kernel, by decide +kernel⟩, by decide +kernel, fun _ => ⟨xin (i := 273) (by decide +kernel) rfl, xin (i := 274) (by decide +kernel) rfl⟩, fun h => absurd h (by decide), fun h => absurd h (by decide)⟩
theorem v_Pa_takeFrom : xY 0 y_Pa_takeFrom b_Pa_takeFrom 1 (some .boolean) 0 := ⟨xin (i := 280) (by decide +kernel) rfl, xin (i := 11) (by decide +kernel) rfl, ⟨by decide +kernel, by decide +kernel⟩, by decide +kernel, fun _ => ⟨xin (i := 279) (by decide +kernel) rfl, xinP (i := 11) (by decide +kernel) rfl⟩, fun h => absurd h (by decide), fun h => absurd h (by decide)⟩
theorem v_Pa_takeOrder : xY 0 y_Pa_takeOrder b_Pa_takeOrder 1 (some .boolean) 0 := ⟨xin (i := 284) (by decide +kernel) rfl, xin (i := 11) (by decide +kernel) rfl, ⟨by decide +kernel, by decide +kernel⟩, by decide +kernel, fun _ => ⟨xin (i := 283) (by decide +kernel) rfl, xinP (i := 12) (by decide +kernel) rfl⟩, fun h => absurd h (by decide), fun h => absurd h (by decide)⟩
theorem v_To_drop : xY 0 y_To_drop b_To_drop 1 none 0 := ⟨xin (i := 288) (by decide +kernel) rfl, xin (i := 2) (by decide +kernel) rfl, ⟨by decide +kernel, by decide +kernel⟩, by decide +kernel, fun _ => ⟨xin (i := 286) (by decide +kernel) rfl, xin (i := 287) (by decide +kernel) rfl⟩, fun h => absurd h (by decide), fun h => absurd h (by decide)⟩
theorem v_St_fault : xY 0 y_St_fault b_St_fault 2 (some .int) 1 := ⟨xin (i := 292) (by decide +kernel) rfl, xin (i := 12) (by decide +kernel) rfl, ⟨by decide +kernel, by decide +kernel⟩, by decide +kernel, fun _ => ⟨xin (i := 290) (by decide +kernel) rfl, xin (i := 291) (by decide +kernel) rfl⟩, fun h => absurd h (by decide), fun h => absurd h (by decide)⟩
theorem v_St_faultOfCreate : xY 0 y_St_faultOfCreate b_St_faultOfCreate 2 (some .int) 1 := ⟨xin (i := 296) (by decide +kernel) rfl, xin (i := 12) (by decide +kernel) rfl, ⟨by decide +kernel, by decide +kernel⟩, by decide +kernel, fun _ => ⟨xin (i := 295) (by decide +kernel) rfl, xinP (i := 13) (by decide +kernel) rfl⟩, fun h => absurd h (by decide), fun h => absurd h (by decide)⟩
theorem v_Ta_isThere : xY 0 y_Ta_isThere b_Ta_isThere 2 (some .boolean) 1 := ⟨xin (i := 300) (by decide +kernel) rfl, xin (i := 3) (by decide +kernel) rfl, ⟨by decide +kernel, by decide +kernel⟩, by decide +kernel, fun _ => ⟨xin (i := 298) (by decide +kernel) rfl, xin (i := 299) (by decide +kernel) rfl⟩, fun h => absurd h (by decide), fun h => absurd h (by decide)⟩
theorem v_Ta_columnsOf : xY 0 y_Ta_columnsOf b_Ta_columnsOf 2 (some .int) 1 := ⟨xin (i := 304) (by decide +kernel) rfl, xin (i := 3) (by decide +kernel) rfl, ⟨by decide +kernel, by decide +kernel⟩, by decide +kernel, fun _ => ⟨xin (i := 302) (by decide +kernel) rfl, xin (i := 303) (by decide +kernel) rfl⟩, fun h => absurd h (by decide), fun h => absurd h (by decide)⟩
theorem v_St_columnsAreThere : xY 0 y_St_columnsAreThere b_St_columnsAreThere 4 (some .boolean) 2 := ⟨xin (i := 309) (by decide +kernel) rfl, xin (i := 12) (by decide +kernel) rfl, ⟨by decide +kernel, by decide +kernel⟩, by decide +kernel, fun _ => ⟨xin (i := 308) (by decide +kernel) rfl, xinP (i := 14) (by decide +kernel) rfl⟩, fun h => absurd h (by decide), fun h => absurd h (by decide)⟩
theorem v_Op_isThere : xY 0 y_Op_isThere b_Op_isThere 3 (some .boolean) 2 := ⟨xin (i := 313) (by decide +kernel) rfl, xin (i := 13) (by decide +kernel) rfl, ⟨by decide +kernel, by decide +kernel⟩, by decide +kernel, fun _ => ⟨xin (i := 311) (by decide +kernel) rfl, xin (i := 312) (by decide +kernel) rfl⟩, fun h => absurd h (by decide), fun h => absurd h (by decide)⟩
theorem v_Cn_isThere : xY 0 y_Cn_isThere b_Cn_isThere 3 (some .boolean) 2 := ⟨xin (i := 317) (by decide +kernel) rfl, xin (i := 14) (by decide +kernel) rfl, ⟨by decide +kernel, by decide +kernel⟩, by decide +kernel, fun _ => ⟨xin (i := 315) (by decide +kernel) rfl, xin (i := 316) (by decide +kernel) rfl⟩, fun h => absurd h (by decide), fun h => absurd h (by decide)⟩
theorem v_St_spellOutAll : xY 0 y_St_spellOutAll b_St_spellOutAll 2 none 1 := ⟨xin (i := 322) (by decide +kernel) rfl, xin (i := 12) (by decide +kernel) rfl, ⟨by decide +kernel, by decide +kernel⟩, by decide +kernel, fun _ => ⟨xin (i := 320) (by decide +kernel) rfl, xin (i := 321) (by decide +kernel) rfl⟩, fun h => absurd h (by decide), fun h => absurd h (by decide)⟩
theorem v_St_addPicks : xY 0 y_St_addPicks b_St_addPicks 4 none 2 := ⟨xin (i := 326) (by decide +kernel) rfl, xin (i := 12) (by decide +kernel) rfl, ⟨by decide +kernel, by decide +kernel⟩, by decide +kernel, fun _ => ⟨xin (i := 325) (by decide +kernel) rfl, xinP (i := 15) (by decide +kernel) rfl⟩, fun h => absurd h (by decide), fun h => absurd h (by decide)⟩
theorem v_Ru_begin : xY 0 y_Ru_begin b_Ru_begin 2 none 1 := ⟨xin (i := 331) (by decide +kernel) rfl, xin (i := 4) (by decide +kernel) rfl, ⟨by decide +kernel, by decide +kernel⟩, by decide +kernel, fun _ => ⟨xin (i := 329) (by decide +kernel) rfl, xin (i := 330) (by decide +kernel) rfl⟩, fun h => absurd h (by decide), fun h => absurd h (by decide)⟩
theorem v_CB_all : xY 0 y_CB_all b_CB_all 1 (some .int) 0 := ⟨xin (i := 335) (by decide +kernel) rfl, xin (i := 1) (by decide +kernel) rfl, ⟨by decide +kernel, by decide +kernel⟩, by decide +kernel, fun _ => ⟨xin (i := 333) (by decide +kernel) rfl, xin (i := 334) (by decide +kernel) rfl⟩, fun h => absurd h (by decide), fun h => absurd h (by decide)⟩
theorem v_Ta_rowsInAll : xY 0 y_Ta_rowsInAll b_Ta_rowsInAll 1 (some .int) 0 := ⟨xin (i := 339) (by decide +kernel) rfl, xin (i := 3) (by decide +kernel) rfl, ⟨by decide +kernel, by decide +kernel⟩, by decide +kernel, fun _ => ⟨xin (i := 337) (by decide +kernel) rfl, xin (i := 338) (by decide +kernel) rfl⟩, fun h => absurd h (by decide), fun h => absurd h (by decide)⟩
theorem v_CB_clear : xY 0 y_CB_clear b_CB_clear 1 none 0 := ⟨xin (i := 343) (by decide +kernel) rfl, xin (i := 1) (by decide +kernel) rfl, ⟨by decide +kernel, by decide +kernel⟩, by decide +kernel, fun _ => ⟨xin (i := 341) (by decide +kernel) rfl, xin (i := 342) (by decide +kernel) rfl⟩, fun h => absurd h (by decide), fun h => absurd h (by decide)⟩
theorem v_Ta_drop : xY 0 y_Ta_drop b_Ta_drop 2 none 0 := ⟨xin (i := 347) (by decide +kernel) rfl, xin (i := 3) (by decide +kernel) rfl, ⟨by decide +kernel, by decide +kernel⟩, by decide +kernel, fun _ => ⟨xin (i := 345) (by decide +kernel) rfl, xin (i := 346) (by decide +kernel) rfl⟩, fun h => absurd h (by decide), fun h => absurd h (by decide)⟩
theorem v_CB_feed : xY 0 y_CB_feed b_CB_feed 3 (some .int) 2 := ⟨xin (i := 356) (by decide +kernel) rfl, xin (i := 1) (by decide +kernel) rfl, ⟨by decide +kernel, by decide +kernel⟩, by decide +kernel, fun _ => ⟨xin (i := 354) (by decide +kernel) rfl, xin (i := 355) (by decide +kernel) rfl⟩, fun h => absurd h (by decide), fun h => absurd h (by decide)⟩
theorem v_To_isToken : xY 2 y_To_isToken b_To_isToken 2 (some .boolean) 2 := ⟨xin (i := 359) (by decide +kernel) rfl, xin (i := 2) (by decide +kernel) rfl, ⟨by decide +kernel, by decide +kernel⟩, by decide +kernel, fun h => absurd h (by decide), fun h => absurd h (by decide), fun _ => xin (i := 358) (by decide +kernel) rfl⟩
theorem v_To_isColumnFrom : xY 2 y_To_isColumnFrom b_To_isColumnFrom 2 (some .boolean) 2 := ⟨xin (i := 362) (by decide +kernel) rfl, xin (i := 2) (by decide +kernel) rfl, ⟨by decide +kernel, by decide +kernel⟩, by decide +kernel, fun h => absurd h (by decide), fun h => absurd h (by decide), fun _ => xin (i := 361) (by decide +kernel) rfl⟩
theorem v_To_isFull : xY 0 y_To_isFull b_To_isFull 1 (some .boolean) 0 := ⟨xin (i := 434) (by decide +kernel) rfl, xin (i := 2) (by decide +kernel) rfl, ⟨by decide +kernel, by decide +kernel⟩, by decide +kernel, fun _ => ⟨xin (i := 432) (by decide +kernel) rfl, xin (i := 433) (by decide +kernel) rfl⟩, fun h => absurd h (by decide), fun h => absurd h (by decide)⟩
theorem v_To_put : xY 0 y_To_put b_To_put 3 none 2 := ⟨xin (i := 454) (by decide +kernel) rfl, xin (i := 2) (by decide +kernel) rfl, ⟨by decide +kernel, by decide +kernel⟩, by decide +kernel, fun _ => ⟨xin (i := 452) (by decide +kernel) rfl, xin (i := 453) (by decide +kernel) rfl⟩, fun h => absurd h (by decide), fun h => absurd h (by decide)⟩
theorem v_CB_step : xY 0 y_CB_step b_CB_step 1 (some .int) 0 := ⟨xin (i := 462) (by decide +kernel) rfl, xin (i := 1) (by decide +kernel) rfl, ⟨by decide +kernel, by decide +kernel⟩, by decide +kernel, fun _ => ⟨xin (i := 460) (by decide +kernel) rfl, xin (i := 461) (by decide +kernel) rfl⟩, fun h => absurd h (by decide), fun h => absurd h (by decide)⟩
theorem v_Ru_advance : xY 0 y_Ru_advance b_Ru_advance 3 (some .int) 1 := ⟨xin (i := 467) (by decide +kernel) rfl, xin (i := 4) (by decide +kernel) rfl, ⟨by decide +kernel, by decide +kernel⟩, by decide +kernel, fun _ => ⟨xin (i := 465) (by decide +kernel) rfl, xin (i := 466) (by decide +kernel) rfl⟩, fun h => absurd h (by decide), fun h => absurd h (by decide)⟩
theorem v_Ta_create : xY 0 y_Ta_create b_Ta_create 3 (some .int) 2 := ⟨xin (i := 471) (by decide +kernel) rfl, xin (i := 3) (by decide +kernel) rfl, ⟨by decide +kernel, by decide +kernel⟩, by decide +kernel, fun _ => ⟨xin (i := 469) (by decide +kernel) rfl, xin (i := 470) (by decide +kernel) rfl⟩, fun h => absurd h (by decide), fun h => absurd h (by decide)⟩
theorem v_Ta_insert : xY 0 y_Ta_insert b_Ta_insert 5 (some .int) 2 := ⟨xin (i := 476) (by decide +kernel) rfl, xin (i := 3) (by decide +kernel) rfl, ⟨by decide +kernel, by decide +kernel⟩, by decide +kernel, fun _ => ⟨xin (i := 474) (by decide +kernel) rfl, xin (i := 475) (by decide +kernel) rfl⟩, fun h => absurd h (by decide), fun h => absurd h (by decide)⟩
theorem v_Ta_placeNotBelow : xY 0 y_Ta_placeNotBelow b_Ta_placeNotBelow 5 (some .int) 2 := ⟨xin (i := 480) (by decide +kernel) rfl, xin (i := 3) (by decide +kernel) rfl, ⟨by decide +kernel, by decide +kernel⟩, by decide +kernel, fun _ => ⟨xin (i := 479) (by decide +kernel) rfl, xinP (i := 17) (by decide +kernel) rfl⟩, fun h => absurd h (by decide), fun h => absurd h (by decide)⟩
theorem v_Ta_rowsOf : xY 0 y_Ta_rowsOf b_Ta_rowsOf 2 (some .int) 1 := ⟨xin (i := 484) (by decide +kernel) rfl, xin (i := 3) (by decide +kernel) rfl, ⟨by decide +kernel, by decide +kernel⟩, by decide +kernel, fun _ => ⟨xin (i := 482) (by decide +kernel) rfl, xin (i := 483) (by decide +kernel) rfl⟩, fun h => absurd h (by decide), fun h => absurd h (by decide)⟩
theorem v_Ta_keyAt : xY 0 y_Ta_keyAt b_Ta_keyAt 3 (some .int) 2 := ⟨xin (i := 488) (by decide +kernel) rfl, xin (i := 3) (by decide +kernel) rfl, ⟨by decide +kernel, by decide +kernel⟩, by decide +kernel, fun _ => ⟨xin (i := 486) (by decide +kernel) rfl, xin (i := 487) (by decide +kernel) rfl⟩, fun h => absurd h (by decide), fun h => absurd h (by decide)⟩
theorem v_Ta_cellOf : xY 0 y_Ta_cellOf b_Ta_cellOf 3 (some .int) 2 := ⟨xin (i := 492) (by decide +kernel) rfl, xin (i := 3) (by decide +kernel) rfl, ⟨by decide +kernel, by decide +kernel⟩, by decide +kernel, fun _ => ⟨xin (i := 491) (by decide +kernel) rfl, xinP (i := 18) (by decide +kernel) rfl⟩, fun h => absurd h (by decide), fun h => absurd h (by decide)⟩
theorem v_Ta_hasKeyAt : xY 0 y_Ta_hasKeyAt b_Ta_hasKeyAt 4 (some .boolean) 3 := ⟨xin (i := 496) (by decide +kernel) rfl, xin (i := 3) (by decide +kernel) rfl, ⟨by decide +kernel, by decide +kernel⟩, by decide +kernel, fun _ => ⟨xin (i := 495) (by decide +kernel) rfl, xinP (i := 19) (by decide +kernel) rfl⟩, fun h => absurd h (by decide), fun h => absurd h (by decide)⟩
theorem v_Ta_moveStartsBehind : xY 0 y_Ta_moveStartsBehind b_Ta_moveStartsBehind 4 none 2 := ⟨xin (i := 504) (by decide +kernel) rfl, xin (i := 3) (by decide +kernel) rfl, ⟨by decide +kernel, by decide +kernel⟩, by decide +kernel, fun _ => ⟨xin (i := 503) (by decide +kernel) rfl, xinP (i := 20) (by decide +kernel) rfl⟩, fun h => absurd h (by decide), fun h => absurd h (by decide)⟩
theorem v_Ru_deleteRows : xY 0 y_Ru_deleteRows b_Ru_deleteRows 3 none 1 := ⟨xin (i := 508) (by decide +kernel) rfl, xin (i := 4) (by decide +kernel) rfl, ⟨by decide +kernel, by decide +kernel⟩, by decide +kernel, fun _ => ⟨xin (i := 507) (by decide +kernel) rfl, xinP (i := 21) (by decide +kernel) rfl⟩, fun h => absurd h (by decide), fun h => absurd h (by decide)⟩
theorem v_Ta_read : xY 0 y_Ta_read b_Ta_read 5 none 4 := ⟨xin (i := 513) (by decide +kernel) rfl, xin (i := 3) (by decide +kernel) rfl, ⟨by decide +kernel, by decide +kernel⟩, by decide +kernel, fun _ => ⟨xin (i := 511) (by decide +kernel) rfl, xin (i := 512) (by decide +kernel) rfl⟩, fun h => absurd h (by decide), fun h => absurd h (by decide)⟩
theorem v_St_holds : xY 0 y_St_holds b_St_holds 3 (some .boolean) 1 := ⟨xin (i := 517) (by decide +kernel) rfl, xin (i := 12) (by decide +kernel) rfl, ⟨by decide +kernel, by decide +kernel⟩, by decide +kernel, fun _ => ⟨xin (i := 515) (by decide +kernel) rfl, xin (i := 516) (by decide +kernel) rfl⟩, fun h => absurd h (by decide), fun h => absurd h (by decide)⟩
theorem v_Cn_holds : xY 0 y_Cn_holds b_Cn_holds 4 (some .boolean) 1 := ⟨xin (i := 521) (by decide +kernel) rfl, xin (i := 14) (by decide +kernel) rfl, ⟨by decide +kernel, by decide +kernel⟩, by decide +kernel, fun _ => ⟨xin (i := 519) (by decide +kernel) rfl, xin (i := 520) (by decide +kernel) rfl⟩, fun h => absurd h (by decide), fun h => absurd h (by decide)⟩
theorem v_Op_value : xY 0 y_Op_value b_Op_value 2 (some .int) 1 := ⟨xin (i := 525) (by decide +kernel) rfl, xin (i := 13) (by decide +kernel) rfl, ⟨by decide +kernel, by decide +kernel⟩, by decide +kernel, fun _ => ⟨xin (i := 523) (by decide +kernel) rfl, xin (i := 524) (by decide +kernel) rfl⟩, fun h => absurd h (by decide), fun h => absurd h (by decide)⟩
theorem v_Ta_remove : xY 0 y_Ta_remove b_Ta_remove 4 none 2 := ⟨xin (i := 529) (by decide +kernel) rfl, xin (i := 3) (by decide +kernel) rfl, ⟨by decide +kernel, by decide +kernel⟩, by decide +kernel, fun _ => ⟨xin (i := 527) (by decide +kernel) rfl, xin (i := 528) (by decide +kernel) rfl⟩, fun h => absurd h (by decide), fun h => absurd h (by decide)⟩
theorem v_St_hasTotal : xY 0 y_St_hasTotal b_St_hasTotal 1 (some .boolean) 0 := ⟨xin (i := 533) (by decide +kernel) rfl, xin (i := 12) (by decide +kernel) rfl, ⟨by decide +kernel, by decide +kernel⟩, by decide +kernel, fun _ => ⟨xin (i := 531) (by decide +kernel) rfl, xin (i := 532) (by decide +kernel) rfl⟩, fun h => absurd h (by decide), fun h => absurd h (by decide)⟩
theorem v_Ru_giveTotal : xY 0 y_Ru_giveTotal b_Ru_giveTotal 3 (some .int) 1 := ⟨xin (i := 537) (by decide +kernel) rfl, xin (i := 4) (by decide +kernel) rfl, ⟨by decide +kernel, by decide +kernel⟩, by decide +kernel, fun _ => ⟨xin (i := 536) (by decide +kernel) rfl, xinP (i := 22) (by decide +kernel) rfl⟩, fun h => absurd h (by decide), fun h => absurd h (by decide)⟩
theorem v_Ru_findRow : xY 0 y_Ru_findRow b_Ru_findRow 4 (some .boolean) 1 := ⟨xin (i := 542) (by decide +kernel) rfl, xin (i := 4) (by decide +kernel) rfl, ⟨by decide +kernel, by decide +kernel⟩, by decide +kernel, fun _ => ⟨xin (i := 541) (by decide +kernel) rfl, xinP (i := 23) (by decide +kernel) rfl⟩, fun h => absurd h (by decide), fun h => absurd h (by decide)⟩
theorem v_Ru_place : xY 0 y_Ru_place b_Ru_place 3 (some .int) 2 := ⟨xin (i := 546) (by decide +kernel) rfl, xin (i := 4) (by decide +kernel) rfl, ⟨by decide +kernel, by decide +kernel⟩, by decide +kernel, fun _ => ⟨xin (i := 545) (by decide +kernel) rfl, xinP (i := 24) (by decide +kernel) rfl⟩, fun h => absurd h (by decide), fun h => absurd h (by decide)⟩
theorem v_Ru_giveRow : xY 0 y_Ru_giveRow b_Ru_giveRow 2 (some .int) 1 := ⟨xin (i := 551) (by decide +kernel) rfl, xin (i := 4) (by decide +kernel) rfl, ⟨by decide +kernel, by decide +kernel⟩, by decide +kernel, fun _ => ⟨xin (i := 550) (by decide +kernel) rfl, xinP (i := 25) (by decide +kernel) rfl⟩, fun h => absurd h (by decide), fun h => absurd h (by decide)⟩
theorem v_Ru_note : xY 0 y_Ru_note b_Ru_note 2 none 1 := ⟨xin (i := 555) (by decide +kernel) rfl, xin (i := 4) (by decide +kernel) rfl, ⟨by decide +kernel, by decide +kernel⟩, by decide +kernel, fun _ => ⟨xin (i := 554) (by decide +kernel) rfl, xinP (i := 26) (by decide +kernel) rfl⟩, fun h => absurd h (by decide), fun h => absurd h (by decide)⟩
theorem v_CB_reset : xY 0 y_CB_reset b_CB_reset 2 (some .int) 0 := ⟨xin (i := 562) (by decide +kernel) rfl, xin (i := 1) (by decide +kernel) rfl, ⟨by decide +kernel, by decide +kernel⟩, by decide +kernel, fun _ => ⟨xin (i := 560) (by decide +kernel) rfl, xin (i := 561) (by decide +kernel) rfl⟩, fun h => absurd h (by decide), fun h => absurd h (by decide)⟩
theorem v_CB_width : xY 0 y_CB_width b_CB_width 1 (some .int) 0 := ⟨xin (i := 569) (by decide +kernel) rfl, xin (i := 1) (by decide +kernel) rfl, ⟨by decide +kernel, by decide +kernel⟩, by decide +kernel, fun _ => ⟨xin (i := 567) (by decide +kernel) rfl, xin (i := 568) (by decide +kernel) rfl⟩, fun h => absurd h (by decide), fun h => absurd h (by decide)⟩
theorem v_St_columnCount : xY 0 y_St_columnCount b_St_columnCount 1 (some .int) 0 := ⟨xin (i := 573) (by decide +kernel) rfl, xin (i := 12) (by decide +kernel) rfl, ⟨by decide +kernel, by decide +kernel⟩, by decide +kernel, fun _ => ⟨xin (i := 571) (by decide +kernel) rfl, xin (i := 572) (by decide +kernel) rfl⟩, fun h => absurd h (by decide), fun h => absurd h (by decide)⟩
theorem v_CB_column : xY 0 y_CB_column b_CB_column 2 (some .long) 1 := ⟨xin (i := 582) (by decide +kernel) rfl, xin (i := 1) (by decide +kernel) rfl, ⟨by decide +kernel, by decide +kernel⟩, by decide +kernel, fun _ => ⟨xin (i := 580) (by decide +kernel) rfl, xin (i := 581) (by decide +kernel) rfl⟩, fun h => absurd h (by decide), fun h => absurd h (by decide)⟩
theorem v_Ru_valueAt : xY 0 y_Ru_valueAt b_Ru_valueAt 2 (some .long) 1 := ⟨xin (i := 603) (by decide +kernel) rfl, xin (i := 4) (by decide +kernel) rfl, ⟨by decide +kernel, by decide +kernel⟩, by decide +kernel, fun _ => ⟨xin (i := 601) (by decide +kernel) rfl, xin (i := 602) (by decide +kernel) rfl⟩, fun h => absurd h (by decide), fun h => absurd h (by decide)⟩
theorem v_CB_rows : xY 0 y_CB_rows b_CB_rows 2 (some .int) 1 := ⟨xin (i := 610) (by decide +kernel) rfl, xin (i := 1) (by decide +kernel) rfl, ⟨by decide +kernel, by decide +kernel⟩, by decide +kernel, fun _ => ⟨xin (i := 608) (by decide +kernel) rfl, xin (i := 609) (by decide +kernel) rfl⟩, fun h => absurd h (by decide), fun h => absurd h (by decide)⟩
theorem v_CB_nearest : xY 0 y_CB_nearest b_CB_nearest 5 (some .int) 3 := ⟨xin (i := 620) (by decide +kernel) rfl, xin (i := 1) (by decide +kernel) rfl, ⟨by decide +kernel, by decide +kernel⟩, by decide +kernel, fun _ => ⟨xin (i := 618) (by decide +kernel) rfl, xin (i := 619) (by decide +kernel) rfl⟩, fun h => absurd h (by decide), fun h => absurd h (by decide)⟩
theorem v_Ta_placeNearest : xY 0 y_Ta_placeNearest b_Ta_placeNearest 5 (some .int) 3 := ⟨xin (i := 625) (by decide +kernel) rfl, xin (i := 3) (by decide +kernel) rfl, ⟨by decide +kernel, by decide +kernel⟩, by decide +kernel, fun _ => ⟨xin (i := 623) (by decide +kernel) rfl, xin (i := 624) (by decide +kernel) rfl⟩, fun h => absurd h (by decide), fun h => absurd h (by decide)⟩
theorem v_Mo_init : xY 1 y_Mo_init b_Mo_init 1 none 0 := ⟨xin (i := 632) (by decide +kernel) rfl, xin (i := 5) (by decide +kernel) rfl, ⟨by decide +kernel, by decide +kernel⟩, by decide +kernel, fun h => absurd h (by decide), fun _ => ⟨xin (i := 631) (by decide +kernel) rfl, rfl, rfl⟩, fun h => absurd h (by decide)⟩
theorem v_Mo_thrown : xY 0 y_Mo_thrown b_Mo_thrown 1 (some .int) 0 := ⟨xin (i := 725) (by decide +kernel) rfl, xin (i := 5) (by decide +kernel) rfl, ⟨by decide +kernel, by decide +kernel⟩, by decide +kernel, fun _ => ⟨xin (i := 723) (by decide +kernel) rfl, xin (i := 724) (by decide +kernel) rfl⟩, fun h => absurd h (by decide), fun h => absurd h (by decide)⟩
theorem v_Mo_feed : xY 0 y_Mo_feed b_Mo_feed 4 (some .int) 2 := ⟨xin (i := 729) (by decide +kernel) rfl, xin (i := 5) (by decide +kernel) rfl, ⟨by decide +kernel, by decide +kernel⟩, by decide +kernel, fun _ => ⟨xin (i := 727) (by decide +kernel) rfl, xin (i := 728) (by decide +kernel) rfl⟩, fun h => absurd h (by decide), fun h => absurd h (by decide)⟩
theorem v_Mo_in : xY 2 y_Mo_in b_Mo_in 6 (some .boolean) 3 := ⟨xin (i := 733) (by decide +kernel) rfl, xin (i := 5) (by decide +kernel) rfl, ⟨by decide +kernel, by decide +kernel⟩, by decide +kernel, fun h => absurd h (by decide), fun h => absurd h (by decide), fun _ => xin (i := 732) (by decide +kernel) rfl⟩
theorem v_Mo_prepare : xY 0 y_Mo_prepare b_Mo_prepare 3 (some .int) 0 := ⟨xin (i := 741) (by decide +kernel) rfl, xin (i := 5) (by decide +kernel) rfl, ⟨by decide +kernel, by decide +kernel⟩, by decide +kernel, fun _ => ⟨xin (i := 739) (by decide +kernel) rfl, xin (i := 740) (by decide +kernel) rfl⟩, fun h => absurd h (by decide), fun h => absurd h (by decide)⟩
theorem v_Mo_wrong : xY 0 y_Mo_wrong b_Mo_wrong 2 (some .int) 0 := ⟨xin (i := 745) (by decide +kernel) rfl, xin (i := 5) (by decide +kernel) rfl, ⟨by decide +kernel, by decide +kernel⟩, by decide +kernel, fun _ => ⟨xin (i := 744) (by decide +kernel) rfl, xinP (i := 27) (by decide +kernel) rfl⟩, fun h => absurd h (by decide), fun h => absurd h (by decide)⟩
theorem v_Mo_reads : xY 0 y_Mo_reads b_Mo_reads 2 (some .boolean) 0 := ⟨xin (i := 749) (by decide +kernel) rfl, xin (i := 5) (by decide +kernel) rfl, ⟨by decide +kernel, by decide +kernel⟩, by decide +kernel, fun _ => ⟨xin (i := 748) (by decide +kernel) rfl, xinP (i := 28) (by decide +kernel) rfl⟩, fun h => absurd h (by decide), fun h => absurd h (by decide)⟩
theorem v_Mo_readsSelect : xY 0 y_Mo_readsSelect b_Mo_readsSelect 1 (some .boolean) 0 := ⟨xin (i := 753) (by decide +kernel) rfl, xin (i := 5) (by decide +kernel) rfl, ⟨by decide +kernel, by decide +kernel⟩, by decide +kernel, fun _ => ⟨xin (i := 752) (by decide +kernel) rfl, xinP (i := 29) (by decide +kernel) rfl⟩, fun h => absurd h (by decide), fun h => absurd h (by decide)⟩
theorem v_Mo_readsList : xY 0 y_Mo_readsList b_Mo_readsList 3 (some .boolean) 0 := ⟨xin (i := 757) (by decide +kernel) rfl, xin (i := 5) (by decide +kernel) rfl, ⟨by decide +kernel, by decide +kernel⟩, by decide +kernel, fun _ => ⟨xin (i := 756) (by decide +kernel) rfl, xinP (i := 30) (by decide +kernel) rfl⟩, fun h => absurd h (by decide), fun h => absurd h (by decide)⟩
theorem v_Mo_skips : xY 0 y_Mo_skips b_Mo_skips 2 (some .boolean) 1 := ⟨xin (i := 761) (by decide +kernel) rfl, xin (i := 5) (by decide +kernel) rfl, ⟨by decide +kernel, by decide +kernel⟩, by decide +kernel, fun _ => ⟨xin (i := 760) (by decide +kernel) rfl, xinP (i := 31) (by decide +kernel) rfl⟩, fun h => absurd h (by decide), fun h => absurd h (by decide)⟩
theorem v_Mo_isWord : xY 0 y_Mo_isWord b_Mo_isWord 2 (some .boolean) 1 := ⟨xin (i := 765) (by decide +kernel) rfl, xin (i := 5) (by decide +kernel) rfl, ⟨by decide +kernel, by decide +kernel⟩, by decide +kernel, fun _ => ⟨xin (i := 764) (by decide +kernel) rfl, xinP (i := 32) (by decide +kernel) rfl⟩, fun h => absurd h (by decide), fun h => absurd h (by decide)⟩
theorem v_Mo_isKind : xY 0 y_Mo_isKind b_Mo_isKind 2 (some .boolean) 1 := ⟨xin (i := 769) (by decide +kernel) rfl, xin (i := 5) (by decide +kernel) rfl, ⟨by decide +kernel, by decide +kernel⟩, by decide +kernel, fun _ => ⟨xin (i := 768) (by decide +kernel) rfl, xinP (i := 33) (by decide +kernel) rfl⟩, fun h => absurd h (by decide), fun h => absurd h (by decide)⟩
theorem v_Mo_readsTable : xY 0 y_Mo_readsTable b_Mo_readsTable 1 (some .int) 0 := ⟨xin (i := 773) (by decide +kernel) rfl, xin (i := 5) (by decide +kernel) rfl, ⟨by decide +kernel, by decide +kernel⟩, by decide +kernel, fun _ => ⟨xin (i := 772) (by decide +kernel) rfl, xinP (i := 34) (by decide +kernel) rfl⟩, fun h => absurd h (by decide), fun h => absurd h (by decide)⟩
theorem v_Mo_readsConditions : xY 0 y_Mo_readsConditions b_Mo_readsConditions 2 (some .boolean) 0 := ⟨xin (i := 777) (by decide +kernel) rfl, xin (i := 5) (by decide +kernel) rfl, ⟨by decide +kernel, by decide +kernel⟩, by decide +kernel, fun _ => ⟨xin (i := 776) (by decide +kernel) rfl, xinP (i := 35) (by decide +kernel) rfl⟩, fun h => absurd h (by decide), fun h => absurd h (by decide)⟩
theorem v_Mo_readsOperand : xY 0 y_Mo_readsOperand b_Mo_readsOperand 1 (some .boolean) 0 := ⟨xin (i := 781) (by decide +kernel) rfl, xin (i := 5) (by decide +kernel) rfl, ⟨by decide +kernel, by decide +kernel⟩, by decide +kernel, fun _ => ⟨xin (i := 780) (by decide +kernel) rfl, xinP (i := 36) (by decide +kernel) rfl⟩, fun h => absurd h (by decide), fun h => absurd h (by decide)⟩
theorem v_Mo_isThere : xY 0 y_Mo_isThere b_Mo_isThere 2 (some .boolean) 1 := ⟨xin (i := 785) (by decide +kernel) rfl, xin (i := 5) (by decide +kernel) rfl, ⟨by decide +kernel, by decide +kernel⟩, by decide +kernel, fun _ => ⟨xin (i := 784) (by decide +kernel) rfl, xinP (i := 37) (by decide +kernel) rfl⟩, fun h => absurd h (by decide), fun h => absurd h (by decide)⟩
theorem v_Mo_haveColumns : xY 0 y_Mo_haveColumns b_Mo_haveColumns 5 (some .boolean) 0 := ⟨xin (i := 790) (by decide +kernel) rfl, xin (i := 5) (by decide +kernel) rfl, ⟨by decide +kernel, by decide +kernel⟩, by decide +kernel, fun _ => ⟨xin (i := 789) (by decide +kernel) rfl, xinP (i := 38) (by decide +kernel) rfl⟩, fun h => absurd h (by decide), fun h => absurd h (by decide)⟩
theorem v_Mo_begins : xY 0 y_Mo_begins b_Mo_begins 1 none 0 := ⟨xin (i := 794) (by decide +kernel) rfl, xin (i := 5) (by decide +kernel) rfl, ⟨by decide +kernel, by decide +kernel⟩, by decide +kernel, fun _ => ⟨xin (i := 793) (by decide +kernel) rfl, xinP (i := 39) (by decide +kernel) rfl⟩, fun h => absurd h (by decide), fun h => absurd h (by decide)⟩
theorem v_Mo_step : xY 0 y_Mo_step b_Mo_step 1 (some .int) 0 := ⟨xin (i := 798) (by decide +kernel) rfl, xin (i := 5) (by decide +kernel) rfl, ⟨by decide +kernel, by decide +kernel⟩, by decide +kernel, fun _ => ⟨xin (i := 796) (by decide +kernel) rfl, xin (i := 797) (by decide +kernel) rfl⟩, fun h => absurd h (by decide), fun h => absurd h (by decide)⟩
theorem v_Mo_selects : xY 0 y_Mo_selects b_Mo_selects 2 (some .int) 0 := ⟨xin (i := 802) (by decide +kernel) rfl, xin (i := 5) (by decide +kernel) rfl, ⟨by decide +kernel, by decide +kernel⟩, by decide +kernel, fun _ => ⟨xin (i := 801) (by decide +kernel) rfl, xinP (i := 40) (by decide +kernel) rfl⟩, fun h => absurd h (by decide), fun h => absurd h (by decide)⟩
theorem v_Mo_isFold : xY 0 y_Mo_isFold b_Mo_isFold 1 (some .boolean) 0 := ⟨xin (i := 806) (by decide +kernel) rfl, xin (i := 5) (by decide +kernel) rfl, ⟨by decide +kernel, by decide +kernel⟩, by decide +kernel, fun _ => ⟨xin (i := 805) (by decide +kernel) rfl, xinP (i := 41) (by decide +kernel) rfl⟩, fun h => absurd h (by decide), fun h => absurd h (by decide)⟩
theorem v_Mo_folds : xY 0 y_Mo_folds b_Mo_folds 4 none 0 := ⟨xin (i := 810) (by decide +kernel) rfl, xin (i := 5) (by decide +kernel) rfl, ⟨by decide +kernel, by decide +kernel⟩, by decide +kernel, fun _ => ⟨xin (i := 809) (by decide +kernel) rfl, xinP (i := 42) (by decide +kernel) rfl⟩, fun h => absurd h (by decide), fun h => absurd h (by decide)⟩
theorem v_Mo_holds : xY 0 y_Mo_holds b_Mo_holds 8 (some .boolean) 2 := ⟨xin (i := 814) (by decide +kernel) rfl, xin (i := 5) (by decide +kernel) rfl, ⟨by decide +kernel, by decide +kernel⟩, by decide +kernel, fun _ => ⟨xin (i := 813) (by decide +kernel) rfl, xinP (i := 43) (by decide +kernel) rfl⟩, fun h => absurd h (by decide), fun h => absurd h (by decide)⟩
theorem v_Mo_value : xY 0 y_Mo_value b_Mo_value 5 (some .int) 3 := ⟨xin (i := 818) (by decide +kernel) rfl, xin (i := 5) (by decide +kernel) rfl, ⟨by decide +kernel, by decide +kernel⟩, by decide +kernel, fun _ => ⟨xin (i := 817) (by decide +kernel) rfl, xinP (i := 44) (by decide +kernel) rfl⟩, fun h => absurd h (by decide), fun h => absurd h (by decide)⟩
theorem v_Mo_cell : xY 0 y_Mo_cell b_Mo_cell 3 (some .int) 2 := ⟨xin (i := 822) (by decide +kernel) rfl, xin (i := 5) (by decide +kernel) rfl, ⟨by decide +kernel, by decide +kernel⟩, by decide +kernel, fun _ => ⟨xin (i := 821) (by decide +kernel) rfl, xinP (i := 45) (by decide +kernel) rfl⟩, fun h => absurd h (by decide), fun h => absurd h (by decide)⟩
theorem v_Mo_moves : xY 0 y_Mo_moves b_Mo_moves 1 (some .boolean) 0 := ⟨xin (i := 826) (by decide +kernel) rfl, xin (i := 5) (by decide +kernel) rfl, ⟨by decide +kernel, by decide +kernel⟩, by decide +kernel, fun _ => ⟨xin (i := 825) (by decide +kernel) rfl, xinP (i := 46) (by decide +kernel) rfl⟩, fun h => absurd h (by decide), fun h => absurd h (by decide)⟩
theorem v_Mo_behind : xY 0 y_Mo_behind b_Mo_behind 6 (some .int) 2 := ⟨xin (i := 830) (by decide +kernel) rfl, xin (i := 5) (by decide +kernel) rfl, ⟨by decide +kernel, by decide +kernel⟩, by decide +kernel, fun _ => ⟨xin (i := 829) (by decide +kernel) rfl, xinP (i := 47) (by decide +kernel) rfl⟩, fun h => absurd h (by decide), fun h => absurd h (by decide)⟩
theorem v_Mo_creates : xY 0 y_Mo_creates b_Mo_creates 1 (some .int) 0 := ⟨xin (i := 834) (by decide +kernel) rfl, xin (i := 5) (by decide +kernel) rfl, ⟨by decide +kernel, by decide +kernel⟩, by decide +kernel, fun _ => ⟨xin (i := 833) (by decide +kernel) rfl, xinP (i := 48) (by decide +kernel) rfl⟩, fun h => absurd h (by decide), fun h => absurd h (by decide)⟩
theorem v_Mo_inserts : xY 0 y_Mo_inserts b_Mo_inserts 2 (some .int) 0 := ⟨xin (i := 838) (by decide +kernel) rfl, xin (i := 5) (by decide +kernel) rfl, ⟨by decide +kernel, by decide +kernel⟩, by decide +kernel, fun _ => ⟨xin (i := 837) (by decide +kernel) rfl, xinP (i := 49) (by decide +kernel) rfl⟩, fun h => absurd h (by decide), fun h => absurd h (by decide)⟩
theorem v_Mo_findKey : xY 0 y_Mo_findKey b_Mo_findKey 5 (some .int) 2 := ⟨xin (i := 842) (by decide +kernel) rfl, xin (i := 5) (by decide +kernel) rfl, ⟨by decide +kernel, by decide +kernel⟩, by decide +kernel, fun _ => ⟨xin (i := 841) (by decide +kernel) rfl, xinP (i := 50) (by decide +kernel) rfl⟩, fun h => absurd h (by decide), fun h => absurd h (by decide)⟩
theorem v_Mo_deletes : xY 0 y_Mo_deletes b_Mo_deletes 4 (some .int) 0 := ⟨xin (i := 846) (by decide +kernel) rfl, xin (i := 5) (by decide +kernel) rfl, ⟨by decide +kernel, by decide +kernel⟩, by decide +kernel, fun _ => ⟨xin (i := 845) (by decide +kernel) rfl, xinP (i := 51) (by decide +kernel) rfl⟩, fun h => absurd h (by decide), fun h => absurd h (by decide)⟩
theorem v_Mo_reset : xY 0 y_Mo_reset b_Mo_reset 2 (some .int) 0 := ⟨xin (i := 850) (by decide +kernel) rfl, xin (i := 5) (by decide +kernel) rfl, ⟨by decide +kernel, by decide +kernel⟩, by decide +kernel, fun _ => ⟨xin (i := 848) (by decide +kernel) rfl, xin (i := 849) (by decide +kernel) rfl⟩, fun h => absurd h (by decide), fun h => absurd h (by decide)⟩
theorem v_Mo_width : xY 0 y_Mo_width b_Mo_width 1 (some .int) 0 := ⟨xin (i := 854) (by decide +kernel) rfl, xin (i := 5) (by decide +kernel) rfl, ⟨by decide +kernel, by decide +kernel⟩, by decide +kernel, fun _ => ⟨xin (i := 852) (by decide +kernel) rfl, xin (i := 853) (by decide +kernel) rfl⟩, fun h => absurd h (by decide), fun h => absurd h (by decide)⟩
theorem v_Mo_wide : xY 0 y_Mo_wide b_Mo_wide 1 (some .int) 0 := ⟨xin (i := 858) (by decide +kernel) rfl, xin (i := 5) (by decide +kernel) rfl, ⟨by decide +kernel, by decide +kernel⟩, by decide +kernel, fun _ => ⟨xin (i := 857) (by decide +kernel) rfl, xinP (i := 52) (by decide +kernel) rfl⟩, fun h => absurd h (by decide), fun h => absurd h (by decide)⟩
theorem v_Mo_listed : xY 0 y_Mo_listed b_Mo_listed 2 (some .int) 0 := ⟨xin (i := 862) (by decide +kernel) rfl, xin (i := 5) (by decide +kernel) rfl, ⟨by decide +kernel, by decide +kernel⟩, by decide +kernel, fun _ => ⟨xin (i := 861) (by decide +kernel) rfl, xinP (i := 53) (by decide +kernel) rfl⟩, fun h => absurd h (by decide), fun h => absurd h (by decide)⟩
theorem v_Mo_column : xY 0 y_Mo_column b_Mo_column 3 (some .long) 1 := ⟨xin (i := 866) (by decide +kernel) rfl, xin (i := 5) (by decide +kernel) rfl, ⟨by decide +kernel, by decide +kernel⟩, by decide +kernel, fun _ => ⟨xin (i := 864) (by decide +kernel) rfl, xin (i := 865) (by decide +kernel) rfl⟩, fun h => absurd h (by decide), fun h => absurd h (by decide)⟩
theorem v_Mo_rows : xY 0 y_Mo_rows b_Mo_rows 4 (some .int) 1 := ⟨xin (i := 870) (by decide +kernel) rfl, xin (i := 5) (by decide +kernel) rfl, ⟨by decide +kernel, by decide +kernel⟩, by decide +kernel, fun _ => ⟨xin (i := 868) (by decide +kernel) rfl, xin (i := 869) (by decide +kernel) rfl⟩, fun h => absurd h (by decide), fun h => absurd h (by decide)⟩
theorem v_Mo_all : xY 0 y_Mo_all b_Mo_all 1 (some .int) 0 := ⟨xin (i := 874) (by decide +kernel) rfl, xin (i := 5) (by decide +kernel) rfl, ⟨by decide +kernel, by decide +kernel⟩, by decide +kernel, fun _ => ⟨xin (i := 872) (by decide +kernel) rfl, xin (i := 873) (by decide +kernel) rfl⟩, fun h => absurd h (by decide), fun h => absurd h (by decide)⟩
theorem v_Mo_nearest : xY 0 y_Mo_nearest b_Mo_nearest 8 (some .int) 3 := ⟨xin (i := 878) (by decide +kernel) rfl, xin (i := 5) (by decide +kernel) rfl, ⟨by decide +kernel, by decide +kernel⟩, by decide +kernel, fun _ => ⟨xin (i := 876) (by decide +kernel) rfl, xin (i := 877) (by decide +kernel) rfl⟩, fun h => absurd h (by decide), fun h => absurd h (by decide)⟩
theorem v_Mo_clear : xY 0 y_Mo_clear b_Mo_clear 2 none 0 := ⟨xin (i := 882) (by decide +kernel) rfl, xin (i := 5) (by decide +kernel) rfl, ⟨by decide +kernel, by decide +kernel⟩, by decide +kernel, fun _ => ⟨xin (i := 880) (by decide +kernel) rfl, xin (i := 881) (by decide +kernel) rfl⟩, fun h => absurd h (by decide), fun h => absurd h (by decide)⟩
theorem l_La_41 : xLk R_La 41 y_CB_init := Or.inl (xin (i := 19) (by decide +kernel) rfl)
theorem l_CB_1 : Cond.methodLink R_CB 1 objectInit ∈ xT := xin (i := 22) (by decide +kernel) rfl
theorem l_CB_9 : xLk R_CB 9 y_To_init := Or.inr ⟨"CursorBase", xinN (i := 27) (by decide +kernel) rfl⟩
theorem l_To_3 : Cond.methodLink R_To 3 objectInit ∈ xT := xin (i := 30) (by decide +kernel) rfl
theorem l_CB_18 : xLk R_CB 18 y_Ta_init := Or.inr ⟨"CursorBase", xinN (i := 48) (by decide +kernel) rfl⟩
theorem l_Ta_3 : Cond.methodLink R_Ta 3 objectInit ∈ xT := xin (i := 51) (by decide +kernel) rfl
theorem l_CB_25 : xLk R_CB 25 y_Ru_init := Or.inr ⟨"CursorBase", xinN (i := 64) (by decide +kernel) rfl⟩
theorem l_Ru_3 : Cond.methodLink R_Ru 3 objectInit ∈ xT := xin (i := 67) (by decide +kernel) rfl
theorem l_La_54 : xLk R_La 54 y_CB_prepare := Or.inl (xin (i := 106) (by decide +kernel) rfl)
theorem l_CB_60 : xLk R_CB 60 y_Pa_init := Or.inl (xin (i := 112) (by decide +kernel) rfl)
theorem l_Pa_3 : Cond.methodLink R_Pa 3 objectInit ∈ xT := xin (i := 115) (by decide +kernel) rfl
theorem l_Pa_11 : xLk R_Pa 11 y_St_init := Or.inr ⟨"CursorBase", xinN (i := 118) (by decide +kernel) rfl⟩
theorem l_St_3 : Cond.methodLink R_St 3 objectInit ∈ xT := xin (i := 121) (by decide +kernel) rfl
theorem l_CB_63 : xLk R_CB 63 y_Pa_parse := Or.inl (xin (i := 183) (by decide +kernel) rfl)
theorem l_Pa_22 : xLk R_Pa 22 y_Pa_takeWordBetween := Or.inl (xin (i := 187) (by decide +kernel) rfl)
theorem l_Pa_75 : xLk R_Pa 75 y_To_isKind := Or.inl (xin (i := 191) (by decide +kernel) rfl)
theorem l_Pa_30 : xLk R_Pa 30 y_Pa_takeFirstTable := Or.inl (xin (i := 195) (by decide +kernel) rfl)
theorem l_Pa_64 : xLk R_Pa 64 y_Pa_takeTable := Or.inl (xin (i := 199) (by decide +kernel) rfl)
theorem l_Pa_34 : xLk R_Pa 34 y_Pa_takeNumber := Or.inl (xin (i := 203) (by decide +kernel) rfl)
theorem l_Pa_86 : xLk R_Pa 86 y_St_addNumber := Or.inl (xin (i := 207) (by decide +kernel) rfl)
theorem l_Pa_37 : xLk R_Pa 37 y_Pa_takeNumbers := Or.inl (xin (i := 211) (by decide +kernel) rfl)
theorem l_Pa_40 : xLk R_Pa 40 y_Pa_takeConditions := Or.inl (xin (i := 215) (by decide +kernel) rfl)
theorem l_Pa_60 : xLk R_Pa 60 y_Pa_takeWord := Or.inl (xin (i := 219) (by decide +kernel) rfl)
theorem l_Pa_105 : xLk R_Pa 105 y_Pa_takeCondition := Or.inl (xin (i := 223) (by decide +kernel) rfl)
theorem l_Pa_113 : xLk R_Pa 113 y_Pa_takeOperand := Or.inl (xin (i := 227) (by decide +kernel) rfl)
theorem l_Pa_127 : xLk R_Pa 127 y_Op_init := Or.inl (xin (i := 233) (by decide +kernel) rfl)
theorem l_Op_3 : Cond.methodLink R_Op 3 objectInit ∈ xT := xin (i := 236) (by decide +kernel) rfl
theorem l_Pa_119 : xLk R_Pa 119 y_Cn_init := Or.inl (xin (i := 246) (by decide +kernel) rfl)
theorem l_Cn_3 : Cond.methodLink R_Cn 3 objectInit ∈ xT := xin (i := 249) (by decide +kernel) rfl
theorem l_Pa_109 : xLk R_Pa 109 y_St_addCondition := Or.inl (xin (i := 260) (by decide +kernel) rfl)
theorem l_Pa_43 : xLk R_Pa 43 y_Pa_takeList := Or.inl (xin (i := 264) (by decide +kernel) rfl)
theorem l_Pa_96 : xLk R_Pa 96 y_Pa_takeColumns := Or.inl (xin (i := 268) (by decide +kernel) rfl)
theorem l_Pa_99 : xLk R_Pa 99 y_St_addPick := Or.inl (xin (i := 272) (by decide +kernel) rfl)
theorem l_St_43 : xLk R_St 43 y_Op_init := Or.inl (xin (i := 276) (by decide +kernel) rfl)
theorem l_Pa_46 : xLk R_Pa 46 y_Pa_takeFrom := Or.inl (xin (i := 277) (by decide +kernel) rfl)
theorem l_Pa_49 : xLk R_Pa 49 y_Pa_takeOrder := Or.inl (xin (i := 281) (by decide +kernel) rfl)
theorem l_CB_67 : xLk R_CB 67 y_To_drop := Or.inl (xin (i := 285) (by decide +kernel) rfl)
theorem l_CB_70 : xLk R_CB 70 y_St_fault := Or.inl (xin (i := 289) (by decide +kernel) rfl)
theorem l_St_52 : xLk R_St 52 y_St_faultOfCreate := Or.inl (xin (i := 293) (by decide +kernel) rfl)
theorem l_St_56 : xLk R_St 56 y_Ta_isThere := Or.inl (xin (i := 297) (by decide +kernel) rfl)
theorem l_Ta_21 : xLk R_Ta 21 y_Ta_columnsOf := Or.inl (xin (i := 301) (by decide +kernel) rfl)
theorem l_St_62 : xLk R_St 62 y_Ta_columnsOf := Or.inl (xin (i := 305) (by decide +kernel) rfl)
theorem l_St_66 : xLk R_St 66 y_St_columnsAreThere := Or.inl (xin (i := 306) (by decide +kernel) rfl)
theorem l_St_70 : xLk R_St 70 y_Op_isThere := Or.inl (xin (i := 310) (by decide +kernel) rfl)
theorem l_St_72 : xLk R_St 72 y_Cn_isThere := Or.inl (xin (i := 314) (by decide +kernel) rfl)
theorem l_Cn_22 : xLk R_Cn 22 y_Op_isThere := Or.inl (xin (i := 318) (by decide +kernel) rfl)
theorem l_CB_76 : xLk R_CB 76 y_St_spellOutAll := Or.inl (xin (i := 319) (by decide +kernel) rfl)
theorem l_St_73 : xLk R_St 73 y_St_addPicks := Or.inl (xin (i := 323) (by decide +kernel) rfl)
theorem l_St_76 : xLk R_St 76 y_St_addPick := Or.inl (xin (i := 327) (by decide +kernel) rfl)
theorem l_CB_80 : xLk R_CB 80 y_Ru_begin := Or.inl (xin (i := 328) (by decide +kernel) rfl)
theorem l_La_75 : xLk R_La 75 y_CB_all := Or.inl (xin (i := 332) (by decide +kernel) rfl)
theorem l_CB_125 : xLk R_CB 125 y_Ta_rowsInAll := Or.inl (xin (i := 336) (by decide +kernel) rfl)
theorem l_La_83 : xLk R_La 83 y_CB_clear := Or.inl (xin (i := 340) (by decide +kernel) rfl)
theorem l_CB_140 : xLk R_CB 140 y_Ta_drop := Or.inl (xin (i := 344) (by decide +kernel) rfl)
theorem l_La_45 : xLk R_La 45 y_La_feed := Or.inl (xin (i := 348) (by decide +kernel) rfl)
theorem l_La_7 : xLk R_La 7 y_CB_feed := Or.inl (xin (i := 353) (by decide +kernel) rfl)
theorem l_CB_30 : xLk R_CB 30 y_To_isToken := Or.inl (xin (i := 357) (by decide +kernel) rfl)
theorem l_To_18 : xLk R_To 18 y_To_isColumnFrom := Or.inl (xin (i := 360) (by decide +kernel) rfl)
theorem l_CB_41 : xLk R_CB 41 y_To_isFull := Or.inl (xin (i := 431) (by decide +kernel) rfl)
theorem l_CB_50 : xLk R_CB 50 y_To_put := Or.inl (xin (i := 451) (by decide +kernel) rfl)
theorem l_To_26 : xLk R_To 26 y_To_isFull := Or.inl (xin (i := 455) (by decide +kernel) rfl)
theorem l_La_58 : xLk R_La 58 y_La_step := Or.inl (xin (i := 456) (by decide +kernel) rfl)
theorem l_La_17 : xLk R_La 17 y_CB_step := Or.inl (xin (i := 459) (by decide +kernel) rfl)
theorem l_CB_90 : xLk R_CB 90 y_Ru_advance := Or.inl (xin (i := 464) (by decide +kernel) rfl)
theorem l_Ru_47 : xLk R_Ru 47 y_Ta_create := Or.inl (xin (i := 468) (by decide +kernel) rfl)
theorem l_Ta_48 : xLk R_Ta 48 y_Ta_isThere := Or.inl (xin (i := 472) (by decide +kernel) rfl)
theorem l_Ru_53 : xLk R_Ru 53 y_Ta_insert := Or.inl (xin (i := 473) (by decide +kernel) rfl)
theorem l_Ta_41 : xLk R_Ta 41 y_Ta_placeNotBelow := Or.inl (xin (i := 477) (by decide +kernel) rfl)
theorem l_Ta_35 : xLk R_Ta 35 y_Ta_rowsOf := Or.inl (xin (i := 481) (by decide +kernel) rfl)
theorem l_Ta_38 : xLk R_Ta 38 y_Ta_keyAt := Or.inl (xin (i := 485) (by decide +kernel) rfl)
theorem l_Ta_25 : xLk R_Ta 25 y_Ta_cellOf := Or.inl (xin (i := 489) (by decide +kernel) rfl)
theorem l_Ta_44 : xLk R_Ta 44 y_Ta_hasKeyAt := Or.inl (xin (i := 493) (by decide +kernel) rfl)
theorem l_Ta_52 : xLk R_Ta 52 y_Ta_rowsInAll := Or.inl (xin (i := 497) (by decide +kernel) rfl)
theorem l_Ta_29 : Cond.methodLink R_Ta 29 arraycopyName ∈ xT := xin (i := 498) (by decide +kernel) rfl
theorem l_Ta_56 : xLk R_Ta 56 y_Ta_moveStartsBehind := Or.inl (xin (i := 501) (by decide +kernel) rfl)
theorem l_Ru_57 : xLk R_Ru 57 y_Ru_deleteRows := Or.inl (xin (i := 505) (by decide +kernel) rfl)
theorem l_Ru_76 : xLk R_Ru 76 y_Ta_rowsOf := Or.inl (xin (i := 509) (by decide +kernel) rfl)
theorem l_Ru_80 : xLk R_Ru 80 y_Ta_read := Or.inl (xin (i := 510) (by decide +kernel) rfl)
theorem l_Ru_83 : xLk R_Ru 83 y_St_holds := Or.inl (xin (i := 514) (by decide +kernel) rfl)
theorem l_St_84 : xLk R_St 84 y_Cn_holds := Or.inl (xin (i := 518) (by decide +kernel) rfl)
theorem l_Cn_28 : xLk R_Cn 28 y_Op_value := Or.inl (xin (i := 522) (by decide +kernel) rfl)
theorem l_Ru_87 : xLk R_Ru 87 y_Ta_remove := Or.inl (xin (i := 526) (by decide +kernel) rfl)
theorem l_Ru_61 : xLk R_Ru 61 y_St_hasTotal := Or.inl (xin (i := 530) (by decide +kernel) rfl)
theorem l_Ru_65 : xLk R_Ru 65 y_Ru_giveTotal := Or.inl (xin (i := 534) (by decide +kernel) rfl)
theorem l_Ru_91 : xLk R_Ru 91 y_Ru_findRow := Or.inl (xin (i := 539) (by decide +kernel) rfl)
theorem l_Ru_116 : xLk R_Ru 116 y_Ru_place := Or.inl (xin (i := 543) (by decide +kernel) rfl)
theorem l_Ru_107 : xLk R_Ru 107 y_Op_value := Or.inl (xin (i := 547) (by decide +kernel) rfl)
theorem l_Ru_69 : xLk R_Ru 69 y_Ru_giveRow := Or.inl (xin (i := 548) (by decide +kernel) rfl)
theorem l_Ru_72 : xLk R_Ru 72 y_Ru_note := Or.inl (xin (i := 552) (by decide +kernel) rfl)
theorem l_La_62 : xLk R_La 62 y_La_reset := Or.inl (xin (i := 556) (by decide +kernel) rfl)
theorem l_La_21 : xLk R_La 21 y_CB_reset := Or.inl (xin (i := 559) (by decide +kernel) rfl)
theorem l_La_65 : xLk R_La 65 y_La_width := Or.inl (xin (i := 563) (by decide +kernel) rfl)
theorem l_La_24 : xLk R_La 24 y_CB_width := Or.inl (xin (i := 566) (by decide +kernel) rfl)
theorem l_CB_96 : xLk R_CB 96 y_St_columnCount := Or.inl (xin (i := 570) (by decide +kernel) rfl)
theorem l_St_80 : xLk R_St 80 y_St_hasTotal := Or.inl (xin (i := 574) (by decide +kernel) rfl)
theorem l_La_68 : xLk R_La 68 y_La_column := Or.inl (xin (i := 575) (by decide +kernel) rfl)
theorem l_La_27 : xLk R_La 27 y_CB_column := Or.inl (xin (i := 579) (by decide +kernel) rfl)
theorem l_CB_111 : xLk R_CB 111 y_Ru_valueAt := Or.inl (xin (i := 600) (by decide +kernel) rfl)
theorem l_La_72 : xLk R_La 72 y_La_rows := Or.inl (xin (i := 604) (by decide +kernel) rfl)
theorem l_La_33 : xLk R_La 33 y_CB_rows := Or.inl (xin (i := 607) (by decide +kernel) rfl)
theorem l_CB_117 : xLk R_CB 117 y_Ta_isThere := Or.inl (xin (i := 612) (by decide +kernel) rfl)
theorem l_CB_121 : xLk R_CB 121 y_Ta_rowsOf := Or.inl (xin (i := 613) (by decide +kernel) rfl)
theorem l_La_79 : xLk R_La 79 y_La_nearest := Or.inl (xin (i := 614) (by decide +kernel) rfl)
theorem l_La_37 : xLk R_La 37 y_CB_nearest := Or.inl (xin (i := 617) (by decide +kernel) rfl)
theorem l_CB_130 : xLk R_CB 130 y_Ta_placeNearest := Or.inl (xin (i := 622) (by decide +kernel) rfl)
theorem l_CB_136 : xLk R_CB 136 y_Ta_keyAt := Or.inl (xin (i := 627) (by decide +kernel) rfl)
theorem l_La_44 : xLk R_La 44 y_Mo_init := Or.inl (xin (i := 630) (by decide +kernel) rfl)
theorem l_Mo_1 : Cond.methodLink R_Mo 1 objectInit ∈ xT := xin (i := 633) (by decide +kernel) rfl
theorem l_La_51 : xLk R_La 51 y_Mo_thrown := Or.inl (xin (i := 722) (by decide +kernel) rfl)
theorem l_La_50 : xLk R_La 50 y_Mo_feed := Or.inl (xin (i := 726) (by decide +kernel) rfl)
theorem l_Mo_37 : xLk R_Mo 37 y_Mo_in := Or.inl (xin (i := 731) (by decide +kernel) rfl)
theorem l_La_57 : xLk R_La 57 y_Mo_prepare := Or.inl (xin (i := 738) (by decide +kernel) rfl)
theorem l_Mo_109 : xLk R_Mo 109 y_Mo_wrong := Or.inl (xin (i := 742) (by decide +kernel) rfl)
theorem l_Mo_98 : xLk R_Mo 98 y_Mo_reads := Or.inl (xin (i := 746) (by decide +kernel) rfl)
theorem l_Mo_95 : xLk R_Mo 95 y_Mo_readsSelect := Or.inl (xin (i := 750) (by decide +kernel) rfl)
theorem l_Mo_75 : xLk R_Mo 75 y_Mo_readsList := Or.inl (xin (i := 754) (by decide +kernel) rfl)
theorem l_Mo_68 : xLk R_Mo 68 y_Mo_skips := Or.inl (xin (i := 758) (by decide +kernel) rfl)
theorem l_Mo_59 : xLk R_Mo 59 y_Mo_isWord := Or.inl (xin (i := 762) (by decide +kernel) rfl)
theorem l_Mo_55 : xLk R_Mo 55 y_Mo_isKind := Or.inl (xin (i := 766) (by decide +kernel) rfl)
theorem l_Mo_78 : xLk R_Mo 78 y_Mo_readsTable := Or.inl (xin (i := 770) (by decide +kernel) rfl)
theorem l_Mo_88 : xLk R_Mo 88 y_Mo_readsConditions := Or.inl (xin (i := 774) (by decide +kernel) rfl)
theorem l_Mo_71 : xLk R_Mo 71 y_Mo_readsOperand := Or.inl (xin (i := 778) (by decide +kernel) rfl)
theorem l_Mo_101 : xLk R_Mo 101 y_Mo_isThere := Or.inl (xin (i := 782) (by decide +kernel) rfl)
theorem l_Mo_106 : xLk R_Mo 106 y_Mo_haveColumns := Or.inl (xin (i := 787) (by decide +kernel) rfl)
theorem l_Mo_133 : xLk R_Mo 133 y_Mo_begins := Or.inl (xin (i := 791) (by decide +kernel) rfl)
theorem l_La_61 : xLk R_La 61 y_Mo_step := Or.inl (xin (i := 795) (by decide +kernel) rfl)
theorem l_Mo_185 : xLk R_Mo 185 y_Mo_selects := Or.inl (xin (i := 799) (by decide +kernel) rfl)
theorem l_Mo_176 : xLk R_Mo 176 y_Mo_isFold := Or.inl (xin (i := 803) (by decide +kernel) rfl)
theorem l_Mo_179 : xLk R_Mo 179 y_Mo_folds := Or.inl (xin (i := 807) (by decide +kernel) rfl)
theorem l_Mo_168 : xLk R_Mo 168 y_Mo_holds := Or.inl (xin (i := 811) (by decide +kernel) rfl)
theorem l_Mo_155 : xLk R_Mo 155 y_Mo_value := Or.inl (xin (i := 815) (by decide +kernel) rfl)
theorem l_Mo_151 : xLk R_Mo 151 y_Mo_cell := Or.inl (xin (i := 819) (by decide +kernel) rfl)
theorem l_Mo_182 : xLk R_Mo 182 y_Mo_moves := Or.inl (xin (i := 823) (by decide +kernel) rfl)
theorem l_Mo_162 : xLk R_Mo 162 y_Mo_behind := Or.inl (xin (i := 827) (by decide +kernel) rfl)
theorem l_Mo_188 : xLk R_Mo 188 y_Mo_creates := Or.inl (xin (i := 831) (by decide +kernel) rfl)
theorem l_Mo_191 : xLk R_Mo 191 y_Mo_inserts := Or.inl (xin (i := 835) (by decide +kernel) rfl)
theorem l_Mo_165 : xLk R_Mo 165 y_Mo_findKey := Or.inl (xin (i := 839) (by decide +kernel) rfl)
theorem l_Mo_194 : xLk R_Mo 194 y_Mo_deletes := Or.inl (xin (i := 843) (by decide +kernel) rfl)
theorem l_La_64 : xLk R_La 64 y_Mo_reset := Or.inl (xin (i := 847) (by decide +kernel) rfl)
theorem l_La_67 : xLk R_La 67 y_Mo_width := Or.inl (xin (i := 851) (by decide +kernel) rfl)
theorem l_Mo_200 : xLk R_Mo 200 y_Mo_wide := Or.inl (xin (i := 855) (by decide +kernel) rfl)
theorem l_Mo_197 : xLk R_Mo 197 y_Mo_listed := Or.inl (xin (i := 859) (by decide +kernel) rfl)
theorem l_La_71 : xLk R_La 71 y_Mo_column := Or.inl (xin (i := 863) (by decide +kernel) rfl)
theorem l_La_74 : xLk R_La 74 y_Mo_rows := Or.inl (xin (i := 867) (by decide +kernel) rfl)
theorem l_La_78 : xLk R_La 78 y_Mo_all := Or.inl (xin (i := 871) (by decide +kernel) rfl)
theorem l_La_82 : xLk R_La 82 y_Mo_nearest := Or.inl (xin (i := 875) (by decide +kernel) rfl)
theorem l_La_86 : xLk R_La 86 y_Mo_clear := Or.inl (xin (i := 879) (by decide +kernel) rfl)
theorem oi_i : Cond.instanceMethod objectInit ∈ xT := xin (i := 23) (by decide +kernel) rfl
theorem oi_c : Cond.code objectInit ⟨#[0xb1]⟩ 1 none ∈ xT := xin (i := 24) (by decide +kernel) rfl
theorem acp : Cond.native arraycopyName ∈ xT ∧ Cond.static arraycopyName ∈ xT ∧ Cond.initialized "java/lang/System" ∈ xT := ⟨xin (i := 500) (by decide +kernel) rfl, xin (i := 499) (by decide +kernel) rfl, xin (i := 15) (by decide +kernel) rfl⟩
end
